/-! ===== a COND: steps given out, and the signs that wait ===== -/
def sgn (x : Int) : Int := if x = 0 then 40 else if x = 1 then 124 else if x = 2 then 38 else 33
def jn2 (x a b : Int) : Int := if x = 38 then min a b else max a b
/-- one step of the class's row of steps -/
def rpS (E : Int → Int → Int) (V : List Int) (s : Int) : List Int :=
  if s / 10000 = 3 then (match V with | a :: V' => (2 - a) :: V' | [] => [])
  else if s / 10000 = 2 then (match V with | b :: a :: V' => min a b :: V' | V' => V')
  else if s / 10000 = 1 then (match V with | b :: a :: V' => max a b :: V' | V' => V')
  else if 3 < s / 10000 then (if V.length < 64 then E (s / 10000 - 4) (s % 10000) :: V else V)
  else V
def rpn (E : Int → Int → Int) (O : List Int) : List Int := O.foldl (rpS E) []
theorem rpn_snoc (E : Int → Int → Int) (O : List Int) (s : Int) : rpn E (O ++ [s]) = rpS E (rpn E O) s := by
  unfold rpn
  rw [List.foldl_append]
  rfl
def cRel (p : Int) : List Int → List Int → List Int × List Int
  | [], O => ([], O)
  | x :: W, O => if p ≤ x then cRel p W (O ++ [x * 10000]) else (x :: W, O)
def cTok (Z : List Int × List Int) (t : Int × Int) : List Int × List Int :=
  if t.1 = 33 then (3 :: Z.1, Z.2)
  else if t.1 = 40 then (0 :: Z.1, Z.2)
  else if t.1 = 38 then (2 :: (cRel 2 Z.1 Z.2).1, (cRel 2 Z.1 Z.2).2)
  else if t.1 = 124 then (1 :: (cRel 1 Z.1 Z.2).1, (cRel 1 Z.1 Z.2).2)
  else if t.1 = 41 then cRel 3 (cRel 1 Z.1 Z.2).1.tail (cRel 1 Z.1 Z.2).2
  else cRel 3 Z.1 (Z.2 ++ [(t.1 + 4) * 10000 + t.2])
def cAllT (ts : List (Int × Int)) : List Int × List Int := ts.foldl cTok ([], [])
def cOut (ts : List (Int × Int)) : List Int := (cRel 1 (cAllT ts).1 (cAllT ts).2).2
/-- the reference's -/
def rPop (c : Int) : List Int → List Int → List Int × List Int
  | x :: S, b :: a :: V => if x = 38 ∨ (c = 124 ∧ x = 124) then rPop c S (jn2 x a b :: V) else (x :: S, b :: a :: V)
  | S, V => (S, V)
def rCl : List Int → List Int → List Int × List Int
  | x :: S, b :: a :: V => if x = 40 then (x :: S, b :: a :: V) else rCl S (jn2 x a b :: V)
  | S, V => (S, V)
def rNot : List Int → List Int → List Int × List Int
  | x :: S, a :: V => if x = 33 then rNot S ((2 - a) :: V) else (x :: S, a :: V)
  | S, V => (S, V)
def rEnd : List Int → List Int → List Int
  | x :: S, b :: a :: V => rEnd S (jn2 x a b :: V)
  | _, V => V
def rTok (E : Int → Int → Int) (Z : List Int × List Int) (t : Int × Int) : List Int × List Int :=
  if t.1 = 33 ∨ t.1 = 40 then (t.1 :: Z.1, Z.2)
  else if t.1 = 38 ∨ t.1 = 124 then (t.1 :: (rPop t.1 Z.1 Z.2).1, (rPop t.1 Z.1 Z.2).2)
  else if t.1 = 41 then rNot (rCl Z.1 Z.2).1.tail (rCl Z.1 Z.2).2
  else rNot Z.1 (E t.1 t.2 :: Z.2)
def rAllT (E : Int → Int → Int) (ts : List (Int × Int)) : List Int × List Int := ts.foldl (rTok E) ([], [])
def rVal (E : Int → Int → Int) (ts : List (Int × Int)) : Int := if ts = [] then 2 else (rEnd (rAllT E ts).1 (rAllT E ts).2).headD 0
/-- the row that waits is in order -/
def wOrd : List Int → Prop
  | [] => True
  | [x] => 0 ≤ x ∧ x ≤ 3
  | x :: y :: W => (0 ≤ x ∧ x ≤ 3) ∧ (x = 0 ∨ y < x) ∧ wOrd (y :: W)
def wBin : List Int → Nat
  | [] => 0
  | x :: W => (if x = 1 ∨ x = 2 then 1 else 0) + wBin W
def wOpen : List Int → Nat
  | [] => 0
  | x :: W => (if x = 0 then 1 else 0) + wOpen W
theorem wOrd_tl {x : Int} {W : List Int} (h : wOrd (x :: W)) : wOrd W := by
  cases W with
  | nil => trivial
  | cons y W => exact h.2.2
theorem wOrd_hd {x : Int} {W : List Int} (h : wOrd (x :: W)) : 0 ≤ x ∧ x ≤ 3 := by
  cases W with
  | nil => exact h
  | cons y W => exact h.1
theorem wOrd_lt {x y : Int} {W : List Int} (h : wOrd (x :: y :: W)) : x = 0 ∨ y < x := h.2.1
abbrev top3 (W : List Int) : Prop := W.head? ≠ some 3
theorem top3_tl {x : Int} {W : List Int} (h : wOrd (x :: W)) (hx : 1 ≤ x) : top3 W := by
  cases W with
  | nil => simp [top3]
  | cons y W =>
    have h1 := wOrd_lt h
    have h2 := wOrd_hd h
    simp only [top3, List.head?_cons, ne_eq, Option.some.injEq]
    omega
theorem rpS_bin {E : Int → Int → Int} {x b a : Int} {V : List Int} (hx : x = 1 ∨ x = 2) : rpS E (b :: a :: V) (x * 10000) = jn2 (sgn x) a b :: V := by
  rcases hx with rfl | rfl
  · unfold rpS jn2 sgn
    simp
  · unfold rpS jn2 sgn
    simp
theorem rpS_not {E : Int → Int → Int} {a : Int} {V : List Int} : rpS E (a :: V) (3 * 10000) = (2 - a) :: V := by
  unfold rpS
  simp
theorem rpS_test {E : Int → Int → Int} {c n : Int} {V : List Int} (hc : 0 ≤ c ∧ c ≤ 6) (hn : 0 ≤ n ∧ n ≤ 9999) (hV : V.length < 64) : rpS E V ((c + 4) * 10000 + n) = E c n :: V := by
  unfold rpS
  rw [show ((c + 4) * 10000 + n) / 10000 = c + 4 by omega, show ((c + 4) * 10000 + n) % 10000 = n by omega]
  rw [if_neg (by omega), if_neg (by omega), if_neg (by omega), if_pos (by omega), if_pos hV, show c + 4 - 4 = c by omega]
theorem two_of {V : List Int} {n : Nat} (h : V.length = n + 2) : ∃ b a V', V = b :: a :: V' ∧ V'.length = n := by
  match V, h with
  | b :: a :: V', h => exact ⟨b, a, V', rfl, by simp at h; exact h⟩
theorem one_of {V : List Int} {n : Nat} (h : V.length = n + 1) : ∃ a V', V = a :: V' ∧ V'.length = n := by
  match V, h with
  | a :: V', h => exact ⟨a, V', rfl, by simp at h; exact h⟩
/-- popping on both sides: '&' (p = 2) and '|' (p = 1) -/
theorem sim_pop {E : Int → Int → Int} {p c : Int} (hp : (p = 2 ∧ c = 38) ∨ (p = 1 ∧ c = 124)) : ∀ (W O : List Int), wOrd W → top3 W → (rpn E O).length = wBin W + 1 →
    (rPop c (W.map sgn) (rpn E O)).1 = (cRel p W O).1.map sgn ∧ (rPop c (W.map sgn) (rpn E O)).2 = rpn E (cRel p W O).2 ∧ wOrd (cRel p W O).1 ∧ (rpn E (cRel p W O).2).length = wBin (cRel p W O).1 + 1 ∧ wOpen (cRel p W O).1 = wOpen W ∧ (∀ y, (cRel p W O).1.head? = some y → y < p)
  | [], O, _, _, hl => by
    have ep : rPop c [] (rpn E O) = ([], rpn E O) := by
      match rpn E O with
      | [] => rfl
      | [a] => rfl
      | b :: a :: V => rfl
    have ec : cRel p [] O = ([], O) := rfl
    rw [List.map_nil, ep, ec]
    exact ⟨rfl, rfl, trivial, hl, rfl, fun y hy => by simp at hy⟩
  | x :: W, O, ho, ht, hl => by
    have hx := wOrd_hd ho
    have hx3 : x ≠ 3 := by simpa [top3] using ht
    by_cases h1 : p ≤ x
    · have hb : x = 1 ∨ x = 2 := by omega
      have hl' : (rpn E O).length = wBin W + 2 := by rw [hl]; show (if x = 1 ∨ x = 2 then 1 else 0) + wBin W + 1 = _; rw [if_pos hb]; omega
      obtain ⟨b, a, V, e, hV⟩ := two_of hl'
      have er : rpn E (O ++ [x * 10000]) = jn2 (sgn x) a b :: V := by rw [rpn_snoc, e, rpS_bin hb]
      have ih := sim_pop (E := E) hp W (O ++ [x * 10000]) (wOrd_tl ho) (top3_tl ho (by omega)) (by rw [er]; simp [hV])
      have ec : cRel p (x :: W) O = cRel p W (O ++ [x * 10000]) := by rw [cRel, if_pos h1]
      have ep : rPop c ((x :: W).map sgn) (rpn E O) = rPop c (W.map sgn) (rpn E (O ++ [x * 10000])) := by
        rw [e, er, List.map_cons, rPop]
        rw [if_pos (by unfold sgn; rcases hb with rfl | rfl <;> simp <;> omega)]
      rw [ec, ep]
      refine ⟨ih.1, ih.2.1, ih.2.2.1, ih.2.2.2.1, ?_, ih.2.2.2.2.2⟩
      rw [ih.2.2.2.2.1]
      show _ = (if x = 0 then 1 else 0) + wOpen W
      rw [if_neg (by omega)]
      omega
    · have ec : cRel p (x :: W) O = (x :: W, O) := by rw [cRel, if_neg h1]
      have ep : rPop c ((x :: W).map sgn) (rpn E O) = ((x :: W).map sgn, rpn E O) := by
        have hs : ¬ (sgn x = 38 ∨ (c = 124 ∧ sgn x = 124)) := by
          unfold sgn
          (repeat' split) <;> omega
        rw [List.map_cons]
        match rpn E O with
        | [] => rfl
        | [a] => rfl
        | b :: a :: V => rw [rPop, if_neg hs]
      rw [ec, ep]
      exact ⟨rfl, rfl, ho, hl, rfl, fun y hy => by simp at hy; omega⟩
/-- up to the sign that opened -/
theorem sim_cl {E : Int → Int → Int} : ∀ (W O : List Int), wOrd W → top3 W → 0 < wOpen W → (rpn E O).length = wBin W + 1 →
    (rCl (W.map sgn) (rpn E O)).1 = (cRel 1 W O).1.map sgn ∧ (rCl (W.map sgn) (rpn E O)).2 = rpn E (cRel 1 W O).2 ∧ wOrd (cRel 1 W O).1 ∧ (rpn E (cRel 1 W O).2).length = wBin (cRel 1 W O).1 + 1 ∧ wOpen (cRel 1 W O).1 = wOpen W ∧ ∃ W', (cRel 1 W O).1 = 0 :: W'
  | [], O, _, _, h, _ => by simp [wOpen] at h
  | x :: W, O, ho, ht, hop, hl => by
    have hx := wOrd_hd ho
    have hx3 : x ≠ 3 := by simpa [top3] using ht
    by_cases h1 : 1 ≤ x
    · have hb : x = 1 ∨ x = 2 := by omega
      have hl' : (rpn E O).length = wBin W + 2 := by rw [hl]; show (if x = 1 ∨ x = 2 then 1 else 0) + wBin W + 1 = _; rw [if_pos hb]; omega
      obtain ⟨b, a, V, e, hV⟩ := two_of hl'
      have er : rpn E (O ++ [x * 10000]) = jn2 (sgn x) a b :: V := by rw [rpn_snoc, e, rpS_bin hb]
      have hop' : wOpen (x :: W) = wOpen W := by
        show (if x = 0 then 1 else 0) + wOpen W = _
        rw [if_neg (by omega)]
        omega
      have ih := sim_cl (E := E) W (O ++ [x * 10000]) (wOrd_tl ho) (top3_tl ho h1) (by omega) (by rw [er]; simp [hV])
      have ec : cRel 1 (x :: W) O = cRel 1 W (O ++ [x * 10000]) := by rw [cRel, if_pos h1]
      have ep : rCl ((x :: W).map sgn) (rpn E O) = rCl (W.map sgn) (rpn E (O ++ [x * 10000])) := by
        rw [e, er, List.map_cons, rCl]
        rw [if_neg (by unfold sgn; rcases hb with rfl | rfl <;> simp)]
      rw [ec, ep, hop']
      exact ih
    · have hx0 : x = 0 := by omega
      have ec : cRel 1 (x :: W) O = (x :: W, O) := by rw [cRel, if_neg h1]
      have ep : rCl ((x :: W).map sgn) (rpn E O) = ((x :: W).map sgn, rpn E O) := by
        rw [List.map_cons]
        match rpn E O with
        | [] => rfl
        | [a] => rfl
        | b :: a :: V => rw [rCl, if_pos (by rw [hx0]; rfl)]
      rw [ec, ep]
      exact ⟨rfl, rfl, ho, hl, rfl, W, by rw [hx0]⟩
/-- the turns -/
theorem sim_not {E : Int → Int → Int} : ∀ (W O : List Int), wOrd W → (rpn E O).length = wBin W + 1 →
    (rNot (W.map sgn) (rpn E O)).1 = (cRel 3 W O).1.map sgn ∧ (rNot (W.map sgn) (rpn E O)).2 = rpn E (cRel 3 W O).2 ∧ wOrd (cRel 3 W O).1 ∧ (rpn E (cRel 3 W O).2).length = wBin (cRel 3 W O).1 + 1 ∧ wOpen (cRel 3 W O).1 = wOpen W ∧ top3 (cRel 3 W O).1
  | [], O, _, hl => by
    have ep : rNot [] (rpn E O) = ([], rpn E O) := by
      match rpn E O with
      | [] => rfl
      | a :: V => rfl
    have ec : cRel 3 [] O = ([], O) := rfl
    rw [List.map_nil, ep, ec]
    exact ⟨rfl, rfl, trivial, hl, rfl, by simp [top3]⟩
  | x :: W, O, ho, hl => by
    have hx := wOrd_hd ho
    by_cases h1 : 3 ≤ x
    · have hx3 : x = 3 := by omega
      have hl' : (rpn E O).length = wBin W + 1 := by rw [hl]; show (if x = 1 ∨ x = 2 then 1 else 0) + wBin W + 1 = _; rw [if_neg (by omega)]; omega
      obtain ⟨a, V, e, hV⟩ := one_of hl'
      have er : rpn E (O ++ [x * 10000]) = (2 - a) :: V := by rw [rpn_snoc, e, hx3, rpS_not]
      have ih := sim_not (E := E) W (O ++ [x * 10000]) (wOrd_tl ho) (by rw [er]; simp [hV])
      have ec : cRel 3 (x :: W) O = cRel 3 W (O ++ [x * 10000]) := by rw [cRel, if_pos h1]
      have ep : rNot ((x :: W).map sgn) (rpn E O) = rNot (W.map sgn) (rpn E (O ++ [x * 10000])) := by
        rw [e, er, List.map_cons, rNot]
        rw [if_pos (by rw [hx3]; rfl)]
      rw [ec, ep]
      refine ⟨ih.1, ih.2.1, ih.2.2.1, ih.2.2.2.1, ?_, ih.2.2.2.2.2⟩
      rw [ih.2.2.2.2.1]
      show _ = (if x = 0 then 1 else 0) + wOpen W
      rw [if_neg (by omega)]
      omega
    · have ec : cRel 3 (x :: W) O = (x :: W, O) := by rw [cRel, if_neg h1]
      have hs : ¬ sgn x = 33 := by
        unfold sgn
        (repeat' split) <;> omega
      have ep : rNot ((x :: W).map sgn) (rpn E O) = ((x :: W).map sgn, rpn E O) := by
        rw [List.map_cons]
        match rpn E O with
        | [] => rfl
        | a :: V => rw [rNot, if_neg hs]
      rw [ec, ep]
      exact ⟨rfl, rfl, ho, hl, rfl, by simp [top3]; omega⟩
/-- at the end -/
theorem sim_end {E : Int → Int → Int} : ∀ (W O : List Int), wOrd W → top3 W → wOpen W = 0 → (rpn E O).length = wBin W + 1 → rEnd (W.map sgn) (rpn E O) = rpn E (cRel 1 W O).2 ∧ (rpn E (cRel 1 W O).2).length = 1
  | [], O, _, _, _, hl => by
    unfold cRel
    refine ⟨?_, hl⟩
    rw [List.map_nil]
    unfold rEnd
    rfl
  | x :: W, O, ho, ht, hop, hl => by
    have hx := wOrd_hd ho
    have hx3 : x ≠ 3 := by simpa [top3] using ht
    have hop' : (if x = 0 then 1 else 0) + wOpen W = 0 := hop
    have hx0 : x ≠ 0 := by
      intro z
      rw [if_pos z] at hop'
      omega
    have hb : x = 1 ∨ x = 2 := by omega
    have hl' : (rpn E O).length = wBin W + 2 := by rw [hl]; show (if x = 1 ∨ x = 2 then 1 else 0) + wBin W + 1 = _; rw [if_pos hb]; omega
    obtain ⟨b, a, V, e, hV⟩ := two_of hl'
    have er : rpn E (O ++ [x * 10000]) = jn2 (sgn x) a b :: V := by rw [rpn_snoc, e, rpS_bin hb]
    have ih := sim_end (E := E) W (O ++ [x * 10000]) (wOrd_tl ho) (top3_tl ho (by omega)) (by omega) (by rw [er]; simp [hV])
    have ec : cRel 1 (x :: W) O = cRel 1 W (O ++ [x * 10000]) := by rw [cRel, if_pos (by omega)]
    have ep : rEnd ((x :: W).map sgn) (rpn E O) = rEnd (W.map sgn) (rpn E (O ++ [x * 10000])) := by
      rw [e, er, List.map_cons, rEnd]
    rw [ec, ep]
    exact ih
