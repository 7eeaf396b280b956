/-! ===== signs taken down, one by one, on arrays ===== -/
def bIn (E : Int → Int → Int) (p : Int) (Z : List Int × List Int) (g h : Int → Int) (v7 v6 : Int) : Prop :=
  ∃ W O, cRel p W O = cRel p Z.1 Z.2 ∧ wOrd W ∧ (p ≤ 2 → top3 W) ∧ wOpen W = wOpen Z.1 ∧ (rpn E O).length = wBin W + 1 ∧ aSt g v7 (W.map sgn) ∧ aSt h v6 (rpn E O)
theorem bIn_mk {E : Int → Int → Int} {p : Int} {Z : List Int × List Int} {g h : Int → Int} {v7 v6 : Int} (h1 : wOrd Z.1) (h2 : p ≤ 2 → top3 Z.1) (h3 : (rpn E Z.2).length = wBin Z.1 + 1) (h4 : aSt g v7 (Z.1.map sgn)) (h5 : aSt h v6 (rpn E Z.2)) : bIn E p Z g h v7 v6 :=
  ⟨Z.1, Z.2, rfl, h1, h2, rfl, h3, h4, h5⟩
theorem bIn_len {E : Int → Int → Int} (hE : ∀ c n, 0 ≤ E c n ∧ E c n ≤ 2) {p : Int} {Z : List Int × List Int} {g h : Int → Int} {v7 v6 : Int} (H : bIn E p Z g h v7 v6) : 0 ≤ v7 ∧ 1 ≤ v6 ∧ v6 ≤ 64 ∧ (∀ j, 0 ≤ j → j < v6 → 0 ≤ h j ∧ h j ≤ 2) := by
  obtain ⟨W, O, h1, h2, h3, h4, h5, h6, h7⟩ := H
  have a := aSt_len _ h6
  have b := aSt_len _ h7
  have c := rpn_vin hE O
  refine ⟨by omega, by omega, by omega, aSt_in _ h7 c.1⟩
theorem bIn_pop {E : Int → Int → Int} {p : Int} {Z : List Int × List Int} {g h : Int → Int} {v7 v6 : Int} (hp : p = 1 ∨ p = 2) (H : bIn E p Z g h v7 v6) (hv : 0 < v7) (ht : g (v7 - 1) = 38 ∨ (p = 1 ∧ ¬ g (v7 - 1) = 40)) :
    1 < v6 ∧ ∀ h' : Int → Int, h' (v6 - 2) = (if g (v7 - 1) = 38 then min (h (v6 - 2)) (h (v6 - 1)) else max (h (v6 - 2)) (h (v6 - 1))) → (∀ j, 0 ≤ j → j < v6 - 2 → h' j = h j) → bIn E p Z g h' (v7 - 1) (v6 - 1) := by
  obtain ⟨W, O, h1, h2, h3, h4, h5, h6, h7⟩ := H
  obtain ⟨x, W', rfl, e, h8⟩ := aSt_top h6 hv
  have hx := wOrd_hd h2
  have hx3 : x ≠ 3 := by simpa [top3] using h3 (by omega)
  have hs : sgn x = if x = 0 then 40 else if x = 1 then 124 else if x = 2 then 38 else 33 := rfl
  have hb : (x = 1 ∨ x = 2) ∧ p ≤ x := by
    rw [e] at ht
    by_cases c0 : x = 0
    · rw [hs, if_pos c0] at ht
      omega
    · by_cases c1 : x = 1
      · rw [hs, if_neg c0, if_pos c1] at ht
        omega
      · omega
  have hl : (rpn E O).length = wBin W' + 2 := by
    rw [h5]
    show (if x = 1 ∨ x = 2 then 1 else 0) + wBin W' + 1 = _
    rw [if_pos hb.1]
    omega
  have hl2 := aSt_len _ h7
  obtain ⟨b, a, V, eV, hV⟩ := two_of hl
  refine ⟨by omega, fun h' e1 e2 => ⟨W', O ++ [x * 10000], ?_, wOrd_tl h2, fun _ => top3_tl h2 (by omega), ?_, ?_, h8, ?_⟩⟩
  · rw [← h1, cRel, if_pos hb.2]
  · rw [← h4]
    show _ = (if x = 0 then 1 else 0) + wOpen W'
    rw [if_neg (by omega)]
    omega
  · rw [rpn_snoc, eV, rpS_bin hb.1]
    simp [hV]
  · exact pop_bin h7 hb.1 (by omega) (by rw [e1, e]) e2
theorem bIn_stop {E : Int → Int → Int} {p : Int} {Z : List Int × List Int} {g h : Int → Int} {v7 v6 : Int} (hp : p = 1 ∨ p = 2) (H : bIn E p Z g h v7 v6) (ht : v7 ≤ 0 ∨ (¬ g (v7 - 1) = 38 ∧ (p = 1 → ¬ g (v7 - 1) = 124))) :
    aSt g v7 ((cRel p Z.1 Z.2).1.map sgn) ∧ aSt h v6 (rpn E (cRel p Z.1 Z.2).2) := by
  obtain ⟨W, O, h1, h2, h3, h4, h5, h6, h7⟩ := H
  cases W with
  | nil => rw [← h1]; exact ⟨h6, h7⟩
  | cons x W =>
    have hl := aSt_len _ h6
    simp only [List.map_cons, List.length_cons] at hl
    have hx := wOrd_hd h2
    have hx3 : x ≠ 3 := by simpa [top3] using h3 (by omega)
    have hs : sgn x = if x = 0 then 40 else if x = 1 then 124 else if x = 2 then 38 else 33 := rfl
    have e : g (v7 - 1) = sgn x := h6.1
    rw [e] at ht
    have hb : ¬ p ≤ x := by
      rcases ht with z | ⟨z1, z2⟩
      · omega
      · intro z
        by_cases c1 : x = 1
        · have := z2 (by omega)
          rw [hs, if_neg (by omega), if_pos c1] at this
          exact this rfl
        · have c2 : x = 2 := by omega
          rw [hs, if_neg (by omega), if_neg c1, if_pos c2] at z1
          exact z1 rfl
    have ec : cRel p (x :: W) O = (x :: W, O) := by rw [cRel, if_neg hb]
    rw [← h1, ec]
    exact ⟨h6, h7⟩
theorem bIn_open {E : Int → Int → Int} {p : Int} {Z : List Int × List Int} {g h : Int → Int} {v7 v6 : Int} (H : bIn E p Z g h v7 v6) (ho : 0 < wOpen Z.1) : 0 < v7 := by
  obtain ⟨W, O, h1, h2, h3, h4, h5, h6, h7⟩ := H
  cases W with
  | nil => rw [← h4] at ho; simp [wOpen] at ho
  | cons x W =>
    have hl := aSt_len _ h6
    simp only [List.map_cons, List.length_cons] at hl
    omega
theorem bIn_none {E : Int → Int → Int} {p : Int} {Z : List Int × List Int} {g h : Int → Int} {v7 v6 : Int} (H : bIn E p Z g h v7 v6) (ho : wOpen Z.1 = 0) (hv : 0 < v7) : ¬ g (v7 - 1) = 40 := by
  obtain ⟨W, O, h1, h2, h3, h4, h5, h6, h7⟩ := H
  obtain ⟨x, W', rfl, e, h8⟩ := aSt_top h6 hv
  rw [e]
  rw [← h4] at ho
  have ho' : (if x = 0 then 1 else 0) + wOpen W' = 0 := ho
  have hx0 : x ≠ 0 := by
    intro z
    rw [if_pos z] at ho'
    omega
  unfold sgn
  rw [if_neg hx0]
  (repeat' split) <;> omega
theorem bIn_not {E : Int → Int → Int} {Z : List Int × List Int} {g h : Int → Int} {v7 v6 : Int} (H : bIn E 3 Z g h v7 v6) (hv : 0 < v7) (ht : g (v7 - 1) = 33) (h' : Int → Int) (e1 : h' (v6 - 1) = 2 - h (v6 - 1)) (e2 : ∀ j, 0 ≤ j → j < v6 - 1 → h' j = h j) : bIn E 3 Z g h' (v7 - 1) v6 := by
  obtain ⟨W, O, h1, h2, h3, h4, h5, h6, h7⟩ := H
  obtain ⟨x, W', rfl, e, h8⟩ := aSt_top h6 hv
  have hx := wOrd_hd h2
  have hx3 : x = 3 := by
    rw [e] at ht
    unfold sgn at ht
    by_cases c0 : x = 0
    · rw [if_pos c0] at ht; omega
    · by_cases c1 : x = 1
      · rw [if_neg c0, if_pos c1] at ht; omega
      · by_cases c2 : x = 2
        · rw [if_neg c0, if_neg c1, if_pos c2] at ht; omega
        · omega
  have hl : (rpn E O).length = wBin W' + 1 := by
    rw [h5]
    show (if x = 1 ∨ x = 2 then 1 else 0) + wBin W' + 1 = _
    rw [if_neg (by omega)]
    omega
  have hl2 := aSt_len _ h7
  obtain ⟨a, V, eV, hV⟩ := one_of hl
  refine ⟨W', O ++ [3 * 10000], ?_, wOrd_tl h2, fun z => by omega, ?_, ?_, h8, pop_not h7 (by omega) e1 e2⟩
  · rw [← h1, cRel, if_pos (by omega), hx3]
  · rw [← h4]
    show _ = (if x = 0 then 1 else 0) + wOpen W'
    rw [if_neg (by omega)]
    omega
  · rw [rpn_snoc, eV, rpS_not]
    simp [hV]
theorem bIn_nst {E : Int → Int → Int} {Z : List Int × List Int} {g h : Int → Int} {v7 v6 : Int} (H : bIn E 3 Z g h v7 v6) (ht : v7 ≤ 0 ∨ ¬ g (v7 - 1) = 33) :
    aSt g v7 ((cRel 3 Z.1 Z.2).1.map sgn) ∧ aSt h v6 (rpn E (cRel 3 Z.1 Z.2).2) := by
  obtain ⟨W, O, h1, h2, h3, h4, h5, h6, h7⟩ := H
  cases W with
  | nil => rw [← h1]; exact ⟨h6, h7⟩
  | cons x W =>
    have hl := aSt_len _ h6
    simp only [List.map_cons, List.length_cons] at hl
    have hx := wOrd_hd h2
    have e : g (v7 - 1) = sgn x := h6.1
    rw [e] at ht
    have hb : ¬ 3 ≤ x := by
      intro z
      have c3 : x = 3 := by omega
      rcases ht with z | z
      · omega
      · rw [c3] at z
        exact z rfl
    have ec : cRel 3 (x :: W) O = (x :: W, O) := by rw [cRel, if_neg hb]
    rw [← h1, ec]
    exact ⟨h6, h7⟩
def bP (c : Int) : Int := if c = 38 then 2 else 1
theorem bP_in (c : Int) : bP c = 1 ∨ bP c = 2 := by
  unfold bP
  split
  · exact Or.inr rfl
  · exact Or.inl rfl
def bZ3 (Z : List Int × List Int) (t : Int × Int) : List Int × List Int :=
  if t.1 = 41 then ((cRel 1 Z.1 Z.2).1.tail, (cRel 1 Z.1 Z.2).2) else (Z.1, Z.2 ++ [(t.1 + 4) * 10000 + t.2])
theorem tk_3 {Z : List Int × List Int} {t : Int × Int} (h1 : ¬ t.1 = 33) (h2 : ¬ t.1 = 40) (h3 : ¬ t.1 = 38) (h4 : ¬ t.1 = 124) : cTok Z t = cRel 3 (bZ3 Z t).1 (bZ3 Z t).2 := by
  unfold cTok bZ3
  rw [if_neg h1, if_neg h2, if_neg h3, if_neg h4]
  split <;> rfl
theorem tk_push {E : Int → Int → Int} {Z : List Int × List Int} {t : Int × Int} {g g' h : Int → Int} {v7 v6 : Int} (ht : t.1 = 33 ∨ t.1 = 40) (h1 : aSt g v7 (Z.1.map sgn)) (h2 : aSt h v6 (rpn E Z.2)) (e1 : g' v7 = t.1) (e2 : ∀ j, 0 ≤ j → j < v7 → g' j = g j) :
    aSt g' (v7 + 1) ((cTok Z t).1.map sgn) ∧ aSt h v6 (rpn E (cTok Z t).2) := by
  unfold cTok
  rcases ht with z | z
  · rw [if_pos z]
    exact ⟨aSt_push h1 (by rw [e1, z]; rfl) e2, h2⟩
  · rw [if_neg (by omega), if_pos z]
    exact ⟨aSt_push h1 (by rw [e1, z]; rfl) e2, h2⟩
theorem tk_bin {E : Int → Int → Int} {Z : List Int × List Int} {t : Int × Int} {g g' h : Int → Int} {v7 v6 : Int} (ht : t.1 = 38 ∨ t.1 = 124) (H : aSt g v7 ((cRel (bP t.1) Z.1 Z.2).1.map sgn) ∧ aSt h v6 (rpn E (cRel (bP t.1) Z.1 Z.2).2)) (e1 : g' v7 = t.1) (e2 : ∀ j, 0 ≤ j → j < v7 → g' j = g j) :
    aSt g' (v7 + 1) ((cTok Z t).1.map sgn) ∧ aSt h v6 (rpn E (cTok Z t).2) := by
  obtain ⟨h1, h2⟩ := H
  unfold cTok
  rcases ht with z | z
  · have hb : bP t.1 = 2 := by unfold bP; rw [if_pos z]
    rw [hb] at h1 h2
    rw [if_neg (by omega), if_neg (by omega), if_pos z]
    exact ⟨aSt_push h1 (by rw [e1, z]; rfl) e2, h2⟩
  · have hb : bP t.1 = 1 := by unfold bP; rw [if_neg (by omega)]
    rw [hb] at h1 h2
    rw [if_neg (by omega), if_neg (by omega), if_neg (by omega), if_pos z]
    exact ⟨aSt_push h1 (by rw [e1, z]; rfl) e2, h2⟩
/-- behind the sign that closes -/
theorem tk_close {E : Int → Int → Int} {Z : List Int × List Int} {t : Int × Int} {g h : Int → Int} {v7 v6 : Int} (ht : t.1 = 41) (hz1 : wOrd Z.1) (hz2 : top3 Z.1) (hz3 : (rpn E Z.2).length = wBin Z.1 + 1) (hz4 : 0 < wOpen Z.1) (H : aSt g v7 ((cRel 1 Z.1 Z.2).1.map sgn) ∧ aSt h v6 (rpn E (cRel 1 Z.1 Z.2).2)) : bIn E 3 (bZ3 Z t) g h (v7 - 1) v6 := by
  have s := sim_cl (E := E) Z.1 Z.2 hz1 hz2 hz4 hz3
  obtain ⟨W', hW'⟩ := s.2.2.2.2.2
  have s1 := s.2.2.1
  have s2 := s.2.2.2.1
  have e : bZ3 Z t = (W', (cRel 1 Z.1 Z.2).2) := by
    unfold bZ3
    rw [if_pos ht, hW']
    rfl
  rw [hW'] at s1 s2
  obtain ⟨h1, h2⟩ := H
  rw [hW'] at h1
  rw [e]
  refine bIn_mk (wOrd_tl s1) (fun z => by omega) ?_ h1.2 h2
  rw [s2]
  show (if (0 : Int) = 1 ∨ (0 : Int) = 2 then 1 else 0) + wBin W' + 1 = wBin W' + 1
  rw [if_neg (by omega)]
  omega
theorem tk_test {E : Int → Int → Int} {Z : List Int × List Int} {t : Int × Int} {g h h' : Int → Int} {v7 v6 : Int} (ht : 0 ≤ t.1 ∧ t.1 ≤ 6) (ht2 : 0 ≤ t.2 ∧ t.2 ≤ 9999) (hz1 : wOrd Z.1) (hz3 : (rpn E Z.2).length = wBin Z.1) (hz4 : (rpn E Z.2).length ≤ 30) (h1 : aSt g v7 (Z.1.map sgn)) (h2 : aSt h v6 (rpn E Z.2)) (e1 : h' v6 = E t.1 t.2) (e2 : ∀ j, 0 ≤ j → j < v6 → h' j = h j) : bIn E 3 (bZ3 Z t) g h' v7 (v6 + 1) := by
  have e : bZ3 Z t = (Z.1, Z.2 ++ [(t.1 + 4) * 10000 + t.2]) := by
    unfold bZ3
    rw [if_neg (by omega)]
  have ev : rpn E (Z.2 ++ [(t.1 + 4) * 10000 + t.2]) = E t.1 t.2 :: rpn E Z.2 := by
    rw [rpn_snoc, rpS_test ht ht2 (by omega)]
  rw [e]
  refine bIn_mk hz1 (fun z => by omega) ?_ h1 ?_
  · rw [ev]
    simp only [List.length_cons]
    omega
  · show aSt h' (v6 + 1) (rpn E (Z.2 ++ [(t.1 + 4) * 10000 + t.2]))
    rw [ev]
    exact aSt_push h2 e1 e2
/-- the row at its end -/
theorem tok_end {E : Int → Int → Int} {M : jM} {i len : Int} (h : gAll M i len) (hl : ¬ len = 0) :
    wOrd (cAllT (tPre M i len.toNat)).1 ∧ ((cAllT (tPre M i len.toNat)).1.length : Int) ≤ 47 ∧ top3 (cAllT (tPre M i len.toNat)).1 ∧ (rpn E (cAllT (tPre M i len.toNat)).2).length = wBin (cAllT (tPre M i len.toNat)).1 + 1 ∧ wOpen (cAllT (tPre M i len.toNat)).1 = 0 := by
  rcases h.2.2 with z | ⟨p, z⟩
  · exact absurd z hl
  · have g := sim_all (E := E) _ _ _ _ z
    unfold gInv at g
    rw [List.reverse_reverse] at g
    have hw := wLen _ g.2.2.1
    have h2 : (cAllT (tPre M i len.toNat)).1.head?.getD 0 ≤ 3 := by
      cases hW : (cAllT (tPre M i len.toNat)).1 with
      | nil => simp
      | cons x W =>
        have := g.2.2.1
        rw [hW] at this
        have := wOrd_hd this
        simp
        omega
    have h3 := g.2.2.2.2.1
    exact ⟨g.2.2.1, by omega, g.2.2.2.2.2.1 rfl, by rw [g.2.2.2.1, if_neg (by decide)], h3⟩
theorem cOut_eq (ts : List (Int × Int)) : cOut ts = (cRel 1 (cAllT ts).1 (cAllT ts).2).2 := rfl
/-! ===== how a RULE binds, by the reference's arrays ===== -/
def rB (M : jM) (i h m d : Int) : Int :=
  if (¬ (M 85 (20 * i + 1) ≤ d ∧ d ≤ M 85 (20 * i + 2)) ∨ (¬ M 85 (20 * i + 3) = -9 ∧ M 85 (20 * i + 3) ≤ d)) then 0
  else vBot (rpn (eTest (fAge (M 83) (M 82) h d 0) (fAge (M 83) (M 82) h d 1) (M 80 h) (M 76 m) (M 82 h) m) (cOut (tPre M i (M 85 (20 * i + 4)).toNat)))
theorem tPre_cg {M N : jM} (h1 : N 85 = M 85) (h2 : N 86 = M 86) (i : Int) (n : Nat) : tPre N i n = tPre M i n := by
  unfold tPre tAt
  rw [h1, h2]
theorem gAll_cg {M N : jM} (h1 : N 85 = M 85) (h2 : N 86 = M 86) {i len : Int} (h : gAll M i len) : gAll N i len := by
  unfold gAll at h ⊢
  rw [tPre_cg h1 h2, h1]
  exact h
theorem rB_cg {M N : jM} (h : ∀ c, c ≠ 87 → c ≠ 88 → N c = M c) (i hh m d : Int) : rB N i hh m d = rB M i hh m d := by
  unfold rB
  rw [tPre_cg (h 85 (by decide) (by decide)) (h 86 (by decide) (by decide)), h 85 (by decide) (by decide), h 83 (by decide) (by decide), h 82 (by decide) (by decide), h 80 (by decide) (by decide), h 76 (by decide) (by decide)]
theorem eFold_cg {lo : Bool} {sp sp' : Int → Bool} {tv tv' : Int → Int} {v0 v0' : Int} (h0 : v0 = v0') : ∀ (n : Nat), (∀ k : Int, 0 ≤ k → k < n → sp k = sp' k ∧ (sp k = true → tv k = tv' k)) → eFold lo sp tv v0 n = eFold lo sp' tv' v0' n
  | 0, _ => h0
  | n + 1, h => by
    have ih := eFold_cg (lo := lo) h0 n (fun k a b => h k a (by omega))
    have hn := h n (by omega) (by omega)
    unfold eFold
    rw [ih, ← hn.1]
    split
    · rename_i z
      rw [hn.2 z]
    · rfl
theorem eWhy_cg {sp sp' : Int → Bool} {tv tv' nb nb' : Int → Int} {v v' : Int} (h0 : v = v') : ∀ (n : Nat), (∀ k : Int, 0 ≤ k → k < n → ((sp k = true ∧ tv k = v) ↔ (sp' k = true ∧ tv' k = v')) ∧ nb k = nb' k) → eWhy sp tv nb v n = eWhy sp' tv' nb' v' n
  | 0, _ => rfl
  | n + 1, h => by
    have ih := eWhy_cg h0 n (fun k a b => h k a (by omega))
    have hn := h n (by omega) (by omega)
    unfold eWhy
    rw [ih, hn.2]
    by_cases z : sp n = true ∧ tv n = v
    · have z' := hn.1.1 z
      simp only [z.1, z.2, z'.1, z'.2, true_and]
    · have z' : ¬ (sp' n = true ∧ tv' n = v') := fun y => z (hn.1.2 y)
      rw [if_neg (fun y => z ⟨y.1, y.2.1⟩), if_neg (fun y => z' ⟨y.1, y.2.1⟩)]
theorem eFold_in {lo : Bool} {sp : Int → Bool} {tv : Int → Int} {v0 : Int} (h0 : 0 ≤ v0 ∧ v0 ≤ 9999) : ∀ (n : Nat), (∀ k : Int, 0 ≤ k → k < n → sp k = true → 0 ≤ tv k ∧ tv k ≤ 9999) → 0 ≤ eFold lo sp tv v0 n ∧ eFold lo sp tv v0 n ≤ 9999
  | 0, _ => h0
  | n + 1, h => by
    have ih := eFold_in (lo := lo) h0 n (fun k a b => h k a (by omega))
    unfold eFold
    split
    · rename_i z
      have := h n (by omega) (by omega) z
      split <;> omega
    · exact ih
