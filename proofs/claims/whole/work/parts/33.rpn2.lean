/-! ===== a COND that reads well (last token first) ===== -/
def gWf : List (Int × Int) → Bool → Nat → Nat → Prop
  | [], w, o, p => w = true ∧ o = 0 ∧ p = 0
  | t :: r, w, o, p =>
    (t.1 = 33 ∧ w = true ∧ gWf r true o p ∧ r.head?.map Prod.fst ≠ some 33) ∨
    (t.1 = 40 ∧ w = true ∧ 1 ≤ o ∧ o ≤ 10 ∧ gWf r true (o - 1) p) ∨
    ((t.1 = 38 ∨ t.1 = 124) ∧ w = true ∧ gWf r false o p) ∨
    (t.1 = 41 ∧ w = false ∧ gWf r false (o + 1) p) ∨
    ((0 ≤ t.1 ∧ t.1 ≤ 6) ∧ (0 ≤ t.2 ∧ t.2 ≤ 9999) ∧ w = false ∧ 1 ≤ p ∧ p ≤ 30 ∧ gWf r true o (p - 1))
theorem wLen : ∀ (W : List Int), wOrd W → (W.length : Int) ≤ 4 * wOpen W + (W.head?.getD 0)
  | [], _ => by simp [wOpen]
  | [x], h => by
    have hx : 0 ≤ x ∧ x ≤ 3 := h
    simp only [wOpen, List.length_cons, List.length_nil, List.head?_cons, Option.getD_some]
    split <;> omega
  | x :: y :: W, h => by
    have ih := wLen (y :: W) h.2.2
    have h1 := h.1
    have h2 := h.2.1
    have h3 := wOrd_hd h.2.2
    rw [show wOpen (x :: y :: W) = (if x = 0 then 1 else 0) + wOpen (y :: W) from rfl]
    simp only [List.length_cons, List.head?_cons, Option.getD_some] at ih ⊢
    split <;> omega
theorem wBin_rel (p : Int) : ∀ (W O : List Int), wBin (cRel p W O).1 ≤ wBin W
  | [], O => Nat.le_refl _
  | x :: W, O => by
    rw [cRel]
    split
    · have := wBin_rel p W (O ++ [x * 10000])
      show _ ≤ (if x = 1 ∨ x = 2 then 1 else 0) + wBin W
      omega
    · exact Nat.le_refl _
theorem wOrd_push {x : Int} {W : List Int} (hx : 0 ≤ x ∧ x ≤ 3) (h : wOrd W) (hy : x = 0 ∨ ∀ y, W.head? = some y → y < x) : wOrd (x :: W) := by
  cases W with
  | nil => exact hx
  | cons y W =>
    refine ⟨hx, ?_, h⟩
    rcases hy with z | z
    · exact Or.inl z
    · exact Or.inr (z y rfl)
theorem cAllT_s (r : List (Int × Int)) (t : Int × Int) : cAllT (t :: r).reverse = cTok (cAllT r.reverse) t := by
  unfold cAllT
  rw [List.reverse_cons, List.foldl_append]
  rfl
theorem rAllT_s (E : Int → Int → Int) (r : List (Int × Int)) (t : Int × Int) : rAllT E (t :: r).reverse = rTok E (rAllT E r.reverse) t := by
  unfold rAllT
  rw [List.reverse_cons, List.foldl_append]
  rfl
def gInv (E : Int → Int → Int) (r : List (Int × Int)) (w : Bool) (o p : Nat) : Prop :=
  (rAllT E r.reverse).1 = (cAllT r.reverse).1.map sgn ∧ (rAllT E r.reverse).2 = rpn E (cAllT r.reverse).2 ∧ wOrd (cAllT r.reverse).1 ∧
  (rpn E (cAllT r.reverse).2).length = wBin (cAllT r.reverse).1 + (if w = true then 0 else 1) ∧ wOpen (cAllT r.reverse).1 = o ∧ (w = false → top3 (cAllT r.reverse).1) ∧
  (w = true → (cAllT r.reverse).1.head? = some 3 → r.head?.map Prod.fst = some 33) ∧ (rpn E (cAllT r.reverse).2).length ≤ p ∧ o ≤ 10 + (if w = true then 0 else 1) ∧ p ≤ 30
theorem gWf_o : ∀ (r : List (Int × Int)) (w : Bool) (o p : Nat), gWf r w o p → o ≤ 10 ∧ p ≤ 30
  | [], w, o, p, h => by
    have h2 : w = true ∧ o = 0 ∧ p = 0 := h
    omega
  | t :: r, w, o, p, h => by
    rcases h with ⟨_, _, h, _⟩ | ⟨_, _, _, h2, h⟩ | ⟨_, _, h⟩ | ⟨_, _, h⟩ | ⟨_, _, _, _, h2, h⟩
    · exact gWf_o r _ _ _ h
    · have := gWf_o r _ _ _ h; omega
    · exact gWf_o r _ _ _ h
    · have := gWf_o r _ _ _ h; omega
    · have := gWf_o r _ _ _ h; omega
theorem sim_all {E : Int → Int → Int} : ∀ (r : List (Int × Int)) (w : Bool) (o p : Nat), gWf r w o p → gInv E r w o p
  | [], w, o, p, h => by
    have h2 : w = true ∧ o = 0 ∧ p = 0 := h
    obtain ⟨rfl, rfl, rfl⟩ := h2
    exact ⟨rfl, rfl, trivial, rfl, rfl, fun z => by simp at z, fun _ z => by simp [cAllT] at z, Nat.le_refl _, by simp, by omega⟩
  | t :: r, w, o, p, h => by
    have hop := gWf_o _ _ _ _ h
    unfold gInv
    rw [cAllT_s, rAllT_s]
    rcases h with ⟨h1, rfl, h, h2⟩ | ⟨h1, rfl, h3, h2, h⟩ | ⟨h1, rfl, h⟩ | ⟨h1, rfl, h⟩ | ⟨h1, h2, rfl, h3, h4, h⟩
    · obtain ⟨i1, i2, i3, i4, i5, i6, i7, i8, -, -⟩ := sim_all (E := E) r _ _ _ h
      have ec : cTok (cAllT r.reverse) t = (3 :: (cAllT r.reverse).1, (cAllT r.reverse).2) := by unfold cTok; rw [if_pos h1]
      have er : rTok E (rAllT E r.reverse) t = (33 :: (rAllT E r.reverse).1, (rAllT E r.reverse).2) := by unfold rTok; rw [if_pos (Or.inl h1), h1]
      rw [ec, er]
      refine ⟨by simp only [List.map_cons, i1]; rfl, i2, wOrd_push ⟨by omega, by omega⟩ i3 (Or.inr (fun y hy => ?_)), ?_, ?_, fun z => by simp at z, fun _ _ => by simp [h1], i8, by simp; omega, by omega⟩
      · cases hW : (cAllT r.reverse).1 with
        | nil => rw [hW] at hy; simp at hy
        | cons z W =>
          rw [hW] at hy i3
          have := wOrd_hd i3
          simp at hy
          have : y ≠ 3 := by
            intro e
            exact h2 (i7 rfl (by rw [hW]; simp [hy, e]))
          omega
      · rw [i4]
        show _ = (if (3 : Int) = 1 ∨ (3 : Int) = 2 then 1 else 0) + wBin (cAllT r.reverse).1 + _
        rw [if_neg (show ¬ ((3 : Int) = 1 ∨ (3 : Int) = 2) by omega)]
        omega
      · show (if (3 : Int) = 0 then 1 else 0) + wOpen (cAllT r.reverse).1 = o
        rw [if_neg (by omega), i5]
        omega
    · obtain ⟨i1, i2, i3, i4, i5, i6, i7, i8, -, -⟩ := sim_all (E := E) r _ _ _ h
      have ec : cTok (cAllT r.reverse) t = (0 :: (cAllT r.reverse).1, (cAllT r.reverse).2) := by unfold cTok; rw [if_neg (by omega), if_pos h1]
      have er : rTok E (rAllT E r.reverse) t = (40 :: (rAllT E r.reverse).1, (rAllT E r.reverse).2) := by unfold rTok; rw [if_pos (Or.inr h1), h1]
      rw [ec, er]
      refine ⟨by simp only [List.map_cons, i1]; rfl, i2, wOrd_push ⟨by omega, by omega⟩ i3 (Or.inl rfl), ?_, ?_, fun z => by simp at z, fun _ z => by simp at z, i8, by simp; omega, by omega⟩
      · rw [i4]
        show _ = (if (0 : Int) = 1 ∨ (0 : Int) = 2 then 1 else 0) + wBin (cAllT r.reverse).1 + _
        rw [if_neg (show ¬ ((0 : Int) = 1 ∨ (0 : Int) = 2) by omega)]
        omega
      · show (if (0 : Int) = 0 then 1 else 0) + wOpen (cAllT r.reverse).1 = o
        rw [if_pos rfl, i5]
        omega
    · obtain ⟨i1, i2, i3, i4, i5, i6, i7, i8, -, -⟩ := sim_all (E := E) r _ _ _ h
      rw [if_neg (by decide)] at i4
      rcases h1 with h1 | h1
      · have s := sim_pop (E := E) (p := 2) (c := 38) (Or.inl ⟨rfl, rfl⟩) _ _ i3 (i6 rfl) i4
        have hb := wBin_rel 2 (cAllT r.reverse).1 (cAllT r.reverse).2
        have ec : cTok (cAllT r.reverse) t = (2 :: (cRel 2 (cAllT r.reverse).1 (cAllT r.reverse).2).1, (cRel 2 (cAllT r.reverse).1 (cAllT r.reverse).2).2) := by unfold cTok; rw [if_neg (by omega), if_neg (by omega), if_pos h1]
        have er : rTok E (rAllT E r.reverse) t = (38 :: (rPop 38 (rAllT E r.reverse).1 (rAllT E r.reverse).2).1, (rPop 38 (rAllT E r.reverse).1 (rAllT E r.reverse).2).2) := by unfold rTok; rw [if_neg (by omega), if_pos (Or.inl h1), h1]
        rw [ec, er, i1, i2]
        refine ⟨by simp only [List.map_cons, s.1]; rfl, s.2.1, wOrd_push ⟨by omega, by omega⟩ s.2.2.1 (Or.inr s.2.2.2.2.2), ?_, ?_, fun z => by simp at z, fun _ z => by simp at z, by simp only; omega, by simp; omega, by omega⟩
        · rw [s.2.2.2.1]
          show _ = (if (2 : Int) = 1 ∨ (2 : Int) = 2 then 1 else 0) + wBin (cRel 2 (cAllT r.reverse).1 (cAllT r.reverse).2).1 + (if true = true then 0 else 1)
          rw [if_pos (Or.inr rfl), if_pos rfl]
          omega
        · show (if (2 : Int) = 0 then 1 else 0) + wOpen (cRel 2 (cAllT r.reverse).1 (cAllT r.reverse).2).1 = o
          rw [if_neg (by omega), s.2.2.2.2.1, i5]
          omega
      · have s := sim_pop (E := E) (p := 1) (c := 124) (Or.inr ⟨rfl, rfl⟩) _ _ i3 (i6 rfl) i4
        have hb := wBin_rel 1 (cAllT r.reverse).1 (cAllT r.reverse).2
        have ec : cTok (cAllT r.reverse) t = (1 :: (cRel 1 (cAllT r.reverse).1 (cAllT r.reverse).2).1, (cRel 1 (cAllT r.reverse).1 (cAllT r.reverse).2).2) := by unfold cTok; rw [if_neg (by omega), if_neg (by omega), if_neg (by omega), if_pos h1]
        have er : rTok E (rAllT E r.reverse) t = (124 :: (rPop 124 (rAllT E r.reverse).1 (rAllT E r.reverse).2).1, (rPop 124 (rAllT E r.reverse).1 (rAllT E r.reverse).2).2) := by unfold rTok; rw [if_neg (by omega), if_pos (Or.inr h1), h1]
        rw [ec, er, i1, i2]
        refine ⟨by simp only [List.map_cons, s.1]; rfl, s.2.1, wOrd_push ⟨by omega, by omega⟩ s.2.2.1 (Or.inr s.2.2.2.2.2), ?_, ?_, fun z => by simp at z, fun _ z => by simp at z, by simp only; omega, by simp; omega, by omega⟩
        · rw [s.2.2.2.1]
          show _ = (if (1 : Int) = 1 ∨ (1 : Int) = 2 then 1 else 0) + wBin (cRel 1 (cAllT r.reverse).1 (cAllT r.reverse).2).1 + (if true = true then 0 else 1)
          rw [if_pos (Or.inl rfl), if_pos rfl]
          omega
        · show (if (1 : Int) = 0 then 1 else 0) + wOpen (cRel 1 (cAllT r.reverse).1 (cAllT r.reverse).2).1 = o
          rw [if_neg (by omega), s.2.2.2.2.1, i5]
          omega
    · obtain ⟨i1, i2, i3, i4, i5, i6, i7, i8, -, -⟩ := sim_all (E := E) r _ _ _ h
      rw [if_neg (by decide)] at i4
      have s := sim_cl (E := E) _ _ i3 (i6 rfl) (by omega) i4
      have hb := wBin_rel 1 (cAllT r.reverse).1 (cAllT r.reverse).2
      have ec : cTok (cAllT r.reverse) t = cRel 3 (cRel 1 (cAllT r.reverse).1 (cAllT r.reverse).2).1.tail (cRel 1 (cAllT r.reverse).1 (cAllT r.reverse).2).2 := by unfold cTok; rw [if_neg (by omega), if_neg (by omega), if_neg (by omega), if_neg (by omega), if_pos h1]
      have er : rTok E (rAllT E r.reverse) t = rNot (rCl (rAllT E r.reverse).1 (rAllT E r.reverse).2).1.tail (rCl (rAllT E r.reverse).1 (rAllT E r.reverse).2).2 := by unfold rTok; rw [if_neg (by omega), if_neg (by omega), if_pos h1]
      rw [ec, er, i1, i2]
      obtain ⟨W', hW'⟩ := s.2.2.2.2.2
      have s1 := s.2.2.1
      have s2 := s.2.2.2.1
      have s3 := s.2.2.2.2.1
      rw [s.1, s.2.1]
      rw [hW'] at s1 s2 s3 hb ⊢
      simp only [List.map_cons, List.tail_cons]
      have s2' : (rpn E (cRel 1 (cAllT r.reverse).1 (cAllT r.reverse).2).2).length = wBin W' + 1 := by
        rw [s2]
        show (if (0 : Int) = 1 ∨ (0 : Int) = 2 then 1 else 0) + wBin W' + 1 = _
        rw [if_neg (by omega)]
        omega
      have s3' : wOpen W' = o := by
        have : (if (0 : Int) = 0 then 1 else 0) + wOpen W' = wOpen (cAllT r.reverse).1 := s3
        rw [if_pos rfl] at this
        omega
      have hb' : wBin W' ≤ wBin (cAllT r.reverse).1 := by
        have : (if (0 : Int) = 1 ∨ (0 : Int) = 2 then 1 else 0) + wBin W' ≤ wBin (cAllT r.reverse).1 := hb
        omega
      have n := sim_not (E := E) W' _ (wOrd_tl s1) s2'
      have hb2 := wBin_rel 3 W' (cRel 1 (cAllT r.reverse).1 (cAllT r.reverse).2).2
      refine ⟨n.1, n.2.1, n.2.2.1, ?_, by rw [n.2.2.2.2.1]; exact s3', fun _ => n.2.2.2.2.2, fun z => by simp at z, by rw [n.2.2.2.1]; omega, by simp; omega, by omega⟩
      rw [n.2.2.2.1, if_neg (by decide)]
    · obtain ⟨i1, i2, i3, i4, i5, i6, i7, i8, -, -⟩ := sim_all (E := E) r _ _ _ h
      rw [if_pos rfl] at i4
      have ec : cTok (cAllT r.reverse) t = cRel 3 (cAllT r.reverse).1 ((cAllT r.reverse).2 ++ [(t.1 + 4) * 10000 + t.2]) := by unfold cTok; rw [if_neg (by omega), if_neg (by omega), if_neg (by omega), if_neg (by omega), if_neg (by omega)]
      have er : rTok E (rAllT E r.reverse) t = rNot (rAllT E r.reverse).1 (E t.1 t.2 :: (rAllT E r.reverse).2) := by unfold rTok; rw [if_neg (by omega), if_neg (by omega), if_neg (by omega)]
      have ev : rpn E ((cAllT r.reverse).2 ++ [(t.1 + 4) * 10000 + t.2]) = E t.1 t.2 :: rpn E (cAllT r.reverse).2 := by
        rw [rpn_snoc, rpS_test h1 h2 (by omega)]
      rw [ec, er, i1, i2, ← ev]
      have n := sim_not (E := E) (cAllT r.reverse).1 ((cAllT r.reverse).2 ++ [(t.1 + 4) * 10000 + t.2]) i3 (by rw [ev]; simp only [List.length_cons]; omega)
      have hb2 := wBin_rel 3 (cAllT r.reverse).1 ((cAllT r.reverse).2 ++ [(t.1 + 4) * 10000 + t.2])
      refine ⟨n.1, n.2.1, n.2.2.1, ?_, by rw [n.2.2.2.2.1]; exact i5, fun _ => n.2.2.2.2.2, fun z => by simp at z, by rw [n.2.2.2.1]; omega, by simp; omega, by omega⟩
      rw [n.2.2.2.1, if_neg (by decide)]
/-- the steps say what the tokens say -/
theorem rpn_val {E : Int → Int → Int} {r : List (Int × Int)} {p : Nat} (h : gWf r false 0 p) : rVal E r.reverse = (rpn E (cOut r.reverse)).headD 2 ∧ (rpn E (cOut r.reverse)).length = 1 := by
  obtain ⟨i1, i2, i3, i4, i5, i6, -, -, -, -⟩ := sim_all (E := E) r _ _ _ h
  rw [if_neg (by decide)] at i4
  have e := sim_end (E := E) _ _ i3 (i6 rfl) i5 i4
  have hn : r.reverse ≠ [] := by
    intro z
    rw [List.reverse_eq_nil_iff] at z
    rw [z] at h
    have h2 : false = true ∧ _ := h
    cases h2.1
  refine ⟨?_, e.2⟩
  unfold rVal cOut
  rw [if_neg hn, i1, i2, e.1]
  obtain ⟨a, V, ea, _⟩ := one_of (n := 0) e.2
  rw [ea]
  rfl
