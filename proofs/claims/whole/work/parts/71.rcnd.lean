/-! ===== a test, and a COND, on the class's side ===== -/
theorem pT3_paper {b : Int → Int} {q : Int} (h : lV b q = 10) : pT3 b q = lNx b q ∧ pTn b q = 0 ∧ pTo b (lV b q) (lNx b q) = 6 := by
  unfold pT3 pTn pTo
  rw [if_pos h, if_pos h, h]
  exact ⟨rfl, rfl, rfl⟩
abbrev sOk (b : Int → Int) (k s : Int) : Prop := lK b s = 3 ∧ ((k = 12 ∧ (lV b s = 60 ∨ lV b s = 62 ∨ lV b s = 61)) ∨ (¬ k = 12 ∧ lV b s = 61))
theorem pT2_no {b : Int → Int} {k s : Int} (h0 : 0 ≤ s) (h : ¬ sOk b k s) : pT2 b k s = -1 - s := by
  unfold pT2 tkS fl
  by_cases c : k = 12
  · rw [if_pos c, if_neg (by omega), if_neg (by omega)]
  · rw [if_neg c, if_neg (by omega), if_neg (by omega)]
theorem pT2_yes {b : Int → Int} {k s : Int} (h0 : 0 ≤ s) (h : sOk b k s) : pT2 b k s = lNx b s := by
  unfold pT2 tkS fl
  by_cases c : k = 12
  · rw [if_pos c, if_pos (by omega)]
  · rw [if_neg c, if_neg (by omega), if_pos (by omega)]
theorem pT3_bad {b : Int → Int} {q : Int} (h : ¬ lV b q = 10) (h0 : 0 ≤ lNx b q) (hs : ¬ sOk b (lV b q) (lNx b q)) : pT3 b q = -1 - lNx b q := by
  unfold pT3
  rw [if_neg h, pT2_no h0 hs]
  unfold tkN
  rw [if_pos (by omega)]
theorem pT3_num {b : Int → Int} {q : Int} (h : ¬ lV b q = 10) (h0 : 0 ≤ lNx b q) (hs : sOk b (lV b q) (lNx b q)) (h1 : 0 ≤ lNx b (lNx b q)) :
    ((lK b (lNx b (lNx b q)) = 2 ∧ 0 ≤ lV b (lNx b (lNx b q)) ∧ lV b (lNx b (lNx b q)) ≤ 9999) → pT3 b q = lNx b (lNx b (lNx b q)) ∧ pTn b q = lV b (lNx b (lNx b q))) ∧
    (¬ (lK b (lNx b (lNx b q)) = 2 ∧ 0 ≤ lV b (lNx b (lNx b q)) ∧ lV b (lNx b (lNx b q)) ≤ 9999) → pT3 b q = -1 - lNx b (lNx b q)) := by
  unfold pT3 pTn
  rw [if_neg h, if_neg h, pT2_yes h0 hs]
  unfold tkN nV
  rw [if_neg (by omega)]
  constructor
  · intro z
    rw [if_pos z, if_pos ⟨h1, z⟩]
    exact ⟨rfl, rfl⟩
  · intro z
    rw [if_neg z]
theorem pTo_v {b : Int → Int} {k s : Int} (hk : isTW k) : pTo b k s + 4 = (if k = 12 then (if lK b s = 3 ∧ lV b s = 60 then 4 else if lK b s = 3 ∧ lV b s = 62 then 5 else 6) else if k = 13 then 7 else if k = 14 then 8 else if k = 15 then 9 else 10) := by
  unfold pTo
  (repeat' split) <;> omega
theorem gW_in {r : List (Int × Int)} {w : Bool} {o p : Nat} (h : gWf r w o p) : wOrd (cAllT r.reverse).1 ∧ (cAllT r.reverse).1.length ≤ 47 := by
  have g := sim_all (E := fun _ _ => 0) r w o p h
  unfold gInv at g
  have hl := wLen _ g.2.2.1
  have h2 : (cAllT r.reverse).1.head?.getD 0 ≤ 3 := by
    cases hW : (cAllT r.reverse).1 with
    | nil => simp
    | cons x W =>
      have := g.2.2.1
      rw [hW] at this
      have := wOrd_hd this
      simp
      omega
  have h3 := g.2.2.2.2.1
  have h4 := (gWf_o _ _ _ _ h).1
  exact ⟨g.2.2.1, by omega⟩
theorem gW_33 {r : List (Int × Int)} {o p : Nat} (h : gWf r true o p) : (cAllT r.reverse).1.head? = some 3 ↔ r.head?.map Prod.fst = some 33 := by
  have g := sim_all (E := fun _ _ => 0) r true o p h
  unfold gInv at g
  constructor
  · exact g.2.2.2.2.2.2.1 rfl
  · intro z
    cases r with
    | nil => simp at z
    | cons t r =>
      simp at z
      rw [cAllT_s]
      unfold cTok
      rw [if_pos z]
      rfl
theorem cAll_33 {t : Int × Int} {r : List (Int × Int)} (h : t.1 = 33) : cAllT (t :: r).reverse = (3 :: (cAllT r.reverse).1, (cAllT r.reverse).2) := by
  rw [cAllT_s]; unfold cTok; rw [if_pos h]
theorem cAll_40 {r : List (Int × Int)} : cAllT ((40, 0) :: r).reverse = (0 :: (cAllT r.reverse).1, (cAllT r.reverse).2) := by
  rw [cAllT_s]; rfl
theorem cAll_sg {c : Int} {r : List (Int × Int)} (h : c = 38 ∨ c = 124) : cAllT ((c, 0) :: r).reverse = (bP c :: (cRel (bP c) (cAllT r.reverse).1 (cAllT r.reverse).2).1, (cRel (bP c) (cAllT r.reverse).1 (cAllT r.reverse).2).2) := by
  rw [cAllT_s]
  rcases h with rfl | rfl <;> rfl
theorem cAll_41 {r : List (Int × Int)} : cAllT ((41, 0) :: r).reverse = cRel 3 (cRel 1 (cAllT r.reverse).1 (cAllT r.reverse).2).1.tail (cRel 1 (cAllT r.reverse).1 (cAllT r.reverse).2).2 := by
  rw [cAllT_s]; rfl
theorem cAll_ts {c n : Int} {r : List (Int × Int)} (h : 0 ≤ c ∧ c ≤ 6) : cAllT ((c, n) :: r).reverse = cRel 3 (cAllT r.reverse).1 ((cAllT r.reverse).2 ++ [(c + 4) * 10000 + n]) := by
  rw [cAllT_s]; unfold cTok
  rw [if_neg (by show ¬ c = 33; omega), if_neg (by show ¬ c = 40; omega), if_neg (by show ¬ c = 38; omega), if_neg (by show ¬ c = 124; omega), if_neg (by show ¬ c = 41; omega)]
/-- where readCond stands -/
def rcS (b : Int → Int) (f S0 : Int) (M N : jM) (s u : Int) (r : List (Int × Int)) (p : Nat) : Prop :=
  cT b N s ∧ cC f S0 N (cAllT r.reverse).1 (cAllT r.reverse).2 ∧ cCF f S0 M N ∧ N 71 7 = (p : Int) ∧ N f 9 + N 71 9 ≤ u
theorem rcS_fr {b : Int → Int} {f S0 : Int} {M N N' : jM} {s u s' : Int} {r : List (Int × Int)} {p : Nat} (hf : f = 47 ∨ f = 59) (h : rcS b f S0 M N s u r p) (hr : cFr N N') (ht : cT b N' s') : rcS b f S0 M N' s' u r p := by
  obtain ⟨h1, h2, h3, h4, h5⟩ := h
  refine ⟨ht, cC_fr hf hr h2, cCF_tr h3 (cCF_fr hf hr), ?_, ?_⟩
  · rw [hr.2 7 (by decide) (by decide) (by decide) (by decide)]; exact h4
  · rw [hr.1 f (by omega), hr.2 9 (by decide) (by decide) (by decide) (by decide)]; exact h5
theorem rcS_w {b : Int → Int} {f S0 : Int} {M N : jM} {s u u' : Int} {r : List (Int × Int)} {p : Nat} (h : rcS b f S0 M N s u r p) (hu : u ≤ u') : rcS b f S0 M N s u' r p :=
  ⟨h.1, h.2.1, h.2.2.1, h.2.2.2.1, by have := h.2.2.2.2; omega⟩
theorem rcS_push {b : Int → Int} {f S0 x : Int} {M N : jM} {s u : Int} {r r' : List (Int × Int)} {p : Nat} (hf : f = 47 ∨ f = 59) (h : rcS b f S0 M N s u r p) (he : cAllT r'.reverse = (x :: (cAllT r.reverse).1, (cAllT r.reverse).2)) : rcS b f S0 M (jup (jup N 73 (N 71 9) x) 71 9 (N 71 9 + 1)) s (u + 1) r' p := by
  obtain ⟨h1, h2, h3, h4, h5⟩ := h
  refine ⟨cT_up (cT_ne h1 (by decide) (by decide)) (Or.inr rfl), by rw [he]; exact cC_push hf h2, cCF_tr (cCF_tr h3 (cCF_73 hf)) (cCF_71 hf (Or.inr rfl)), ?_, ?_⟩
  · rw [jup_ne (by decide), jup_cellk (by decide)]; exact h4
  · rw [jup_cellk (by omega), jup_cellk (by omega), jup_self]; omega
theorem rcS_turn {b : Int → Int} {f S0 : Int} {M N N' : jM} {s u : Int} {r : List (Int × Int)} {o p : Nat} (hf : f = 47 ∨ f = 59) (hg : gWf r true o p) (h : rcS b f S0 M N s u r p) (hn : ((0 < N 71 9 ∧ N 73 (N 71 9 - 1) = 3) ∧ N' = jup N 71 9 (N 71 9 - 1)) ∨ (¬ (0 < N 71 9 ∧ N 73 (N 71 9 - 1) = 3) ∧ N' = jup (jup N 73 (N 71 9) 3) 71 9 (N 71 9 + 1))) : rcS b f S0 M N' s (u + 1) (p33 r) p := by
  have l := (cC_len h.2.1).1
  have e33 := gW_33 hg
  have top : (0 < N 71 9 ∧ N 73 (N 71 9 - 1) = 3) ↔ (cAllT r.reverse).1.head? = some 3 := by
    have a := h.2.1.1
    cases hW : (cAllT r.reverse).1 with
    | nil =>
      rw [hW] at l
      simp at l ⊢
      omega
    | cons x W =>
      rw [hW] at l a
      simp only [List.length_cons] at l
      have : N 73 (N 71 9 - 1) = x := a.1
      simp only [List.head?_cons, Option.some.injEq]
      omega
  rw [top, e33] at hn
  cases r with
  | nil =>
    rcases hn with ⟨z, _⟩ | ⟨_, rfl⟩
    · simp at z
    · exact rcS_push hf h (cAll_33 rfl)
  | cons t r =>
    rw [show p33 (t :: r) = if t.1 = 33 then r else (33, 0) :: t :: r from rfl]
    simp only [List.head?_cons, Option.map_some, Option.some.injEq] at hn
    rcases hn with ⟨z, rfl⟩ | ⟨z, rfl⟩
    · rw [if_pos z]
      obtain ⟨h1, h2, h3, h4, h5⟩ := h
      rw [cAll_33 z] at h2
      refine ⟨cT_up h1 (Or.inr rfl), cC_pop hf h2, cCF_tr h3 (cCF_71 hf (Or.inr rfl)), ?_, ?_⟩
      · rw [jup_ne (by decide)]; exact h4
      · rw [jup_cellk (by omega), jup_self]; omega
    · rw [if_neg z]
      exact rcS_push hf h (cAll_33 rfl)
/-- a release, then a sign that waits -/
theorem rcS_sign {b : Int → Int} {f S0 c : Int} {M N N1 : jM} {s u : Int} {r : List (Int × Int)} {p : Nat} (hf : f = 47 ∨ f = 59) (hc : c = 38 ∨ c = 124) (h : rcS b f S0 M N s u r p) (h1 : cC f S0 N1 (cRel (bP c) (cAllT r.reverse).1 (cAllT r.reverse).2).1 (cRel (bP c) (cAllT r.reverse).1 (cAllT r.reverse).2).2) (h2 : cCF f S0 N N1) (h3 : N1 f 9 + N1 71 9 = N f 9 + N 71 9) (h4 : ∀ k, k ≠ 9 → N1 71 k = N 71 k) : rcS b f S0 M (jup (jup N1 73 (N1 71 9) (bP c)) 71 9 (N1 71 9 + 1)) s (u + 1) ((c, 0) :: r) p := by
  obtain ⟨g1, g2, g3, g4, g5⟩ := h
  have t1 : cT b N1 s := cT_cg g1 (h2.1 72 (by decide) (by decide) (by omega) (by omega) (by omega)) (fun k hk => h4 k (by omega))
  refine ⟨cT_up (cT_ne t1 (by decide) (by decide)) (Or.inr rfl), by rw [cAll_sg hc]; exact cC_push hf h1, cCF_tr (cCF_tr (cCF_tr g3 h2) (cCF_73 hf)) (cCF_71 hf (Or.inr rfl)), ?_, ?_⟩
  · rw [jup_ne (by decide), jup_cellk (by decide), h4 7 (by decide)]; exact g4
  · rw [jup_cellk (by omega), jup_cellk (by omega), jup_self]; omega
theorem rcS_mv {b : Int → Int} {f S0 : Int} {M N N1 : jM} {s u : Int} {r r' : List (Int × Int)} {p : Nat} (hf : f = 47 ∨ f = 59) (h : rcS b f S0 M N s u r p) (h1 : cC f S0 N1 (cAllT r'.reverse).1 (cAllT r'.reverse).2) (h2 : cCF f S0 N N1) (h3 : N1 f 9 + N1 71 9 ≤ N f 9 + N 71 9) (h4 : ∀ k, k ≠ 9 → N1 71 k = N 71 k) : rcS b f S0 M N1 s u r' p := by
  obtain ⟨g1, g2, g3, g4, g5⟩ := h
  refine ⟨cT_cg g1 (h2.1 72 (by decide) (by decide) (by omega) (by omega) (by omega)) (fun k hk => h4 k (by omega)), h1, cCF_tr g3 h2, ?_, by omega⟩
  rw [h4 7 (by decide)]; exact g4
/-- what readTest leaves -/
def rtP (b : Int → Int) (f S0 q : Int) (M N : jM) (W O : List Int) (r : Int) : Prop :=
  ((r = 1 ∧ (lK b q = 1 ∧ isTW (lV b q) ∧ M 71 7 < 30) ∧ 0 ≤ pT3 b q ∧ cT b N (pT3 b q) ∧ cC f S0 N W (O ++ [(pTo b (lV b q) (lNx b q) + 4) * 10000 + pTn b q]) ∧ N 71 7 = M 71 7 + 1 ∧ N 71 9 = M 71 9 ∧ N f 9 = M f 9 + 1) ∨
   (r = 0 ∧ (lK b q = 1 ∧ isTW (lV b q) ∧ M 71 7 < 30) ∧ pT3 b q < 0 ∧ N 71 3 = -1 - pT3 b q) ∨ (r = 0 ∧ ¬ (lK b q = 1 ∧ isTW (lV b q) ∧ M 71 7 < 30) ∧ N 71 3 = q)) ∧ cCF f S0 M N
/-- what readCond leaves -/
def rcP (b : Int → Int) (f : Int) (M N : jM) (R : Int × List (Int × Int)) (r : Int) : Prop :=
  ((r = 1 ∧ 0 ≤ R.1 ∧ cT b N R.1 ∧ sPre (N (f + 9)) (M f 9) (N f 9 - M f 9).toNat = cOut R.2.reverse ∧ N (f + 8) (N f 0 - 1) = N f 9 ∧ M f 9 ≤ N f 9 ∧ N f 9 + 1 ≤ R.1) ∨ (r = 0 ∧ R.1 < 0 ∧ N 71 3 = -1 - R.1)) ∧ cCF f (M f 9) M N
theorem pTo_w {b : Int → Int} {k s : Int} (hk : isTW k) : (pTo b k s = 0 ∧ k = 12 ∧ lK b s = 3 ∧ lV b s = 60) ∨ (pTo b k s = 1 ∧ k = 12 ∧ lK b s = 3 ∧ lV b s = 62) ∨ (pTo b k s = 2 ∧ k = 12 ∧ ¬ (lK b s = 3 ∧ (lV b s = 60 ∨ lV b s = 62))) ∨ (pTo b k s = 3 ∧ k = 13) ∨ (pTo b k s = 4 ∧ k = 14) ∨ (pTo b k s = 5 ∧ k = 15) ∨ (pTo b k s = 6 ∧ k = 10) := by
  unfold pTo
  (repeat' split) <;> omega
def twD (b : Int → Int) (q r : Int) : Prop := (r = 6 ∧ lK b q = 1 ∧ lV b q = 12) ∨ (r = 7 ∧ lK b q = 1 ∧ lV b q = 13) ∨ (r = 8 ∧ lK b q = 1 ∧ lV b q = 14) ∨ (r = 9 ∧ lK b q = 1 ∧ lV b q = 15) ∨ (r = 10 ∧ lK b q = 1 ∧ lV b q = 10) ∨ (r = -9 ∧ ¬ (lK b q = 1 ∧ isTW (lV b q)))
theorem twD_in {b : Int → Int} {q r : Int} (h : twD b q r) : r = -9 ∨ (6 ≤ r ∧ r ≤ 10) := by unfold twD at h; omega
def agD (b : Int → Int) (q r : Int) : Prop := (r = 4 ∧ lK b q = 3 ∧ lV b q = 60) ∨ (r = 5 ∧ lK b q = 3 ∧ lV b q = 62) ∨ (r = 6 ∧ lK b q = 3 ∧ lV b q = 61) ∨ (r = -9 ∧ ¬ (lK b q = 3 ∧ (lV b q = 60 ∨ lV b q = 62 ∨ lV b q = 61)))
theorem agD_in {b : Int → Int} {q r : Int} (h : agD b q r) : r = -9 ∨ (4 ≤ r ∧ r ≤ 6) := by unfold agD at h; omega
def sgD (b : Int → Int) (q t : Int) : Prop := (t = 61 ∧ lK b q = 3 ∧ lV b q = 61) ∨ (¬ t = 61 ∧ ¬ (lK b q = 3 ∧ lV b q = 61))
theorem sgD_of {b : Int → Int} {q t : Int} (h : t = cK b q) : sgD b q t := by
  have := cK_sign (b := b) (q := q) (c := 61) (by decide)
  unfold sgD
  omega
