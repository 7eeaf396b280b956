/-! ===== the class's row of signs and its steps ===== -/
theorem tk_yes {b : Int → Int} {N : jM} {r r' q q' : Int} {c : Prop} (h : (r = r' ∧ c ∧ cT b N q') ∨ (r = 0 ∧ ¬ c ∧ cT b N q)) (hr : ¬ r = 0) : c ∧ cT b N q' := h.elim (fun z => z.2) (fun z => absurd z.1 hr)
theorem tk_no {b : Int → Int} {N : jM} {r q q' : Int} {c : Prop} (h : (r = 1 ∧ c ∧ cT b N q') ∨ (r = 0 ∧ ¬ c ∧ cT b N q)) (hr : r = 0) : ¬ c ∧ cT b N q := h.elim (fun z => by have := z.1; omega) (fun z => z.2)
theorem tkn_yes {b : Int → Int} {N : jM} {r v q q' : Int} {c : Prop} (h : (r = v ∧ c ∧ cT b N q') ∨ (r = -9 ∧ ¬ c ∧ cT b N q)) (hr : ¬ r = -9) : r = v ∧ c ∧ cT b N q' := h.elim (fun z => z) (fun z => absurd z.1 hr)
theorem tkn_no {b : Int → Int} {N : jM} {r v q q' : Int} {c : Prop} (h : (r = v ∧ c ∧ cT b N q') ∨ (r = -9 ∧ ¬ c ∧ cT b N q)) (hr : r = -9) (hv : c → 0 ≤ v) : ¬ c ∧ cT b N q := h.elim (fun z => by have := hv z.2.1; have := z.1; omega) (fun z => z.2)
def cC (f S0 : Int) (N : jM) (W O : List Int) : Prop := aSt (N 73) (N 71 9) W ∧ (0 ≤ S0 ∧ S0 ≤ N f 9) ∧ sPre (N (f + 9)) S0 (N f 9 - S0).toNat = O ∧ N (f + 8) (N f 0 - 1) = N f 9 ∧ (1 ≤ N f 0 ∧ N f 0 ≤ 16) ∧ N 71 6 = f
def cCF (f S0 : Int) (M N : jM) : Prop := (∀ c, c ≠ 71 → c ≠ 73 → c ≠ f → c ≠ f + 8 → c ≠ f + 9 → N c = M c) ∧ (∀ k, k ≠ 9 → N f k = M f k) ∧ (∀ k, k ≠ 2 → k ≠ 3 → k ≠ 4 → k ≠ 5 → k ≠ 7 → k ≠ 9 → N 71 k = M 71 k) ∧ (∀ k, k ≠ M f 0 - 1 → N (f + 8) k = M (f + 8) k) ∧ ∀ k, k < S0 → N (f + 9) k = M (f + 9) k
theorem cCF_rf (f S0 : Int) (M : jM) : cCF f S0 M M := ⟨fun _ _ _ _ _ _ => rfl, fun _ _ => rfl, fun _ _ _ _ _ _ _ => rfl, fun _ _ => rfl, fun _ _ => rfl⟩
theorem cCF_tr {f S0 : Int} {M N O : jM} (h : cCF f S0 M N) (h' : cCF f S0 N O) : cCF f S0 M O := by
  have e0 := h.2.1 0 (by decide)
  exact ⟨fun c a1 a2 a3 a4 a5 => (h'.1 c a1 a2 a3 a4 a5).trans (h.1 c a1 a2 a3 a4 a5), fun k a => (h'.2.1 k a).trans (h.2.1 k a), fun k a1 a2 a3 a4 a5 a6 => (h'.2.2.1 k a1 a2 a3 a4 a5 a6).trans (h.2.2.1 k a1 a2 a3 a4 a5 a6), fun k a => (h'.2.2.2.1 k (by rw [e0]; exact a)).trans (h.2.2.2.1 k a), fun k a => (h'.2.2.2.2 k a).trans (h.2.2.2.2 k a)⟩
theorem cCF_fr {f S0 : Int} {M N : jM} (hf : f = 47 ∨ f = 59) (h : cFr M N) : cCF f S0 M N :=
  ⟨fun c a _ _ _ _ => h.1 c a, fun k _ => by rw [h.1 f (by omega)], fun k a1 a2 a3 a4 _ _ => h.2 k a1 a2 a3 a4, fun k _ => by rw [h.1 (f + 8) (by omega)], fun k _ => by rw [h.1 (f + 9) (by omega)]⟩
theorem cC_fr {f S0 : Int} {M N : jM} {W O : List Int} (hf : f = 47 ∨ f = 59) (h : cFr M N) (hc : cC f S0 M W O) : cC f S0 N W O := by
  unfold cC at hc ⊢
  rw [h.1 73 (by decide), h.1 f (by omega), h.1 (f + 8) (by omega), h.1 (f + 9) (by omega), h.2 9 (by decide) (by decide) (by decide) (by decide), h.2 6 (by decide) (by decide) (by decide) (by decide)]
  exact hc
theorem cC_len {f S0 : Int} {M : jM} {W O : List Int} (hc : cC f S0 M W O) : M 71 9 = W.length ∧ M f 9 = S0 + O.length := by
  have a := aSt_len _ hc.1
  refine ⟨a, ?_⟩
  have e := hc.2.2.1
  have l : (sPre (M (f + 9)) S0 (M f 9 - S0).toNat).length = (M f 9 - S0).toNat := by unfold sPre; simp
  rw [e] at l
  have := hc.2.1
  omega
theorem cC_push {f S0 s : Int} {M : jM} {W O : List Int} (hf : f = 47 ∨ f = 59) (hc : cC f S0 M W O) : cC f S0 (jup (jup M 73 (M 71 9) s) 71 9 (M 71 9 + 1)) (s :: W) O := by
  obtain ⟨h1, h2, h3, h4, h5, h6⟩ := hc
  unfold cC
  rw [jup_self, jup_cell (show (73 : Int) ≠ 71 by decide), jup_cell (show f ≠ 71 by omega), jup_cell (show f ≠ 73 by omega), jup_cell (show f + 8 ≠ 71 by omega), jup_cell (show f + 8 ≠ 73 by omega), jup_cell (show f + 9 ≠ 71 by omega), jup_cell (show f + 9 ≠ 73 by omega), jup_ne (show ¬ ((71 : Int) = 71 ∧ (6 : Int) = 9) by decide), jup_cell (show (71 : Int) ≠ 73 by decide)]
  exact ⟨aSt_push h1 (jup_self _ _ _ _) (fun j a b => by rw [jup_at, if_neg (by omega)]), h2, h3, h4, h5, h6⟩
theorem cC_pop {f S0 x : Int} {M : jM} {W O : List Int} (hf : f = 47 ∨ f = 59) (hc : cC f S0 M (x :: W) O) : cC f S0 (jup M 71 9 (M 71 9 - 1)) W O := by
  obtain ⟨h1, h2, h3, h4, h5, h6⟩ := hc
  unfold cC
  rw [jup_self, jup_cell (show (73 : Int) ≠ 71 by decide), jup_cell (show f ≠ 71 by omega), jup_cell (show f + 8 ≠ 71 by omega), jup_cell (show f + 9 ≠ 71 by omega), jup_ne (show ¬ ((71 : Int) = 71 ∧ (6 : Int) = 9) by decide)]
  exact ⟨h1.2, h2, h3, h4, h5, h6⟩
theorem sPre_cg {g g' : Int → Int} {a : Int} {n : Nat} (h : ∀ j, a ≤ j → j < a + n → g' j = g j) : sPre g' a n = sPre g a n := by
  unfold sPre
  apply List.map_congr_left
  intro k hk
  have := List.mem_range.mp hk
  exact h _ (by omega) (by omega)
abbrev cAdd (M : jM) (f s n : Int) : jM := jup (jup (jup M (f + 9) (M f 9) (s * 10000 + n)) f 9 (M f 9 + 1)) (f + 8) (M f 0 - 1) (M f 9 + 1)
theorem cC_add {f S0 s n : Int} {M : jM} {W O : List Int} (hf : f = 47 ∨ f = 59) (hc : cC f S0 M W O) : cC f S0 (cAdd M f s n) W (O ++ [s * 10000 + n]) ∧ cCF f S0 M (cAdd M f s n) := by
  obtain ⟨h1, h2, h3, h4, h5, h6⟩ := hc
  have e73 : cAdd M f s n 73 = M 73 := by unfold cAdd; rw [jup_cell (by omega), jup_cell (by omega), jup_cell (by omega)]
  have e71 : cAdd M f s n 71 = M 71 := by unfold cAdd; rw [jup_cell (by omega), jup_cell (by omega), jup_cell (by omega)]
  have e9 : cAdd M f s n (f + 9) = jup M (f + 9) (M f 9) (s * 10000 + n) (f + 9) := by unfold cAdd; rw [jup_cell (by omega), jup_cell (by omega)]
  have ef9 : cAdd M f s n f 9 = M f 9 + 1 := by unfold cAdd; rw [jup_cellk (by omega), jup_self]
  have efk : ∀ k, k ≠ 9 → cAdd M f s n f k = M f k := fun k hk => by unfold cAdd; rw [jup_cellk (by omega), jup_ne (by omega), jup_cellk (by omega)]
  have e8 : ∀ k, k ≠ M f 0 - 1 → cAdd M f s n (f + 8) k = M (f + 8) k := fun k hk => by unfold cAdd; rw [jup_ne (by omega), jup_cellk (by omega), jup_cellk (by omega)]
  refine ⟨⟨by rw [e73, e71]; exact h1, ⟨h2.1, by rw [ef9]; omega⟩, ?_, ?_, ?_, by rw [e71]; exact h6⟩, ⟨fun c a1 a2 a3 a4 a5 => ?_, efk, fun k _ _ _ _ _ _ => by rw [e71], e8, fun k a => ?_⟩⟩
  · rw [ef9, show (M f 9 + 1 - S0).toNat = (M f 9 - S0).toNat + 1 by omega, sPre_s, e9, show S0 + (((M f 9 - S0).toNat : Nat) : Int) = M f 9 by omega, jup_self]
    rw [sPre_cg (g := M (f + 9)) (fun j a b => by rw [jup_at, if_neg (by omega)]), h3]
  · rw [ef9, efk 0 (by decide)]; unfold cAdd; rw [jup_self]
  · rw [efk 0 (by decide)]; exact h5
  · unfold cAdd; rw [jup_cell a4, jup_cell a3, jup_cell a5]
  · rw [e9, jup_at, if_neg (by omega)]
theorem cCF_71 {f S0 k v : Int} {M : jM} (hf : f = 47 ∨ f = 59) (hk : k = 7 ∨ k = 9) : cCF f S0 M (jup M 71 k v) :=
  ⟨fun c a _ _ _ _ => jup_cell a, fun k' _ => jup_cellk (by omega), fun k' a1 a2 a3 a4 a5 a6 => jup_ne (by omega), fun k' _ => jup_cellk (by omega), fun k' _ => jup_cellk (by omega)⟩
theorem cCF_73 {f S0 k v : Int} {M : jM} (hf : f = 47 ∨ f = 59) : cCF f S0 M (jup M 73 k v) :=
  ⟨fun c _ a _ _ _ => jup_cell a, fun k' _ => jup_cellk (by omega), fun k' a1 a2 a3 a4 a5 a6 => jup_cellk (by decide), fun k' _ => jup_cellk (by omega), fun k' _ => jup_cellk (by omega)⟩
theorem cC_7 {f S0 v : Int} {M : jM} {W O : List Int} (hf : f = 47 ∨ f = 59) (hc : cC f S0 M W O) : cC f S0 (jup M 71 7 v) W O := by
  unfold cC at hc ⊢
  rw [jup_cell (show (73 : Int) ≠ 71 by decide), jup_cell (show f ≠ 71 by omega), jup_cell (show f + 8 ≠ 71 by omega), jup_cell (show f + 9 ≠ 71 by omega), jup_ne (show ¬ ((71 : Int) = 71 ∧ (6 : Int) = 7) by decide), jup_ne (show ¬ ((71 : Int) = 71 ∧ (9 : Int) = 7) by decide)]
  exact hc
/-- what keeps the token in sight -/
theorem cT_up {b : Int → Int} {M : jM} {q k v : Int} (h : cT b M q) (hk : k = 7 ∨ k = 9) : cT b (jup M 71 k v) q := cT_cg h (jup_cell (by decide)) (fun j hj => jup_ne (by omega))
theorem cT_ne {b : Int → Int} {M : jM} {q c k v : Int} (h : cT b M q) (h1 : c ≠ 71) (h2 : c ≠ 72) : cT b (jup M c k v) q := cT_cg h (jup_cell (fun z => h2 z.symm)) (fun j hj => jup_cellk (fun z => h1 z.symm))
theorem cT_add {b : Int → Int} {M : jM} {q f s n : Int} (hf : f = 47 ∨ f = 59) (h : cT b M q) : cT b (cAdd M f s n) q := cT_ne (cT_ne (cT_ne h (by omega) (by omega)) (by omega) (by omega)) (by omega) (by omega)
/-! release -/
def rlI (f S0 p : Int) (Z : List Int × List Int) (N : jM) : Prop := ∃ W O, cC f S0 N W O ∧ wOrd W ∧ cRel p W O = Z
theorem rlI_in {f S0 p : Int} {Z : List Int × List Int} {N : jM} (h : rlI f S0 p Z N) : 0 ≤ N 71 9 ∧ (0 ≤ S0 ∧ S0 ≤ N f 9) ∧ (1 ≤ N f 0 ∧ N f 0 ≤ 16) ∧ N 71 6 = f ∧ (0 < N 71 9 → 0 ≤ N 73 (N 71 9 - 1) ∧ N 73 (N 71 9 - 1) ≤ 3) := by
  obtain ⟨W, O, hc, hw, _⟩ := h
  have l := (cC_len hc).1
  refine ⟨by omega, hc.2.1, hc.2.2.2.2.1, hc.2.2.2.2.2, fun z => ?_⟩
  cases W with
  | nil => simp at l; omega
  | cons x W =>
    rw [hc.1.1]
    exact wOrd_hd hw
theorem rlI_step {f S0 p : Int} {Z : List Int × List Int} {N : jM} (hf : f = 47 ∨ f = 59) (h : rlI f S0 p Z N) (h0 : 0 < N 71 9) (hp : p ≤ N 73 (N 71 9 - 1)) : rlI f S0 p Z (cAdd (jup N 71 9 (N 71 9 - 1)) f (N 73 (N 71 9 - 1)) 0) := by
  obtain ⟨W, O, hc, hw, e⟩ := h
  have l := (cC_len hc).1
  cases W with
  | nil => simp at l; omega
  | cons x W =>
    have ex : N 73 (N 71 9 - 1) = x := hc.1.1
    rw [ex] at hp ⊢
    have c1 := cC_pop hf hc
    have c2 := (cC_add (s := x) (n := 0) hf c1).1
    rw [Int.add_zero] at c2
    refine ⟨W, O ++ [x * 10000], ?_, wOrd_tl hw, ?_⟩
    · rw [show cAdd (jup N 71 9 (N 71 9 - 1)) f x 0 = cAdd (jup N 71 9 (N 71 9 - 1)) f x 0 from rfl]
      unfold cAdd at c2 ⊢
      exact c2
    · rw [← e, cRel, if_pos hp]
theorem rlI_end {f S0 p : Int} {Z : List Int × List Int} {N : jM} (h : rlI f S0 p Z N) (he : N 71 9 ≤ 0 ∨ N 73 (N 71 9 - 1) < p) : cC f S0 N Z.1 Z.2 := by
  obtain ⟨W, O, hc, hw, e⟩ := h
  have l := (cC_len hc).1
  cases W with
  | nil => rw [← e]; exact hc
  | cons x W =>
    simp only [List.length_cons] at l
    have ex : N 73 (N 71 9 - 1) = x := hc.1.1
    rw [← e, cRel, if_neg (by omega)]
    exact hc
theorem cCF_add {f S0 s n : Int} {M : jM} (hf : f = 47 ∨ f = 59) (h : S0 ≤ M f 9) : cCF f S0 M (cAdd M f s n) := by
  refine ⟨fun c a1 a2 a3 a4 a5 => by unfold cAdd; rw [jup_cell a4, jup_cell a3, jup_cell a5], fun k hk => by unfold cAdd; rw [jup_cellk (by omega), jup_ne (by omega), jup_cellk (by omega)], fun k _ _ _ _ _ _ => by unfold cAdd; rw [jup_cellk (by omega), jup_cellk (by omega), jup_cellk (by omega)], fun k hk => by unfold cAdd; rw [jup_ne (by omega), jup_cellk (by omega), jup_cellk (by omega)], fun k hk => by unfold cAdd; rw [jup_cellk (by omega), jup_cellk (by omega), jup_ne (by omega)]⟩
theorem wOrd_rel (p : Int) : ∀ (W O : List Int), wOrd W → wOrd (cRel p W O).1
  | [], _, _ => trivial
  | x :: W, O, h => by
    rw [cRel]
    split
    · exact wOrd_rel p W _ (wOrd_tl h)
    · exact h
theorem cRel_len (p : Int) : ∀ (W O : List Int), (cRel p W O).1.length ≤ W.length
  | [], _ => Nat.le_refl _
  | x :: W, O => by
    rw [cRel]
    split
    · have := cRel_len p W (O ++ [x * 10000])
      simp only [List.length_cons]
      omega
    · exact Nat.le_refl _
theorem wOrd_tail {W : List Int} (h : wOrd W) : wOrd W.tail := by
  cases W with
  | nil => trivial
  | cons x W => exact wOrd_tl h
theorem cC_tl0 {f S0 : Int} {N : jM} {W O : List Int} (h : cC f S0 N W O) (h0 : N 71 9 ≤ 0) : cC f S0 N W.tail O := by
  have l := (cC_len h).1
  cases W with
  | nil => exact h
  | cons x W => simp only [List.length_cons] at l; omega
theorem cC_tl1 {f S0 : Int} {N : jM} {W O : List Int} (hf : f = 47 ∨ f = 59) (h : cC f S0 N W O) (h0 : 0 < N 71 9) : cC f S0 (jup N 71 9 (N 71 9 - 1)) W.tail O := by
  have l := (cC_len h).1
  cases W with
  | nil => simp at l; omega
  | cons x W => exact cC_pop hf h
