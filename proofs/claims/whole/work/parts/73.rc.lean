/-! ===== readCond, step by step ===== -/
section PCD
variable {b : Int → Int} {f : Nat} {s : Int} {r : List (Int × Int)} {o p : Nat}
theorem pCd_33 (h : lK b s = 3 ∧ lV b s = 33) : pCd b (f + 1) s r true o p = pCd b f (lNx b s) (p33 r) true o p := by rw [pCd, if_pos rfl, if_pos h]
theorem pCd_40 (h : lK b s = 3 ∧ lV b s = 40) (ho : o < 10) : pCd b (f + 1) s r true o p = pCd b f (lNx b s) ((40, 0) :: r) true (o + 1) p := by rw [pCd, if_pos rfl, if_neg (by omega), if_pos (by omega)]
theorem pCd_40x (h : lK b s = 3 ∧ lV b s = 40) (ho : ¬ o < 10) : pCd b (f + 1) s r true o p = (fl s, r) := by rw [pCd, if_pos rfl, if_neg (by omega), if_neg (by omega), if_neg (by omega)]
theorem pCd_t0 (h : lK b s = 1 ∧ isTW (lV b s) ∧ p < 30) (ht : pT3 b s < 0) : pCd b (f + 1) s r true o p = (pT3 b s, r) := by rw [pCd, if_pos rfl, if_neg (by omega), if_neg (by omega), if_pos h, if_pos ht]
theorem pCd_t1 (h : lK b s = 1 ∧ isTW (lV b s) ∧ p < 30) (ht : 0 ≤ pT3 b s) : pCd b (f + 1) s r true o p = pCd b f (pT3 b s) ((pTo b (lV b s) (lNx b s), pTn b s) :: r) false o (p + 1) := by rw [pCd, if_pos rfl, if_neg (by omega), if_neg (by omega), if_pos h, if_neg (by omega)]
theorem pCd_no (h1 : ¬ (lK b s = 3 ∧ lV b s = 33)) (h2 : ¬ (lK b s = 3 ∧ lV b s = 40)) (h3 : ¬ (lK b s = 1 ∧ isTW (lV b s) ∧ p < 30)) : pCd b (f + 1) s r true o p = (fl s, r) := by rw [pCd, if_pos rfl, if_neg h1, if_neg (by omega), if_neg h3]
theorem pCd_sg (h : lK b s = 3 ∧ (lV b s = 38 ∨ lV b s = 124)) : pCd b (f + 1) s r false o p = pCd b f (lNx b s) ((lV b s, 0) :: r) true o p := by rw [pCd, if_neg (by decide), if_pos h]
theorem pCd_41 (h : lK b s = 3 ∧ lV b s = 41) (ho : 0 < o) : pCd b (f + 1) s r false o p = pCd b f (lNx b s) ((41, 0) :: r) false (o - 1) p := by rw [pCd, if_neg (by decide), if_neg (by omega), if_pos (by omega)]
theorem pCd_e (h1 : ¬ (lK b s = 3 ∧ (lV b s = 38 ∨ lV b s = 124))) (h2 : ¬ (lK b s = 3 ∧ lV b s = 41 ∧ 0 < o)) : pCd b (f + 1) s r false o p = if 0 < o then (fl s, r) else (s, r) := by rw [pCd, if_neg (by decide), if_neg h1, if_neg h2]
end PCD
def rcI (b : Int → Int) (f q : Int) (M N : jM) (R : Int × List (Int × Int)) (v1 v2 v3 : Int) : Prop :=
  ∃ (s : Int) (r : List (Int × Int)) (w : Bool) (o p : Nat), v1 = (o : Int) ∧ ((w = true ∧ v2 = 0) ∨ (w = false ∧ v2 = 1)) ∧ pCd b (901 - v3).toNat s r w o p = R ∧ gWf r w o p ∧ rcS b f (M f 9) M N s (s - 1) r p ∧ (0 ≤ v3 ∧ v3 + q ≤ s)
theorem rcS_0 {b : Int → Int} {M : jM} {q f u : Int} (hf : f = 47 ∨ f = 59) (ht : cT b M q) (h6 : M 71 6 = f) (hru : 1 ≤ M f 0 ∧ M f 0 ≤ 16) (hst : 0 ≤ M f 9 ∧ M f 9 ≤ u) (hto : M (f + 8) (M f 0 - 1) = M f 9) : rcS b f (M f 9) M (jup (jup M 71 7 0) 71 9 0) q u [] 0 := by
  refine ⟨cT_up (cT_up ht (Or.inl rfl)) (Or.inr rfl), ?_, cCF_tr (cCF_71 hf (Or.inl rfl)) (cCF_71 hf (Or.inr rfl)), ?_, ?_⟩
  · show cC f (M f 9) _ [] []
    unfold cC
    rw [jup_self, jup_cell (show f ≠ 71 by omega), jup_cell (show f ≠ 71 by omega), jup_cell (show f + 8 ≠ 71 by omega), jup_cell (show f + 8 ≠ 71 by omega), jup_cell (show f + 9 ≠ 71 by omega), jup_cell (show f + 9 ≠ 71 by omega), jup_ne (by decide), jup_ne (by decide), show (M f 9 - M f 9).toNat = 0 by omega]
    exact ⟨rfl, ⟨hst.1, Int.le_refl _⟩, rfl, hto, hru, h6⟩
  · rw [jup_ne (by decide), jup_self]; rfl
  · rw [jup_cellk (by omega), jup_cellk (by omega), jup_self]; omega
theorem rcS_ts {b : Int → Int} {f S0 c n : Int} {M N N1 N2 : jM} {s s' u : Int} {r : List (Int × Int)} {p : Nat} (hf : f = 47 ∨ f = 59) (hc : 0 ≤ c ∧ c ≤ 6) (h : rcS b f S0 M N s u r p) (hcf1 : cCF f S0 N N1) (ht1 : cT b N1 s') (h7 : N1 71 7 = N 71 7 + 1) (h9 : N1 71 9 = N 71 9) (hf9 : N1 f 9 = N f 9 + 1)
    (hc2 : cC f S0 N2 (cRel 3 (cAllT r.reverse).1 ((cAllT r.reverse).2 ++ [(c + 4) * 10000 + n])).1 (cRel 3 (cAllT r.reverse).1 ((cAllT r.reverse).2 ++ [(c + 4) * 10000 + n])).2) (hcf2 : cCF f S0 N1 N2) (hsum : N2 f 9 + N2 71 9 = N1 f 9 + N1 71 9) (h71 : ∀ k, k ≠ 9 → N2 71 k = N1 71 k) : rcS b f S0 M N2 s' (u + 1) ((c, n) :: r) (p + 1) := by
  obtain ⟨g1, g2, g3, g4, g5⟩ := h
  refine ⟨cT_cg ht1 (hcf2.1 72 (by decide) (by decide) (by omega) (by omega) (by omega)) (fun k hk => h71 k (by omega)), by rw [cAll_ts hc]; exact hc2, cCF_tr (cCF_tr g3 hcf1) hcf2, ?_, by omega⟩
  rw [h71 7 (by decide), h7, g4]
  omega
theorem rcP_no {b : Int → Int} {f : Int} {M N : jM} {R : Int × List (Int × Int)} (h1 : R.1 < 0) (h2 : N 71 3 = -1 - R.1) (h3 : cCF f (M f 9) M N) : rcP b f M N R 0 := ⟨Or.inr ⟨rfl, h1, h2⟩, h3⟩
theorem rcP_yes {b : Int → Int} {f : Int} {M N N1 : jM} {R : Int × List (Int × Int)} {s : Int} {r : List (Int × Int)} {p : Nat} (hf : f = 47 ∨ f = 59) (hR : (s, r) = R) (h0 : 0 ≤ s) (h : rcS b f (M f 9) M N s (s - 1) r p) (h1 : cC f (M f 9) N1 (cRel 1 (cAllT r.reverse).1 (cAllT r.reverse).2).1 (cRel 1 (cAllT r.reverse).1 (cAllT r.reverse).2).2) (h2 : cCF f (M f 9) N N1) (h3 : N1 f 9 + N1 71 9 = N f 9 + N 71 9) (h4 : ∀ k, k ≠ 9 → N1 71 k = N 71 k) : rcP b f M N1 R 1 := by
  subst hR
  obtain ⟨g1, g2, g3, g4, g5⟩ := h
  have l := (cC_len h1).1
  refine ⟨Or.inl ⟨rfl, h0, cT_cg g1 (h2.1 72 (by decide) (by decide) (by omega) (by omega) (by omega)) (fun k hk => h4 k (by omega)), h1.2.2.1, h1.2.2.2.1, h1.2.1.2, ?_⟩, cCF_tr g3 h2⟩
  show N1 f 9 + 1 ≤ s
  omega
theorem rtP_yes {b : Int → Int} {f S0 q : Int} {M N : jM} {W O : List Int} {r : Int} (h : rtP b f S0 q M N W O r) (hr : ¬ r = 0) : (lK b q = 1 ∧ isTW (lV b q) ∧ M 71 7 < 30) ∧ 0 ≤ pT3 b q ∧ cT b N (pT3 b q) ∧ cC f S0 N W (O ++ [(pTo b (lV b q) (lNx b q) + 4) * 10000 + pTn b q]) ∧ N 71 7 = M 71 7 + 1 ∧ N 71 9 = M 71 9 ∧ N f 9 = M f 9 + 1 ∧ cCF f S0 M N := by
  rcases h.1 with ⟨_, a⟩ | ⟨a, _⟩ | ⟨a, _⟩
  · exact ⟨a.1, a.2.1, a.2.2.1, a.2.2.2.1, a.2.2.2.2.1, a.2.2.2.2.2.1, a.2.2.2.2.2.2, h.2⟩
  · exact absurd a hr
  · exact absurd a hr
theorem rtP_no {b : Int → Int} {f S0 q : Int} {M N : jM} {W O : List Int} {r : Int} (h : rtP b f S0 q M N W O r) (hr : r = 0) : ((lK b q = 1 ∧ isTW (lV b q) ∧ M 71 7 < 30) ∧ pT3 b q < 0 ∧ N 71 3 = -1 - pT3 b q) ∨ (¬ (lK b q = 1 ∧ isTW (lV b q) ∧ M 71 7 < 30) ∧ N 71 3 = q) := by
  rcases h.1 with ⟨a, _⟩ | ⟨_, a⟩ | ⟨_, a⟩
  · omega
  · exact Or.inl a
  · exact Or.inr a
