/-! ===== if .. then ===== -/
def pIf (b : Int → Int) (h : Int) : Int × List (Int × Int) := if lK b h = 1 ∧ lV b h = 2 then (tkW b 3 (pCd b 901 (lNx b h) [] true 0 0).1, (pCd b 901 (lNx b h) [] true 0 0).2) else (h, [])
def ifP (b : Int → Int) (f : Int) (M N : jM) (I : Int × List (Int × Int)) (r : Int) : Prop :=
  ((r = 1 ∧ 0 ≤ I.1 ∧ cT b N I.1 ∧ sPre (N (f + 9)) (M f 9) (N f 9 - M f 9).toNat = cOut I.2.reverse ∧ N (f + 8) (N f 0 - 1) = N f 9 ∧ M f 9 ≤ N f 9 ∧ N f 9 + 1 ≤ I.1) ∨ (r = 0 ∧ I.1 < 0 ∧ N 71 3 = -1 - I.1)) ∧ cCF f (M f 9) M N
theorem ifP_0 {b : Int → Int} {f q : Int} {M N : jM} (hf : f = 47 ∨ f = 59) (hn : ¬ (lK b q = 1 ∧ lV b q = 2)) (h0 : 0 ≤ q) (ht : cT b N q) (hr : cFr M N) (hto : M (f + 8) (M f 0 - 1) = M f 9) (hst : M f 9 ≤ q - 1) : ifP b f M N (pIf b q) 1 := by
  have e : pIf b q = (q, []) := by unfold pIf; rw [if_neg hn]
  have ef := hr.1 f (by omega)
  have e8 := hr.1 (f + 8) (by omega)
  rw [e]
  refine ⟨Or.inl ⟨rfl, h0, ht, ?_, by rw [e8, ef]; exact hto, by rw [ef]; exact Int.le_refl _, by rw [ef]; show M f 9 + 1 ≤ q; omega⟩, cCF_fr hf hr⟩
  rw [ef, show (M f 9 - M f 9).toNat = 0 by omega]
  rfl
theorem cCF_sp {f S0 : Int} {M K : jM} (hr : cFr M K) (hf : f = 47 ∨ f = 59) (h : S0 = K f 9) : S0 = M f 9 := by rw [h, hr.1 f (by omega)]
theorem ifP_no {b : Int → Int} {f q : Int} {M K N : jM} (hf : f = 47 ∨ f = 59) (hy : lK b q = 1 ∧ lV b q = 2) (hr : cFr M K) (hc : rcP b f K N (pCd b 901 (lNx b q) [] true 0 0) 0) : ifP b f M N (pIf b q) 0 := by
  have e : pIf b q = (tkW b 3 (pCd b 901 (lNx b q) [] true 0 0).1, (pCd b 901 (lNx b q) [] true 0 0).2) := by unfold pIf; rw [if_pos hy]
  have ef : K f 9 = M f 9 := by rw [hr.1 f (by omega)]
  rcases hc with ⟨⟨z, _⟩ | ⟨_, z1, z2⟩, z3⟩
  · omega
  · rw [ef] at z3
    rw [e]
    refine ⟨Or.inr ⟨rfl, ?_, ?_⟩, cCF_tr (cCF_fr hf hr) z3⟩
    · show tkW b 3 _ < 0
      rw [tkW_neg z1]; exact z1
    · show _ = -1 - tkW b 3 _
      rw [tkW_neg z1]; exact z2
theorem ifP_yes {b : Int → Int} {f q r : Int} {M K N N1 : jM} (hf : f = 47 ∨ f = 59) (hy : lK b q = 1 ∧ lV b q = 2) (hr : cFr M K) (hc : rcP b f K N (pCd b 901 (lNx b q) [] true 0 0) 1)
    (ht : (r = 1 ∧ (lK b (pCd b 901 (lNx b q) [] true 0 0).1 = 1 ∧ lV b (pCd b 901 (lNx b q) [] true 0 0).1 = 3) ∧ cT b N1 (lNx b (pCd b 901 (lNx b q) [] true 0 0).1)) ∨ (r = 0 ∧ ¬ (lK b (pCd b 901 (lNx b q) [] true 0 0).1 = 1 ∧ lV b (pCd b 901 (lNx b q) [] true 0 0).1 = 3) ∧ cT b N1 (pCd b 901 (lNx b q) [] true 0 0).1)) (h1 : cFr N N1) (hb : ∃ n, bOk b n ∧ (pCd b 901 (lNx b q) [] true 0 0).1 ≤ n) : ifP b f M N1 (pIf b q) r := by
  have e : pIf b q = (tkW b 3 (pCd b 901 (lNx b q) [] true 0 0).1, (pCd b 901 (lNx b q) [] true 0 0).2) := by unfold pIf; rw [if_pos hy]
  have ef : K f 9 = M f 9 := by rw [hr.1 f (by omega)]
  rcases hc with ⟨⟨_, z0, zT, z1, z2, z3, z4⟩ | ⟨z, _⟩, z5⟩
  · rw [ef] at z1 z3 z5
    have hF : cCF f (M f 9) M N1 := cCF_tr (cCF_fr hf hr) (cCF_tr z5 (cCF_fr hf h1))
    have g9 := h1.1 (f + 9) (by omega)
    have g8 := h1.1 (f + 8) (by omega)
    have gf := h1.1 f (by omega)
    rw [e]
    rcases ht with ⟨a, c, d⟩ | ⟨a, c, d⟩
    · have ew := (tkW_at (b := b) (k := 3) z0).1 c
      obtain ⟨n, hbk, hn⟩ := hb
      have lt := lNx_lt hbk z0 hn (by omega)
      refine ⟨Or.inl ⟨a, by show 0 ≤ tkW b 3 _; omega, by show cT b N1 (tkW b 3 _); rw [ew]; exact d, by rw [g9, gf]; exact z1, by rw [g8, gf]; exact z2, by rw [gf]; exact z3, by rw [gf]; show N f 9 + 1 ≤ tkW b 3 _; omega⟩, hF⟩
    · have ew := (tkW_at (b := b) (k := 3) z0).2 c
      exact ⟨Or.inr ⟨a, by show tkW b 3 _ < 0; omega, by show _ = -1 - tkW b 3 _; rw [(cT_tok d).1]; omega⟩, hF⟩
  · omega
theorem rcP_1 {b : Int → Int} {f r : Int} {M N : jM} {R : Int × List (Int × Int)} (h : rcP b f M N R r) (hr : ¬ r = 0) : rcP b f M N R 1 := by
  rcases h.1 with ⟨_, z⟩ | ⟨z, _⟩
  · exact ⟨Or.inl ⟨rfl, z⟩, h.2⟩
  · exact absurd z hr
theorem rcP_z {b : Int → Int} {f r : Int} {M N : jM} {R : Int × List (Int × Int)} (h : rcP b f M N R r) (hr : r = 0) : rcP b f M N R 0 := by rw [← hr]; exact h
theorem rcP_T {b : Int → Int} {f : Int} {M N : jM} {R : Int × List (Int × Int)} (h : rcP b f M N R 1) : cT b N R.1 := by
  rcases h.1 with ⟨_, _, z, _⟩ | ⟨z, _⟩
  · exact z
  · omega
theorem rcP_0 {b : Int → Int} {f : Int} {M N : jM} {R : Int × List (Int × Int)} (h : rcP b f M N R 1) : 0 ≤ R.1 := by
  rcases h.1 with ⟨_, z, _⟩ | ⟨z, _⟩
  · exact z
  · omega
theorem pCd_le {b : Int → Int} {n s : Int} (hb : bOk b n) (h0 : 0 ≤ s) (h1 : s ≤ n) (h : 0 ≤ (pCd b 901 s [] true 0 0).1) : (pCd b 901 s [] true 0 0).1 ≤ n := by
  rcases pCd_in hb 901 s [] true 0 0 h0 h1 ⟨rfl, rfl, rfl⟩ with z | z
  · omega
  · exact z.2.1
