theorem zAt {M : jM} {mn nd : Int → Int} {p most q S k : Int} (h : zPrep M mn nd p most q S) (hS : 0 ≤ S) (h0 : 0 ≤ k) (h1 : k < zIdx mn p most q S) : zOk mn p most q (M 31 k) ∧ (0 ≤ M 31 k ∧ M 31 k < S) ∧ zIdx mn p most q (M 31 k) = k := by
  obtain ⟨s, hs, ho, e⟩ := zIdx_ex (mn := mn) (p := p) (most := most) (q := q) S.toNat k h0 h1
  have e2 := h.2.2.1 s hs.1 (by omega) ho
  rw [← e] at e2
  rw [e2]
  exact ⟨ho, ⟨hs.1, by omega⟩, e.symm⟩
theorem zS2_in (T : Int → Int → Int → Bool) (S c b : Int) (hS : 0 ≤ S) : 0 ≤ zS2 T S c b ∧ zS2 T S c b ≤ S := by
  have := zP_in (f := fun a => zI (T a b c)) (B := 1) (fun i => zI_in _) S.toNat
  exact ⟨this.1, by have h := this.2; rw [toNat_c hS] at h; show zP (fun a => zI (T a b c)) S.toNat ≤ S; omega⟩
abbrev zAll3 (T : Int → Int → Int → Bool) (S B C : Int) (P : Int → Int → Int → Prop) : Prop := ∀ a b c, 0 ≤ a → a < S → 0 ≤ b → b < B → 0 ≤ c → c < C → T a b c = true → P a b c
section
variable {M : jM} {mn nd : Int → Int} {p most q S B C k l r : Int}
theorem zNo_in (h : zAll3 (zT mn nd p most q) S B C (fun a b c => k ≤ zIdx mn p most q c)) : zAll3 (zT mn nd p most q) S B C (fun a b c => k < zIdx mn p most q c ∨ (k = zIdx mn p most q c ∧ 0 ≤ zIdx mn p most q b)) := by
  intro a b c a0 a1 b0 b1 c0 c1 ht
  have h1 := h a b c a0 a1 b0 b1 c0 c1 ht
  have h2 := (zIdx_in (mn := mn) (p := p) (most := most) (q := q) b0).1
  simp only at h1 ⊢
  omega
theorem zNo_out (h : zAll3 (zT mn nd p most q) S B C (fun a b c => k < zIdx mn p most q c ∨ (k = zIdx mn p most q c ∧ l ≤ zIdx mn p most q b))) (hl : l = zIdx mn p most q B) : zAll3 (zT mn nd p most q) S B C (fun a b c => k + 1 ≤ zIdx mn p most q c) := by
  intro a b c a0 a1 b0 b1 c0 c1 ht
  have h1 := h a b c a0 a1 b0 b1 c0 c1 ht
  have h2 := zIdx_lt (mn := mn) (p := p) (most := most) (q := q) b0 b1 (zT_iff.1 ht).2.1
  simp only at h1 ⊢
  omega
theorem zNo_step (hP : zPrep M mn nd p most q S) (hB : B ≤ S) (hC : C ≤ S) (h : zAll3 (zT mn nd p most q) S B C (fun a b c => k < zIdx mn p most q c ∨ (k = zIdx mn p most q c ∧ l ≤ zIdx mn p most q b))) (hz : zS2 (zT mn nd p most q) S (M 31 k) (M 31 l) ≤ 0) : zAll3 (zT mn nd p most q) S B C (fun a b c => k < zIdx mn p most q c ∨ (k = zIdx mn p most q c ∧ l + 1 ≤ zIdx mn p most q b)) := by
  intro a b c a0 a1 b0 b1 c0 c1 ht
  have h1 := h a b c a0 a1 b0 b1 c0 c1 ht
  have ht' := zT_iff.1 ht
  by_cases e : k = zIdx mn p most q c ∧ l = zIdx mn p most q b
  · have e1 := hP.2.2.1 c c0 (by omega) ht'.2.2.1
    have e2 := hP.2.2.1 b b0 (by omega) ht'.2.1
    rw [← e.1] at e1
    rw [← e.2] at e2
    rw [e1, e2] at hz
    exact absurd ht (zTab_none hz ⟨a0, a1⟩)
  · simp only at h1 ⊢
    omega
theorem zNo_end (h : zAll3 (zT mn nd p most q) S B C (fun a b c => k ≤ zIdx mn p most q c)) (hk : k = zIdx mn p most q C) : zLst (zT mn nd p most q) S B C 262144 (-9) := by
  refine Or.inl ⟨rfl, fun a b c a0 a1 b0 b1 c0 c1 ht => ?_⟩
  have h1 := h a b c a0 a1 b0 b1 c0 c1 ht
  have h2 := zIdx_lt (mn := mn) (p := p) (most := most) (q := q) c0 c1 (zT_iff.1 ht).2.2.1
  simp only at h1
  omega
theorem zFound (hP : zPrep M mn nd p most q S) (hS : 0 ≤ S ∧ S ≤ 64) (hB : B ≤ S) (hC : C ≤ S) (h : zAll3 (zT mn nd p most q) S B C (fun a b c => k < zIdx mn p most q c ∨ (k = zIdx mn p most q c ∧ l ≤ zIdx mn p most q b)))
    (hk : 0 ≤ k ∧ k < zIdx mn p most q C) (hl : 0 ≤ l ∧ l < zIdx mn p most q B) (hC0 : 0 ≤ C) (hB0 : 0 ≤ B) {x : Int} (hx : (0 ≤ x ∧ x < S) ∧ zT mn nd p most q x (M 31 l) (M 31 k) = true ∧ ∀ a, 0 ≤ a → a < S → zT mn nd p most q a (M 31 l) (M 31 k) = true → x ≤ a) :
    zLst (zT mn nd p most q) S B C 262144 (jor (jor (jshl (M 31 k) 12) (jshl (M 31 l) 6)) x) := by
  have m1 := zIdx_mono (mn := mn) (p := p) (most := most) (q := q) hC0 hC
  have m2 := zIdx_mono (mn := mn) (p := p) (most := most) (q := q) hB0 hB
  have g1 := zAt hP hS.1 hk.1 (by omega)
  have g2 := zAt hP hS.1 hl.1 (by omega)
  have lc : M 31 k < C := by
    apply Classical.byContradiction
    intro z
    have := zIdx_mono (mn := mn) (p := p) (most := most) (q := q) hC0 (show C ≤ M 31 k by omega)
    omega
  have lb : M 31 l < B := by
    apply Classical.byContradiction
    intro z
    have := zIdx_mono (mn := mn) (p := p) (most := most) (q := q) hB0 (show B ≤ M 31 l by omega)
    omega
  rw [zCode ⟨by omega, by omega⟩ ⟨by omega, by omega⟩ ⟨by omega, by omega⟩]
  refine Or.inr ⟨by omega, by omega, ⟨x, M 31 l, M 31 k, ⟨hx.1.1, hx.1.2, g2.2.1.1, lb, g1.2.1.1, lc⟩, hx.2.1, rfl⟩, fun a b c a0 a1 b0 b1 c0 c1 ht => ?_⟩
  have h1 := h a b c a0 a1 b0 b1 c0 c1 ht
  have ht' := zT_iff.1 ht
  simp only at h1
  rcases h1 with z | ⟨z1, z2⟩
  · have : M 31 k < c := by
      apply Classical.byContradiction
      intro y
      have := zIdx_mono (mn := mn) (p := p) (most := most) (q := q) c0 (show c ≤ M 31 k by omega)
      omega
    omega
  · have e1 := hP.2.2.1 c c0 (by omega) ht'.2.2.1
    rw [← z1] at e1
    have : M 31 l ≤ b := by
      apply Classical.byContradiction
      intro y
      have := zIdx_lt (mn := mn) (p := p) (most := most) (q := q) b0 (show b < M 31 l by omega) ht'.2.1
      omega
    by_cases e : b = M 31 l
    · have := hx.2.2 a a0 a1 (by rw [← e, e1]; exact ht)
      omega
    · omega
end
theorem zBit_in (s i : Int) : 0 ≤ zBit s i ∧ zBit s i ≤ 1 := by unfold zBit; split <;> omega
