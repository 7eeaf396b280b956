/-! ===== calls that only ask: what they may write ===== -/
def sC (f : Int) (M N : jM) : Prop := (∀ c, c ≠ 16 → c ≠ 22 → c ≠ 23 → c ≠ 24 → c ≠ 25 → c ≠ 26 → c ≠ 27 → c ≠ 28 → c ≠ 31 → c ≠ 32 → c ≠ 33 → c ≠ 34 → c ≠ 35 → c ≠ 44 → c ≠ 46 → c ≠ f → c ≠ f + 10 → c ≠ f + 11 → N c = M c) ∧ (∀ k, k ≠ 6 → N 16 k = M 16 k) ∧ ∀ k, k ≠ 13 → N f k = M f k
def sR (N O : jM) : Prop := (∀ c, c ≠ 74 → c ≠ 87 → c ≠ 88 → c ≠ 107 → c ≠ 108 → c ≠ 109 → c ≠ 110 → O c = N c) ∧ ∀ k, k ≠ 0 → O 74 k = N 74 k
theorem sC_r {f : Int} {M N : jM} (hf : jA f) (h : sC f M N) : rSm M N := by
  intro c hc
  rcases jA_or hf with e | e <;> subst e <;> exact h.1 c (by omega) (by omega) (by omega) (by omega) (by omega) (by omega) (by omega) (by omega) (by omega) (by omega) (by omega) (by omega) (by omega) (by omega) (by omega) (by omega) (by omega) (by omega)
theorem sC_rf (f : Int) (M : jM) : sC f M M := ⟨fun _ _ _ _ _ _ _ _ _ _ _ _ _ _ _ _ _ _ _ => rfl, fun _ _ => rfl, fun _ _ => rfl⟩
theorem sC_bk {f : Int} {M N : jM} (hf : jA f) (h : (∀ c, c ≠ 16 → c ≠ 22 → c ≠ 23 → c ≠ 24 → c ≠ 25 → c ≠ 26 → N c = M c) ∧ ∀ k, k ≠ 6 → N 16 k = M 16 k) : sC f M N := by
  have hf := jA_or hf
  refine ⟨fun c a0 a1 a2 a3 a4 a5 a6 a7 a8 a9 a10 a11 a12 a13 a14 a15 a16 a17 => h.1 c a0 a1 a2 a3 a4 a5, fun k q => ?_, fun k q => ?_⟩
  · exact h.2 k q
  · rw [h.1 f (by omega) (by omega) (by omega) (by omega) (by omega) (by omega)]
theorem sC_bk7 {f : Int} {M N : jM} (hf : jA f) (h : (∀ c, c ≠ 16 → c ≠ 22 → c ≠ 23 → c ≠ 24 → c ≠ 25 → c ≠ 26 → c ≠ 27 → N c = M c) ∧ ∀ k, k ≠ 6 → N 16 k = M 16 k) : sC f M N := by
  have hf := jA_or hf
  refine ⟨fun c a0 a1 a2 a3 a4 a5 a6 a7 a8 a9 a10 a11 a12 a13 a14 a15 a16 a17 => h.1 c a0 a1 a2 a3 a4 a5 a6, fun k q => ?_, fun k q => ?_⟩
  · exact h.2 k q
  · rw [h.1 f (by omega) (by omega) (by omega) (by omega) (by omega) (by omega) (by omega)]
theorem sC_can {f : Int} {M N : jM} (hf : jA f) (h : ∀ c, c ≠ 28 → c ≠ 31 → c ≠ 32 → c ≠ 33 → N c = M c) : sC f M N := by
  have hf := jA_or hf
  refine ⟨fun c a0 a1 a2 a3 a4 a5 a6 a7 a8 a9 a10 a11 a12 a13 a14 a15 a16 a17 => h c a7 a8 a9 a10, fun k q => ?_, fun k q => ?_⟩
  · rw [h 16 (by omega) (by omega) (by omega) (by omega)]
  · rw [h f (by omega) (by omega) (by omega) (by omega)]
theorem sC_lost {f : Int} {M N : jM} (hf : jA f) (h : ∀ c, c ≠ 34 → c ≠ 35 → N c = M c) : sC f M N := by
  have hf := jA_or hf
  refine ⟨fun c a0 a1 a2 a3 a4 a5 a6 a7 a8 a9 a10 a11 a12 a13 a14 a15 a16 a17 => h c a11 a12, fun k q => ?_, fun k q => ?_⟩
  · rw [h 16 (by omega) (by omega)]
  · rw [h f (by omega) (by omega)]
theorem sC_way {f : Int} {M N : jM} (hf : jA f) (h : ∀ c, c ≠ 44 → c ≠ 46 → N c = M c) : sC f M N := by
  have hf := jA_or hf
  refine ⟨fun c a0 a1 a2 a3 a4 a5 a6 a7 a8 a9 a10 a11 a12 a13 a14 a15 a16 a17 => h c a13 a14, fun k q => ?_, fun k q => ?_⟩
  · rw [h 16 (by omega) (by omega)]
  · rw [h f (by omega) (by omega)]
theorem sC_kA {f : Int} {M N : jM} (hf : jA f) (h : kA f M N) : sC f M N := by
  have hf := jA_or hf
  refine ⟨fun c a0 a1 a2 a3 a4 a5 a6 a7 a8 a9 a10 a11 a12 a13 a14 a15 a16 a17 => h.1 c a15 a16 a17, fun k q => ?_, fun k q => ?_⟩
  · rw [h.1 16 (by omega) (by omega) (by omega)]
  · exact h.2 k q
theorem sC_kS {f : Int} {M N : jM} (h : kS f M N) : sC f M N := ⟨fun c a0 a1 a2 a3 a4 a5 a6 a7 a8 a9 a10 a11 a12 a13 a14 a15 a16 a17 => h.1 c a0 a1 a2 a3 a4 a5 a15 a16 a17, h.2.1, h.2.2⟩
theorem sR_j (N : jM) : sR N (jup N 74 0 0) := ⟨fun c a0 a1 a2 a3 a4 a5 a6 => jup_cell a0, fun k q => jup_ne (fun z => q z.2)⟩
theorem sR_nK {N O : jM} (h : nK N O) : sR N O := ⟨fun c a0 a1 a2 a3 a4 a5 a6 => h.1 c a0 a1 a2, h.2⟩
theorem sR_107 {N O : jM} (h : ∀ c, c ≠ 107 → O c = jup N 74 0 0 c) : sR N O := ⟨fun c a0 a1 a2 a3 a4 a5 a6 => by rw [h c a3, jup_cell a0], fun k q => by rw [h 74 (by decide)]; exact jup_ne (fun z => q z.2)⟩
theorem sR_108 {N O : jM} (h : ∀ c, c ≠ 108 → O c = jup N 74 0 0 c) : sR N O := ⟨fun c a0 a1 a2 a3 a4 a5 a6 => by rw [h c a4, jup_cell a0], fun k q => by rw [h 74 (by decide)]; exact jup_ne (fun z => q z.2)⟩
theorem sR_109 {N O : jM} (h : ∀ c, c ≠ 109 → c ≠ 110 → O c = jup N 74 0 0 c) : sR N O := ⟨fun c a0 a1 a2 a3 a4 a5 a6 => by rw [h c a5 a6, jup_cell a0], fun k q => by rw [h 74 (by decide) (by decide)]; exact jup_ne (fun z => q z.2)⟩
theorem sCR_out {f : Int} {M N O : jM} (hf : jA f) (hC : sC f M N) (hR : sR N O) : ∀ c, c ∉ ([16, 22, 23, 24, 25, 26, 27, 28, 31, 32, 33, 34, 35, 44, 46, 47, 57, 58, 59, 69, 70, 74, 87, 88, 107, 108, 109, 110] : List Int) → O c = M c := by
  intro c hc
  simp only [List.mem_cons, List.not_mem_nil, or_false, not_or] at hc
  obtain ⟨b0, b1, b2, b3, b4, b5, b6, b7, b8, b9, b10, b11, b12, b13, b14, b15, b16, b17, b18, b19, b20, b21, b22, b23, b24, b25, b26, b27⟩ := hc
  have hf := jA_or hf
  exact (hR.1 c b21 b22 b23 b24 b25 b26 b27).trans (hC.1 c b0 b1 b2 b3 b4 b5 b6 b7 b8 b9 b10 b11 b12 b13 b14 (by omega) (by omega) (by omega))
set_option maxRecDepth 20000 in
theorem jIn_q {f g : Int} {Z : pSt} {M N O : jM} (hC : sC f M N) (hR : sR N O) (I : jIn f g Z M) : jIn f g Z O := by
  have hA : jA f := I.2.2.2.2.2.2.2.2.1.1.1
  have gs := sCR_out hA hC hR
  have hf := jA_or hA
  have o1 : ∀ c, c ≤ 73 → O c = N c := fun c z => hR.1 c (by omega) (by omega) (by omega) (by omega) (by omega) (by omega) (by omega)
  refine jIn_same (fun c q => gs c (nin_of q (by decide +kernel))) (by rw [gs 1 (by decide)]) (by rw [gs 9 (by decide)]) (by rw [o1 16 (by decide)]; exact hC.2.1 0 (by decide)) (by rw [gs 36 (by decide)]) (by rw [gs 36 (by decide)]) (by rw [gs 71 (by decide)]) (fun k _ _ => by rw [gs 0 (by decide)]) (fun k q => ?_) (fun c a b => gs c (by simp only [List.mem_cons, List.not_mem_nil, or_false, not_or]; omega)) (by rw [o1 f (by omega)]; exact hC.2.2 0 (by decide)) (by rw [o1 f (by omega)]; exact hC.2.2 9 (by decide)) I
  rw [hR.2 k (fun z => by rw [z] at q; exact absurd q (by decide)), hC.1 74 (by omega) (by omega) (by omega) (by omega) (by omega) (by omega) (by omega) (by omega) (by omega) (by omega) (by omega) (by omega) (by omega) (by omega) (by omega) (by omega) (by omega) (by omega)]
