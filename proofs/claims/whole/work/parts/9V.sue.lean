/-! ===== sue ===== -/
theorem su_sC {f : Int} {M P : jM} {m h d o b v : Int} (hf : jA f) (s2 : (suPl (M 9 0) (M 1 0) m h d o ∧ b < M 36 0) → wB M P f h d o v) (s3 : ¬ (suPl (M 9 0) (M 1 0) m h d o ∧ b < M 36 0) → P = M) : sC f M P := by
  by_cases z : (suPl (M 9 0) (M 1 0) m h d o ∧ b < M 36 0)
  · exact sC_kS (wB_kS (jA_or hf) (s2 z))
  · rw [s3 z]; exact sC_rf f M
theorem kc_sue {f : Int} {M N : jM} {m h d o r : Int} (hf : jA f) (h8 : q_X8_sue M f hf m h d o r N) : rSm M N := by
  obtain ⟨b, P, v, s1, s2, s3, s4, s5⟩ := h8
  have k := sC_r hf (su_sC hf s2 s3)
  rcases s5 with ⟨_, e⟩ | ⟨_, e⟩
  · rw [e]; exact k
  · intro c hc
    rw [e]; unfold suUp; simp only [jup_hi hc, Int.reduceLT]; exact k c hc
set_option maxHeartbeats 4000000 in
theorem T_sue {f g : Int} {Z : pSt} {M N O : jM} {m h d o r r' : Int} (hf : jA f) (I : jIn f g Z M) (h8 : q_X8_sue M f hf m h d o r N) (h9 : q_X9_sue N m h d o r' O) : r = r' ∧ ∃ f g Z, jIn f g Z O := by
  have k : rSm M N := kc_sue hf h8
  have hA := jA_or hf
  obtain ⟨b, P, v, s1, s2, s3, s4, s5⟩ := h8
  obtain ⟨b', v', K, t1, t2, t3, t4, t5⟩ := h9
  have hC := su_sC hf s2 s3
  have e8_ : M 74 8 = M 9 0 := I.2.1.2.1.1.symm
  have e3_ : M 74 3 = M 1 0 := I.1.2.1.symm
  simp only [rHit_s k, k 74 (by decide), e8_, e3_] at t2
  simp only [tn_74_3 k I, tn_76 k I, tn_77 k I, tn_78 k I, tn_79 k I, tn_94 k I, tn_95 k I, tn_96 k I, tn_74_8 k I, tn_80 k I, tn_81 k I, tn_82 k I, tn_74_27 k I, tn_89 k I, tn_90 k I, tn_91 k I, tn_92 k I, tn_93 k I, tn_97 k I, tn_98 k I, tn_74_38 k I, tn_74_41 k I, tn_99 k I, tn_100 k I, tn_104 k I, tn_101 k I, tn_103 k I, tn_105 k I, tn_102 k I, tn_106 k I, tn_74_14 k I, tn_74_1 k I] at t1 t4 t5
  have eb : suPl (M 9 0) (M 1 0) m h d o → b = b' := fun pl => bF_u rfl (s1 pl) (t1 pl)
  have er : r = r' := by
    refine sAns_u Iff.rfl (fun pl => ?_) Iff.rfl rfl s4 t4
    have eb := eb pl
    rw [← eb]
    by_cases z : b < M 36 0
    · have ev : v = v' := tz_brk (af_z I) (af_ca I) (af_ra I) hA pl.2 (jIn_tzH I pl.1.1 pl.1.2.1) (jIn_tzL I) (af_ckind I h) (af_cgrade I h) (af_cpapers I h) (af_cio I) (af_clines I).1 (af_clw I) (s2 ⟨pl, z⟩) (t2 pl)
      rw [ev]
    · exact ⟨fun y => absurd y.1 z, fun y => absurd y.1 z⟩
  refine ⟨er, f, g, Z, ?_⟩
  rcases s5 with ⟨x, e8⟩ | ⟨x, e8⟩
  · rcases t5 with ⟨_, e9⟩ | ⟨y, _⟩
    · exact jIn_q (N := N) (by rw [e8]; exact hC) (by rw [e9]; exact sR_nK t3) I
    · omega
  · rcases t5 with ⟨y, _⟩ | ⟨_, e9⟩
    · omega
    · rcases s4 with ⟨_, z⟩ | ⟨_, _, z⟩ | ⟨_, _, _, z⟩ | ⟨pl, st, nf, z⟩
      · omega
      · omega
      · omega
      · have ebb := eb pl
        have bb := (s1 pl).1
        rw [← ebb] at e9
        have q1 := af_ccases I
        have q2 := af_cbenches I
        have q3 := af_cmills I
        have q4 := af_chands I
        have fr : ∀ c, c ∉ ([16, 22, 23, 24, 25, 26, 27, 28, 31, 32, 33, 34, 35, 44, 46, 47, 57, 58, 59, 69, 70, 74, 87, 88, 107, 108, 109, 110, 36, 39, 40, 41, 42, 43, 101, 102, 103, 104, 105] : List Int) → O c = M c := by
          intro c hc
          simp only [List.mem_cons, List.not_mem_nil, or_false, not_or] at hc
          obtain ⟨b0, b1, b2, b3, b4, b5, b6, b7, b8, b9, b10, b11, b12, b13, b14, b15, b16, b17, b18, b19, b20, b21, b22, b23, b24, b25, b26, b27, b28, b29, b30, b31, b32, b33, b34, b35, b36, b37, b38⟩ := hc
          rw [e9]; unfold suUr
          rw [jup_cell b21, jup_cell b38, jup_cell b37, jup_cell b36, jup_cell b35, jup_cell b34, t3.1 c b21 b22 b23, e8]
          unfold suUp
          rw [jup_cell b28, jup_cell b32, jup_cell b29, jup_cell b31, jup_cell b33, jup_cell b30]
          exact hC.1 c b0 b1 b2 b3 b4 b5 b6 b7 b8 b9 b10 b11 b12 b13 b14 (by omega) (by omega) (by omega)
        have ok : ∀ c, c < 74 → O c = N c := fun c hc => by
          rw [e9]; unfold suUr
          simp only [jup_lo hc, Int.reduceLE]
          exact t3.1 c (by omega) (by omega) (by omega)
        have on : ∀ c, c ≠ 74 → c ≠ 87 → c ≠ 88 → 74 < c → K c = M c := fun c a1 a2 a3 a4 => by
          rw [t3.1 c a1 a2 a3, k c (by omega)]
        have pc : ∀ c, 36 ≤ c → c ≤ 43 → P c = M c := fun c a1 a2 => hC.1 c (by omega) (by omega) (by omega) (by omega) (by omega) (by omega) (by omega) (by omega) (by omega) (by omega) (by omega) (by omega) (by omega) (by omega) (by omega) (by omega) (by omega) (by omega)
        have n40 : O 40 = up (M 40) (M 36 3) m := by rw [ok 40 (by decide), e8]; unfold suUp; simp only [jup_c, Int.reduceEq, ↓reduceIte]; rw [pc 40 (by decide) (by decide)]
        have n43 : O 43 = up (M 43) (M 36 3) h := by rw [ok 43 (by decide), e8]; unfold suUp; simp only [jup_c, Int.reduceEq, ↓reduceIte]; rw [pc 43 (by decide) (by decide)]
        have n41 : O 41 = up (M 41) (M 36 3) o := by rw [ok 41 (by decide), e8]; unfold suUp; simp only [jup_c, Int.reduceEq, ↓reduceIte]; rw [pc 41 (by decide) (by decide)]
        have n39 : O 39 = up (M 39) (M 36 3) b := by rw [ok 39 (by decide), e8]; unfold suUp; simp only [jup_c, Int.reduceEq, ↓reduceIte]; rw [pc 39 (by decide) (by decide)]
        have n42 : O 42 = up (M 42) (M 36 3) 1 := by rw [ok 42 (by decide), e8]; unfold suUp; simp only [jup_c, Int.reduceEq, ↓reduceIte]; rw [pc 42 (by decide) (by decide)]
        have n36 : O 36 = up (M 36) 3 (M 36 3 + 1) := by rw [ok 36 (by decide), e8]; unfold suUp; simp only [jup_c, Int.reduceEq, ↓reduceIte]; rw [pc 36 (by decide) (by decide)]
        have o36 : O 36 0 = M 36 0 := by rw [n36, up_ne (by decide)]
        have o363 : O 36 3 = M 36 3 + 1 := by rw [n36, up_self]
        have n101 : O 101 = up (M 101) (M 36 3) m := by rw [e9]; unfold suUr; simp only [jup_c, Int.reduceEq, ↓reduceIte]; rw [on 101 (by decide) (by decide) (by decide) (by decide)]
        have n102 : O 102 = up (M 102) (M 36 3) h := by rw [e9]; unfold suUr; simp only [jup_c, Int.reduceEq, ↓reduceIte]; rw [on 102 (by decide) (by decide) (by decide) (by decide)]
        have n103 : O 103 = up (M 103) (M 36 3) o := by rw [e9]; unfold suUr; simp only [jup_c, Int.reduceEq, ↓reduceIte]; rw [on 103 (by decide) (by decide) (by decide) (by decide)]
        have n104 : O 104 = up (M 104) (M 36 3) b := by rw [e9]; unfold suUr; simp only [jup_c, Int.reduceEq, ↓reduceIte]; rw [on 104 (by decide) (by decide) (by decide) (by decide)]
        have n105 : O 105 = up (M 105) (M 36 3) 1 := by rw [e9]; unfold suUr; simp only [jup_c, Int.reduceEq, ↓reduceIte]; rw [on 105 (by decide) (by decide) (by decide) (by decide)]
        have n74 : O 74 = up (K 74) 41 (M 36 3 + 1) := by rw [e9]; unfold suUr; simp only [jup_c, Int.reduceEq, ↓reduceIte]
        have f74 : ∀ j, j ≠ 0 → j ≠ 41 → O 74 j = M 74 j := fun j a1 a2 => by rw [n74, up_ne a2, t3.2 j a1, k 74 (by decide)]
        have o741 : O 74 41 = M 36 3 + 1 := by rw [n74, up_self]
        have o16 : O 16 0 = M 16 0 := by
          rw [ok 16 (by decide), e8]; unfold suUp; simp only [jup_c, Int.reduceEq, ↓reduceIte]; exact hC.2.1 0 (by decide)
        have nf : ∀ j, j ≠ 13 → O f j = M f j := fun j a => by
          rw [ok f (by omega), e8]; unfold suUp; rw [jup_cell (by omega), jup_cell (by omega), jup_cell (by omega), jup_cell (by omega), jup_cell (by omega), jup_cell (by omega)]; exact hC.2.2 j a
        have gc : gC O := by
          obtain ⟨⟨a1, a2, a3, a4, a5, a6, a7, a8, a9⟩, b1, b2, b3, b4, b5, b6, b7, b8, b9⟩ := I.2.2.2.2.1
          unfold gC
          rw [o36, o363, o741, f74 38 (by decide) (by decide), n39, n40, n41, n42, n43, n101, n102, n103, n104, n105, fr 37 (by decide), fr 38 (by decide), fr 99 (by decide), fr 100 (by decide)]
          exact ⟨⟨a1, by omega, a3, a4, up_in a5 (by omega), up_in a6 (by omega), up_in a7 (by omega), up_in a8 (by omega), up_in a9 (by omega)⟩, b1, rfl, b3, b4, by rw [b5], by rw [b6], by rw [b7], by rw [b8], by rw [b9]⟩
        exact ⟨gM_f (fun c q => fr c (nin_of q (by decide +kernel))) (by rw [fr 1 (by decide)]) (f74 3 (by decide) (by decide)) I.1,
          gH_f (fun c q => fr c (nin_of q (by decide +kernel))) (by rw [fr 9 (by decide)]) (f74 8 (by decide) (by decide)) I.2.1,
          gL_f (fun c q => fr c (nin_of q (by decide +kernel))) o16 (f74 27 (by decide) (by decide)) (by rw [fr 1 (by decide)]) I.2.2.1,
          gT_f (fun c q => fr c (nin_of q (by decide +kernel))) I.2.2.2.1,
          gc,
          gR_f (fun c q => fr c (nin_of q (by decide +kernel))) I.2.2.2.2.2.1,
          gX_f (fr 72 (by decide)) (fr 84 (by decide)) (by rw [fr 71 (by decide)]) (f74 14 (by decide) (by decide)) I.2.2.2.2.2.2.1,
          gW_f (fr 75 (by decide)) I.2.2.2.2.2.2.2.1,
          gA_f (fun c a b => fr c (by simp only [List.mem_cons, List.not_mem_nil, or_false, not_or]; omega)) (nf 0 (by decide)) (nf 9 (by decide)) (by rw [fr 0 (by decide)]) (by rw [fr 0 (by decide)]) (fun i _ => by rw [fr 85 (by decide)]) (fun i _ => by rw [fr 86 (by decide)]) (f74 20 (by decide) (by decide)) I.2.2.2.2.2.2.2.2.1,
          (by unfold gZ; rw [show O 0 9 = M 0 9 from (by rw [fr 0 (by decide)]), show O 74 1 = M 74 1 from (f74 1 (by decide) (by decide))]; exact I.2.2.2.2.2.2.2.2.2)⟩
