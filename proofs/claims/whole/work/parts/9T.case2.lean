/-! ===== the calls one by one: those that ask ===== -/
theorem sc_truth {f : Int} {M N : jM} (hA : jA f) {m t w : Int} {r : Int} (h8 : q_X8_truth M m t w r N) : sC f M N := by rw [h8.2]; exact sC_rf f M
theorem T_truth {f g : Int} {Z : pSt} {M N O : jM} {m t w : Int} {r r' : Int} (I : jIn f g Z M) (h8 : q_X8_truth M m t w r N) (h9 : q_X9_truth N m t w r' O) : r = r' ∧ ∃ f g Z, jIn f g Z O := by
  have hC : sC f M N := sc_truth (af_f I).1 h8
  have k : rSm M N := sC_r (af_f I).1 hC
  refine ⟨?_, f, g, Z, jIn_q hC ((by rw [h9.2]; exact sR_j N)) I⟩
  rw [h8.1, h9.1]
  simp only [tn_20 k I, tn_74_3 k I, tn_76 k I, tn_77 k I, tn_78 k I, tn_79 k I, tn_94 k I, tn_95 k I, tn_96 k I, tn_74_8 k I, tn_80 k I, tn_81 k I, tn_82 k I, tn_74_27 k I, tn_89 k I, tn_90 k I, tn_91 k I, tn_92 k I, tn_93 k I, tn_97 k I, tn_98 k I, tn_74_38 k I, tn_74_41 k I, tn_99 k I, tn_100 k I, tn_104 k I, tn_101 k I, tn_103 k I, tn_105 k I, tn_102 k I, tn_106 k I, tn_74_14 k I, tn_74_1 k I]
theorem sc_suit {f : Int} {M N : jM} (hA : jA f) {i w : Int} {r : Int} (h8 : q_X8_suit M i w r N) : sC f M N := by rw [h8.2]; exact sC_rf f M
theorem T_suit {f g : Int} {Z : pSt} {M N O : jM} {i w : Int} {r r' : Int} (I : jIn f g Z M) (h8 : q_X8_suit M i w r N) (h9 : q_X9_suit N i w r' O) : r = r' ∧ ∃ f g Z, jIn f g Z O := by
  have hC : sC f M N := sc_suit (af_f I).1 h8
  have k : rSm M N := sC_r (af_f I).1 hC
  refine ⟨?_, f, g, Z, jIn_q hC ((by rw [h9.2]; exact sR_j N)) I⟩
  rw [h8.1, h9.1]
  simp only [tn_20 k I, tn_74_3 k I, tn_76 k I, tn_77 k I, tn_78 k I, tn_79 k I, tn_94 k I, tn_95 k I, tn_96 k I, tn_74_8 k I, tn_80 k I, tn_81 k I, tn_82 k I, tn_74_27 k I, tn_89 k I, tn_90 k I, tn_91 k I, tn_92 k I, tn_93 k I, tn_97 k I, tn_98 k I, tn_74_38 k I, tn_74_41 k I, tn_99 k I, tn_100 k I, tn_104 k I, tn_101 k I, tn_103 k I, tn_105 k I, tn_102 k I, tn_106 k I, tn_74_14 k I, tn_74_1 k I]
theorem sc_fines {f : Int} {M N : jM} (hA : jA f) {m : Int} {r : Int} (h8 : q_X8_fines M m r N) : sC f M N := by rw [h8.2]; exact sC_rf f M
theorem T_fines {f g : Int} {Z : pSt} {M N O : jM} {m : Int} {r r' : Int} (I : jIn f g Z M) (h8 : q_X8_fines M m r N) (h9 : q_X9_fines N m r' O) : r = r' ∧ ∃ f g Z, jIn f g Z O := by
  have hC : sC f M N := sc_fines (af_f I).1 h8
  have k : rSm M N := sC_r (af_f I).1 hC
  refine ⟨?_, f, g, Z, jIn_q hC ((by rw [h9.2]; exact sR_j N)) I⟩
  rw [h8.1, h9.1]
  simp only [tn_20 k I, tn_74_3 k I, tn_76 k I, tn_77 k I, tn_78 k I, tn_79 k I, tn_94 k I, tn_95 k I, tn_96 k I, tn_74_8 k I, tn_80 k I, tn_81 k I, tn_82 k I, tn_74_27 k I, tn_89 k I, tn_90 k I, tn_91 k I, tn_92 k I, tn_93 k I, tn_97 k I, tn_98 k I, tn_74_38 k I, tn_74_41 k I, tn_99 k I, tn_100 k I, tn_104 k I, tn_101 k I, tn_103 k I, tn_105 k I, tn_102 k I, tn_106 k I, tn_74_14 k I, tn_74_1 k I]
theorem sc_count {f : Int} {M N : jM} (hf : jA f) (hA : jA f) {w : Int} {r : Int} (h8 : q_X8_count M f hf w r N) : sC f M N := by rw [h8.2]; exact sC_rf f M
theorem T_count {f g : Int} {Z : pSt} {M N O : jM} {w : Int} {r r' : Int} (hf : jA f) (I : jIn f g Z M) (h8 : q_X8_count M f hf w r N) (h9 : q_X9_count N w r' O) : r = r' ∧ ∃ f g Z, jIn f g Z O := by
  have hC : sC f M N := sc_count hf (af_f I).1 h8
  have k : rSm M N := sC_r (af_f I).1 hC
  refine ⟨?_, f, g, Z, jIn_q hC ((by rw [h9.2]; exact sR_j N)) I⟩
  rw [h8.1, h9.1]
  simp only [tn_20 k I, tn_74_3 k I, tn_76 k I, tn_77 k I, tn_78 k I, tn_79 k I, tn_94 k I, tn_95 k I, tn_96 k I, tn_74_8 k I, tn_80 k I, tn_81 k I, tn_82 k I, tn_74_27 k I, tn_89 k I, tn_90 k I, tn_91 k I, tn_92 k I, tn_93 k I, tn_97 k I, tn_98 k I, tn_74_38 k I, tn_74_41 k I, tn_99 k I, tn_100 k I, tn_104 k I, tn_101 k I, tn_103 k I, tn_105 k I, tn_102 k I, tn_106 k I, tn_74_14 k I, tn_74_1 k I]
theorem sc_trace {f : Int} {M N : jM} (hA : jA f) {r : Int} (h8 : q_X8_trace M  r N) : sC f M N := by rw [h8.2]; exact sC_rf f M
theorem T_trace {f g : Int} {Z : pSt} {M N O : jM} {r r' : Int} (I : jIn f g Z M) (h8 : q_X8_trace M  r N) (h9 : q_X9_trace N  r' O) : r = r' ∧ ∃ f g Z, jIn f g Z O := by
  have hC : sC f M N := sc_trace (af_f I).1 h8
  have k : rSm M N := sC_r (af_f I).1 hC
  refine ⟨?_, f, g, Z, jIn_q hC ((by rw [h9.2]; exact sR_j N)) I⟩
  rw [h8.1, h9.1]
  simp only [tn_20 k I, tn_74_3 k I, tn_76 k I, tn_77 k I, tn_78 k I, tn_79 k I, tn_94 k I, tn_95 k I, tn_96 k I, tn_74_8 k I, tn_80 k I, tn_81 k I, tn_82 k I, tn_74_27 k I, tn_89 k I, tn_90 k I, tn_91 k I, tn_92 k I, tn_93 k I, tn_97 k I, tn_98 k I, tn_74_38 k I, tn_74_41 k I, tn_99 k I, tn_100 k I, tn_104 k I, tn_101 k I, tn_103 k I, tn_105 k I, tn_102 k I, tn_106 k I, tn_74_14 k I, tn_74_1 k I]
theorem sc_work {f : Int} {M N : jM} (hA : jA f) {h d w : Int} {r : Int} (h8 : q_X8_work M h d w r N) : sC f M N := sC_bk hA h8.2
theorem T_work {f g : Int} {Z : pSt} {M N O : jM} {h d w : Int} {r r' : Int} (I : jIn f g Z M) (h8 : q_X8_work M h d w r N) (h9 : q_X9_work N h d w r' O) : r = r' ∧ ∃ f g Z, jIn f g Z O := by
  have hC : sC f M N := sc_work (af_f I).1 h8
  have k : rSm M N := sC_r (af_f I).1 hC
  refine ⟨?_, f, g, Z, jIn_q hC ((by rw [h9.2]; exact sR_j N)) I⟩
  rw [h8.1, h9.1]
  simp only [tn_20 k I, tn_74_3 k I, tn_76 k I, tn_77 k I, tn_78 k I, tn_79 k I, tn_94 k I, tn_95 k I, tn_96 k I, tn_74_8 k I, tn_80 k I, tn_81 k I, tn_82 k I, tn_74_27 k I, tn_89 k I, tn_90 k I, tn_91 k I, tn_92 k I, tn_93 k I, tn_97 k I, tn_98 k I, tn_74_38 k I, tn_74_41 k I, tn_99 k I, tn_100 k I, tn_104 k I, tn_101 k I, tn_103 k I, tn_105 k I, tn_102 k I, tn_106 k I, tn_74_14 k I, tn_74_1 k I]
theorem sc_clash {f : Int} {M N : jM} (hA : jA f) {h d : Int} {r : Int} (h8 : q_X8_clash M h d r N) : sC f M N := sC_bk hA h8.2
theorem T_clash {f g : Int} {Z : pSt} {M N O : jM} {h d : Int} {r r' : Int} (I : jIn f g Z M) (h8 : q_X8_clash M h d r N) (h9 : q_X9_clash N h d r' O) : r = r' ∧ ∃ f g Z, jIn f g Z O := by
  have hC : sC f M N := sc_clash (af_f I).1 h8
  have k : rSm M N := sC_r (af_f I).1 hC
  refine ⟨?_, f, g, Z, jIn_q hC (sR_107 h9.2) I⟩
  rw [h8.1, h9.1]
  simp only [tn_20 k I, tn_74_3 k I, tn_76 k I, tn_77 k I, tn_78 k I, tn_79 k I, tn_94 k I, tn_95 k I, tn_96 k I, tn_74_8 k I, tn_80 k I, tn_81 k I, tn_82 k I, tn_74_27 k I, tn_89 k I, tn_90 k I, tn_91 k I, tn_92 k I, tn_93 k I, tn_97 k I, tn_98 k I, tn_74_38 k I, tn_74_41 k I, tn_99 k I, tn_100 k I, tn_104 k I, tn_101 k I, tn_103 k I, tn_105 k I, tn_102 k I, tn_106 k I, tn_74_14 k I, tn_74_1 k I]
theorem sc_lost {f : Int} {M N : jM} (hA : jA f) {m D w : Int} {r : Int} (h8 : q_X8_lost M m D w r N) : sC f M N := sC_lost hA h8.2
theorem T_lost {f g : Int} {Z : pSt} {M N O : jM} {m D w : Int} {r r' : Int} (I : jIn f g Z M) (h8 : q_X8_lost M m D w r N) (h9 : q_X9_lost N m D w r' O) : r = r' ∧ ∃ f g Z, jIn f g Z O := by
  have hC : sC f M N := sc_lost (af_f I).1 h8
  have k : rSm M N := sC_r (af_f I).1 hC
  refine ⟨?_, f, g, Z, jIn_q hC (sR_109 h9.2) I⟩
  rw [h8.1, h9.1]
theorem sc_way {f : Int} {M N : jM} (hA : jA f) {H w : Int} {r : Int} (h8 : q_X8_way M H w r N) : sC f M N := sC_way hA h8.2
theorem T_way {f g : Int} {Z : pSt} {M N O : jM} {H w : Int} {r r' : Int} (I : jIn f g Z M) (h8 : q_X8_way M H w r N) (h9 : q_X9_way N H w r' O) : r = r' ∧ ∃ f g Z, jIn f g Z O := by
  have hC : sC f M N := sc_way (af_f I).1 h8
  have k : rSm M N := sC_r (af_f I).1 hC
  refine ⟨?_, f, g, Z, jIn_q hC (sR_108 h9.2) I⟩
  rw [h8.1, h9.1]
  simp only [tn_20 k I, tn_74_3 k I, tn_76 k I, tn_77 k I, tn_78 k I, tn_79 k I, tn_94 k I, tn_95 k I, tn_96 k I, tn_74_8 k I, tn_80 k I, tn_81 k I, tn_82 k I, tn_74_27 k I, tn_89 k I, tn_90 k I, tn_91 k I, tn_92 k I, tn_93 k I, tn_97 k I, tn_98 k I, tn_74_38 k I, tn_74_41 k I, tn_99 k I, tn_100 k I, tn_104 k I, tn_101 k I, tn_103 k I, tn_105 k I, tn_102 k I, tn_106 k I, tn_74_14 k I, tn_74_1 k I]
theorem sc_born {f : Int} {M N : jM} (hA : jA f) {h w : Int} {r : Int} (h8 : q_X8_born M h w r N) : sC f M N := by rw [h8.2]; exact sC_rf f M
theorem T_born {f g : Int} {Z : pSt} {M N O : jM} {h w : Int} {r r' : Int} (I : jIn f g Z M) (h8 : q_X8_born M h w r N) (h9 : q_X9_born N h w r' O) : r = r' ∧ ∃ f g Z, jIn f g Z O := by
  have hC : sC f M N := sc_born (af_f I).1 h8
  have k : rSm M N := sC_r (af_f I).1 hC
  refine ⟨?_, f, g, Z, jIn_q hC ((by rw [h9.2]; exact sR_j N)) I⟩
  rw [h8.1, h9.1, tn_74_8 k I, k 83 (by decide), k 82 (by decide)]
  unfold fBornQ
  by_cases q : 0 ≤ h ∧ h < M 9 0 ∧ 0 ≤ w ∧ w ≤ 2
  · rw [if_pos q, if_pos q]
    have b := bn_f (af_bn I h q.1 q.2.1)
    have c14 := af_ccon I h
    rcases (show w = 0 ∨ w = 1 ∨ w = 2 by omega) with z | z | z <;> subst z <;> simp only [Int.reduceEq, ↓reduceIte]
    · exact b.1.1
    · exact b.1.2
    · rw [← b.2]; split <;> omega
  · rw [if_neg q, if_neg q]
theorem sc_age {f : Int} {M N : jM} (hA : jA f) {h d w : Int} {r : Int} (h8 : q_X8_age M h d w r N) : sC f M N := by rw [h8.2]; exact sC_rf f M
theorem T_age {f g : Int} {Z : pSt} {M N O : jM} {h d w : Int} {r r' : Int} (I : jIn f g Z M) (h8 : q_X8_age M h d w r N) (h9 : q_X9_age N h d w r' O) : r = r' ∧ ∃ f g Z, jIn f g Z O := by
  have hC : sC f M N := sc_age (af_f I).1 h8
  have k : rSm M N := sC_r (af_f I).1 hC
  refine ⟨?_, f, g, Z, jIn_q hC ((by rw [h9.2]; exact sR_j N)) I⟩
  rw [h8.1, h9.1, tn_74_8 k I, k 83 (by decide), k 82 (by decide)]
  unfold fAgeQ fAge
  by_cases q : 0 ≤ h ∧ h < M 9 0 ∧ 0 ≤ d ∧ d ≤ 359 ∧ 0 ≤ w ∧ w ≤ 1
  · rw [if_pos q, if_pos q]
    have b := bn_f (af_bn I h q.1 q.2.1)
    rcases (show w = 0 ∨ w = 1 by omega) with z | z <;> subst z <;> simp only [Int.reduceEq, ↓reduceIte]
    · rw [b.1.1]
    · rw [b.1.2]
  · rw [if_neg q, if_neg q]
theorem sc_rule {f : Int} {M N : jM} (hf : jA f) (hA : jA f) {i w : Int} {r : Int} (h8 : q_X8_rule M f hf i w r N) : sC f M N := by rw [h8.2]; exact sC_rf f M
theorem T_rule {f g : Int} {Z : pSt} {M N O : jM} {i w : Int} {r r' : Int} (hf : jA f) (I : jIn f g Z M) (h8 : q_X8_rule M f hf i w r N) (h9 : q_X9_rule N i w r' O) : r = r' ∧ ∃ f g Z, jIn f g Z O := by
  have hC : sC f M N := sc_rule hf (af_f I).1 h8
  have k : rSm M N := sC_r (af_f I).1 hC
  refine ⟨?_, f, g, Z, jIn_q hC ((by rw [h9.2]; exact sR_j N)) I⟩
  rw [h8.1, h9.1, tn_20 k I, k 85 (by decide)]
  by_cases q : 0 ≤ i ∧ i < M f 0 ∧ 0 ≤ w ∧ w ≤ 4
  · rw [if_pos q, if_pos q]
    have z1 := (af_ca I).1
    have c := ((af_ca I).2.2 i q.1 (by omega)).1
    have d := ((af_ra I).2 i q.1 (by omega)).1
    rcases (show w = 0 ∨ w = 1 ∨ w = 2 ∨ w = 3 ∨ w = 4 by omega) with z | z | z | z | z <;> subst z <;> simp only [Int.reduceEq, ↓reduceIte, Int.add_zero]
    · rw [c.1, d.1]
    · rw [c.2.1, d.2.1]
    · rw [c.2.2.1, d.2.2.1]
    · rw [c.2.2.2.1, d.2.2.2.1]
    · rw [c.2.2.2.2, d.2.2.2.2.2]
  · rw [if_neg q, if_neg q]
theorem sc_can {f : Int} {M N : jM} (hA : jA f) {p n most q w : Int} {r : Int} (h8 : q_X8_can M p n most q w r N) : sC f M N := sC_can hA h8.2
theorem T_can {f g : Int} {Z : pSt} {M N O : jM} {p n most q w : Int} {r r' : Int} (I : jIn f g Z M) (h8 : q_X8_can M p n most q w r N) (h9 : q_X9_can N p n most q w r' O) : r = r' ∧ ∃ f g Z, jIn f g Z O := by
  have hC : sC f M N := sc_can (af_f I).1 h8
  have k : rSm M N := sC_r (af_f I).1 hC
  refine ⟨?_, f, g, Z, jIn_q hC ((by rw [h9.2]; exact sR_j N)) I⟩
  have a := h8.1
  have b := h9.1
  simp only [tn_74_3 k I, tn_76 k I, tn_77 k I, tn_78 k I, tn_79 k I, tn_94 k I, tn_95 k I, tn_96 k I, tn_74_8 k I, tn_80 k I, tn_81 k I, tn_82 k I, tn_74_27 k I, tn_89 k I, tn_90 k I, tn_91 k I, tn_92 k I, tn_93 k I, tn_97 k I, tn_98 k I, tn_74_38 k I, tn_74_41 k I, tn_99 k I, tn_100 k I, tn_104 k I, tn_101 k I, tn_103 k I, tn_105 k I, tn_102 k I, tn_106 k I, tn_74_14 k I, tn_74_1 k I] at b
  rcases a with ⟨a1, a2⟩ | ⟨a1, a2, a3⟩
  · rcases b with ⟨b1, b2⟩ | ⟨b1, _⟩
    · rw [a2, b2]
    · exact absurd b1 a1
  · rcases b with ⟨b1, b2⟩ | ⟨b1, b2, b3⟩
    · exact absurd a1 b1
    · rcases (show w = 0 ∨ w = 1 by omega) with z | z
      · rw [a2 z, b2 z]
      · exact zLst_u (a3 z) (b3 z)
theorem sc_doubted {f : Int} {M N : jM} (hA : jA f) {h d w : Int} {r : Int} (h8 : q_X8_doubted M h d w r N) : sC f M N := sC_bk7 hA h8.2
theorem T_doubted {f g : Int} {Z : pSt} {M N O : jM} {h d w : Int} {r r' : Int} (I : jIn f g Z M) (h8 : q_X8_doubted M h d w r N) (h9 : q_X9_doubted N h d w r' O) : r = r' ∧ ∃ f g Z, jIn f g Z O := by
  have hC : sC f M N := sc_doubted (af_f I).1 h8
  have k : rSm M N := sC_r (af_f I).1 hC
  refine ⟨?_, f, g, Z, jIn_q hC (sR_107 h9.2) I⟩
  have a := h8.1
  have b := h9.1
  simp only [tn_74_3 k I, tn_76 k I, tn_77 k I, tn_78 k I, tn_79 k I, tn_94 k I, tn_95 k I, tn_96 k I, tn_74_8 k I, tn_80 k I, tn_81 k I, tn_82 k I, tn_74_27 k I, tn_89 k I, tn_90 k I, tn_91 k I, tn_92 k I, tn_93 k I, tn_97 k I, tn_98 k I, tn_74_38 k I, tn_74_41 k I, tn_99 k I, tn_100 k I, tn_104 k I, tn_101 k I, tn_103 k I, tn_105 k I, tn_102 k I, tn_106 k I, tn_74_14 k I, tn_74_1 k I] at b
  rcases a with ⟨a1, a2⟩ | ⟨a1, a2, a3⟩ | ⟨a1, a2, a3⟩
  · rcases b with ⟨b1, b2⟩ | ⟨b1, _⟩ | ⟨b1, _⟩
    · rw [a2, b2]
    · exact absurd b1 a1
    · exact absurd b1 a1
  · rcases b with ⟨b1, b2⟩ | ⟨b1, b2, b3⟩ | ⟨b1, b2, b3⟩
    · exact absurd a1 b1
    · rw [a3, b3]
    · omega
  · rcases b with ⟨b1, b2⟩ | ⟨b1, b2, b3⟩ | ⟨b1, b2, b3⟩
    · exact absurd a1 b1
    · omega
    · exact dAns_u a3 b3
theorem sc_binds {f : Int} {M N : jM} (hf : jA f) (hA : jA f) {i h m d : Int} {r : Int} (h8 : q_X8_binds M f hf i h m d r N) : sC f M N := sC_kA hA h8.2
theorem T_binds {f g : Int} {Z : pSt} {M N O : jM} {i h m d : Int} {r r' : Int} (hf : jA f) (I : jIn f g Z M) (h8 : q_X8_binds M f hf i h m d r N) (h9 : q_X9_binds N i h m d r' O) : r = r' ∧ ∃ f g Z, jIn f g Z O := by
  have hC : sC f M N := sc_binds hf (af_f I).1 h8
  have k : rSm M N := sC_r (af_f I).1 hC
  refine ⟨?_, f, g, Z, jIn_q hC (sR_nK h9.2) I⟩
  rw [h8.1, h9.1, rB_s k, tn_20 k I, tn_74_8 k I, tn_74_3 k I]
  by_cases q : 0 ≤ i ∧ i < M f 0 ∧ (0 ≤ h ∧ h < M 9 0 ∧ 0 ≤ m ∧ m < M 1 0 ∧ 0 ≤ d ∧ d ≤ 359)
  · rw [if_pos q, if_pos q]
    have z1 := (af_ca I).1
    exact (tz_B (af_z I) (af_ca I) (af_ra I) ⟨q.1, by omega⟩ (jIn_tzH I q.2.2.1 q.2.2.2.1)).symm
  · rw [if_neg q, if_neg q]
theorem sc_duty {f : Int} {M N : jM} (hf : jA f) (hA : jA f) {h m d w s : Int} {r : Int} (h8 : q_X8_duty M f hf h m d w s r N) : sC f M N := sC_kA hA h8.2
theorem T_duty {f g : Int} {Z : pSt} {M N O : jM} {h m d w s : Int} {r r' : Int} (hf : jA f) (I : jIn f g Z M) (h8 : q_X8_duty M f hf h m d w s r N) (h9 : q_X9_duty N h m d w s r' O) : r = r' ∧ ∃ f g Z, jIn f g Z O := by
  have hC : sC f M N := sc_duty hf (af_f I).1 h8
  have k : rSm M N := sC_r (af_f I).1 hC
  refine ⟨?_, f, g, Z, jIn_q hC (sR_nK h9.2) I⟩
  rw [h8.1, h9.1, rD_s k, k 74 (by decide), show M 74 8 = M 9 0 from I.2.1.2.1.1.symm, show M 74 3 = M 1 0 from I.1.2.1.symm]
  by_cases q : (0 ≤ h ∧ h < M 9 0 ∧ 0 ≤ m ∧ m < M 1 0 ∧ 0 ≤ d ∧ d ≤ 359) ∧ 0 ≤ w ∧ w ≤ 6 ∧ 0 ≤ s ∧ s ≤ 1
  · rw [if_pos q, if_pos q]
    have es : (if s = 1 then (2 : Int) else 1) = s + 1 := by split <;> omega
    rw [es]
    exact tz_D (af_z I) (af_ca I) (af_ra I) (jIn_tzH I q.1.1 q.1.2.1) ⟨q.2.1, q.2.2.1⟩
  · rw [if_neg q, if_neg q]
theorem sc_why {f : Int} {M N : jM} (hf : jA f) (hA : jA f) {h m d w s : Int} {r : Int} (h8 : q_X8_why M f hf h m d w s r N) : sC f M N := sC_kA hA h8.2
theorem T_why {f g : Int} {Z : pSt} {M N O : jM} {h m d w s : Int} {r r' : Int} (hf : jA f) (I : jIn f g Z M) (h8 : q_X8_why M f hf h m d w s r N) (h9 : q_X9_why N h m d w s r' O) : r = r' ∧ ∃ f g Z, jIn f g Z O := by
  have hC : sC f M N := sc_why hf (af_f I).1 h8
  have k : rSm M N := sC_r (af_f I).1 hC
  refine ⟨?_, f, g, Z, jIn_q hC (sR_nK h9.2) I⟩
  rw [h8.1, h9.1, rD_s k, rWhy_s k, k 74 (by decide), show M 74 8 = M 9 0 from I.2.1.2.1.1.symm, show M 74 3 = M 1 0 from I.1.2.1.symm]
  by_cases q : (0 ≤ h ∧ h < M 9 0 ∧ 0 ≤ m ∧ m < M 1 0 ∧ 0 ≤ d ∧ d ≤ 359) ∧ 0 ≤ w ∧ w ≤ 6 ∧ 0 ≤ s ∧ s ≤ 1
  · rw [if_pos q, if_pos q]
    have es : (if s = 1 then (2 : Int) else 1) = s + 1 := by split <;> omega
    have ed := tz_D (m := m) (d := d) (s := s) (af_z I) (af_ca I) (af_ra I) (jIn_tzH I q.1.1 q.1.2.1) ⟨q.2.1, q.2.2.1⟩
    have ei := tz_Din (h := h) (m := m) (d := d) (s := s) (af_z I) (af_ca I) (af_ra I) ⟨q.2.1, q.2.2.1⟩ (af_ckind I h) (af_cgrade I h) (af_cpapers I h)
    rw [es, ed]
    rw [ed] at ei
    exact tz_W (af_z I) (af_ca I) (af_ra I) (jIn_tzH I q.1.1 q.1.2.1) ⟨q.2.1, q.2.2.1⟩ ei
  · rw [if_neg q, if_neg q]
theorem sc_quarrel {f : Int} {M N : jM} (hf : jA f) (hA : jA f) {h m d : Int} {r : Int} (h8 : q_X8_quarrel M f hf h m d r N) : sC f M N := sC_kA hA h8.2
theorem T_quarrel {f g : Int} {Z : pSt} {M N O : jM} {h m d : Int} {r r' : Int} (hf : jA f) (I : jIn f g Z M) (h8 : q_X8_quarrel M f hf h m d r N) (h9 : q_X9_quarrel N h m d r' O) : r = r' ∧ ∃ f g Z, jIn f g Z O := by
  have hC : sC f M N := sc_quarrel hf (af_f I).1 h8
  have k : rSm M N := sC_r (af_f I).1 hC
  refine ⟨?_, f, g, Z, jIn_q hC (sR_nK h9.2) I⟩
  have a := h8.1
  have b := h9.1
  rw [rQ_s k, k 85 (by decide), k 74 (by decide), show M 74 8 = M 9 0 from I.2.1.2.1.1.symm, show M 74 3 = M 1 0 from I.1.2.1.symm] at b
  rcases a with ⟨a1, a2⟩ | ⟨a1, a2⟩
  · rcases b with ⟨b1, b2⟩ | ⟨b1, _⟩
    · exact tz_Q (af_z I) (af_ca I) (af_ra I) (jIn_tzH I a1.1 a1.2.1) a2 b2
    · exact absurd a1 b1
  · rcases b with ⟨b1, _⟩ | ⟨b1, b2⟩
    · exact absurd b1 a1
    · rw [a2, b2]
theorem sc_breach {f : Int} {M N : jM} (hf : jA f) (hA : jA f) {h d o : Int} {r : Int} (h8 : q_X8_breach M f hf h d o r N) : sC f M N := h8.elim (fun z => sC_kS (wB_kS (jA_or hA) z.2)) (fun z => by rw [z.2.2]; exact sC_rf f M)
theorem T_breach {f g : Int} {Z : pSt} {M N O : jM} {h d o : Int} {r r' : Int} (hf : jA f) (I : jIn f g Z M) (h8 : q_X8_breach M f hf h d o r N) (h9 : q_X9_breach N h d o r' O) : r = r' ∧ ∃ f g Z, jIn f g Z O := by
  have hC : sC f M N := sc_breach hf (af_f I).1 h8
  have k : rSm M N := sC_r (af_f I).1 hC
  refine ⟨?_, f, g, Z, jIn_q hC (sR_nK h9.2) I⟩
  have b := h9.1
  rw [rHit_s k, rHit_s k, k 74 (by decide), show M 74 8 = M 9 0 from I.2.1.2.1.1.symm] at b
  rcases h8 with ⟨a1, a2⟩ | ⟨a1, a2, _⟩
  · rcases b with ⟨b1, b2⟩ | ⟨b1, _⟩
    · exact tz_brk (af_z I) (af_ca I) (af_ra I) (jA_or hf) ⟨a1.2.2.2.2.1, a1.2.2.2.2.2⟩ (jIn_tzH I a1.1 a1.2.1) (jIn_tzL I) (af_ckind I h) (af_cgrade I h) (af_cpapers I h) (af_cio I) (af_clines I).1 (af_clw I) a2 b2
    · exact absurd a1 b1
  · rcases b with ⟨b1, _⟩ | ⟨b1, b2⟩
    · exact absurd b1 a1
    · rw [a2, b2]
