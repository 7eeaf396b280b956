/-! ===== the calls one by one: those that write ===== -/
theorem fMill_ok {n a b c : Int} (h : 0 ≤ fMill n a b c) : (0 ≤ a ∧ a ≤ 3 ∧ 1 ≤ b ∧ b ≤ 9 ∧ 1 ≤ c ∧ c ≤ 8) ∧ n ≠ 6 := by
  unfold fMill at h
  split at h
  · rename_i z; split at h
    · omega
    · exact ⟨z, by assumption⟩
  · omega
theorem fHand_ok {n a b : Int} (h : 0 ≤ fHand n a b) : (0 ≤ a ∧ a ≤ 5 ∧ 0 ≤ b ∧ b ≤ 3) ∧ n ≠ 24 := by
  unfold fHand at h
  split at h
  · rename_i z; split at h
    · omega
    · exact ⟨z, by assumption⟩
  · omega
theorem fLine_ok {nh nm nl h d w i o : Int} (q : 0 ≤ fLine nh nm nl h d w i o) : (0 ≤ h ∧ h < nh ∧ 0 ≤ d ∧ d ≤ 359 ∧ (w = -9 ∨ (0 ≤ w ∧ w < nm)) ∧ 0 ≤ i ∧ i < o ∧ o ≤ 1440) ∧ nl ≠ 60 := by
  unfold fLine at q
  split at q
  · rename_i z; split at q
    · omega
    · exact ⟨z, by assumption⟩
  · omega
theorem fCheck_ok {nm : Int} {ck : Int → Int} {m t e : Int} (q : 0 ≤ fCheck nm ck m t e) : (0 ≤ m ∧ m < nm ∧ 0 ≤ t ∧ t ≤ 1439 ∧ -90 ≤ e ∧ e ≤ 90) ∧ ck m ≠ 4 := by
  unfold fCheck at q
  split at q
  · rename_i z; split at q
    · omega
    · exact ⟨z, by assumption⟩
  · omega
theorem fBench_ok {n k : Int} (q : 0 ≤ fBench n k) : (0 ≤ k ∧ k ≤ 1023) ∧ n ≠ 5 := by
  unfold fBench at q
  split at q
  · rename_i z; split at q
    · omega
    · exact ⟨z, by assumption⟩
  · omega
theorem up_w {t : Int → Int} {k v : Int} (h : ∀ i, t i = -9 ∨ (0 ≤ t i ∧ t i < 6)) (hv : v = -9 ∨ (0 ≤ v ∧ v < 6)) (j : Int) : up t k v j = -9 ∨ (0 ≤ up t k v j ∧ up t k v j < 6) := by
  unfold up
  split
  · exact hv
  · exact h j
theorem up_2 {t u : Int → Int} {k v x : Int} (h : ∀ i, t i ≤ u i) (hv : v ≤ x) (j : Int) : up t k v j ≤ up u k x j := by
  unfold up
  split
  · exact hv
  · exact h j
theorem up_3 {t : Int → Int} {k v n j : Int} (h : ∀ i, 0 ≤ i → i < k → t i = -9 ∨ (0 ≤ t i ∧ t i < n)) (hv : v = -9 ∨ (0 ≤ v ∧ v < n)) (j0 : 0 ≤ j) (j1 : j < k + 1) : up t k v j = -9 ∨ (0 ≤ up t k v j ∧ up t k v j < n) := by
  unfold up
  split
  · exact hv
  · exact h j j0 (by omega)
theorem gH_hand {M O : jM} {a b : Int} (I : gH M) (hq : 0 ≤ a ∧ a ≤ 5 ∧ 0 ≤ b ∧ b ≤ 3) (hn : M 9 0 ≤ 23) (e9 : O 9 0 = M 9 0 + 1) (e74 : O 74 8 = M 9 0 + 1) (o10 : O 10 = up (M 10) (M 9 0) a) (o15 : O 15 = up (M 15) (M 9 0) b) (o12 : O 12 = up (M 12) (M 9 0) 0) (o13 : O 13 = up (M 13) (M 9 0) 10799) (o11 : O 11 = M 11) (o14 : O 14 = M 14) (o80 : O 80 = up (M 80) (M 9 0) a) (o81 : O 81 = up (M 81) (M 9 0) b) (o82 : O 82 = M 82) (o83 : O 83 = M 83) : gH O := by
  obtain ⟨⟨a1, a2, a3, a4, a5, a6, a7⟩, ⟨b1, b2, b3, b4⟩, c, d, e⟩ := I
  unfold gH bnT
  rw [e9, e74, o10, o15, o12, o13, o11, o14, o80, o81, o82, o83]
  refine ⟨⟨by omega, up_in a2 (by omega), a3, up_in a4 (by omega), up_in a5 (by omega), up_in a6 (by omega), a7⟩, ⟨rfl, by rw [b2], by rw [b3], b4⟩, c, fun h h0 h1 => ?_, fun h h0 => e h (by omega)⟩
  by_cases z : h = M 9 0
  · have y := e h (by omega)
    rw [z, up_self, up_self, ← z, y.1, y.2]
    exact Or.inl ⟨rfl, rfl, rfl, by show (0 : Int) ≤ 10799; decide⟩
  · rw [up_ne z, up_ne z]
    exact d h h0 (by omega)
theorem kc_mill {M N : jM} {a b c : Int} {r : Int} (h8 : q_X8_mill M a b c r N) : rSm M N := by
  intro c hc
  obtain ⟨_, e⟩ := h8
  rw [e]
  split
  · simp only [jup_hi hc, Int.reduceLT]
  · rfl
set_option maxHeartbeats 4000000 in
theorem T_mill {f g : Int} {Z : pSt} {M N O : jM} {a b c : Int} {r r' : Int} (I : jIn f g Z M) (h8 : q_X8_mill M a b c r N) (h9 : q_X9_mill N a b c r' O) : r = r' ∧ ∃ f g Z, jIn f g Z O := by
  have k : rSm M N := kc_mill h8
  have hA := jA_or (af_f I).1
  simp only [q_X9_mill, tn_74_3 k I, tn_76 k I, tn_77 k I, tn_78 k I, tn_79 k I, tn_94 k I, tn_95 k I, tn_96 k I, tn_74_8 k I, tn_80 k I, tn_81 k I, tn_82 k I, tn_74_27 k I, tn_89 k I, tn_90 k I, tn_91 k I, tn_92 k I, tn_93 k I, tn_97 k I, tn_98 k I, tn_74_38 k I, tn_74_41 k I, tn_99 k I, tn_100 k I, tn_104 k I, tn_101 k I, tn_103 k I, tn_105 k I, tn_102 k I, tn_106 k I, tn_74_14 k I, tn_74_1 k I] at h9
  obtain ⟨a1, e8⟩ := h8
  obtain ⟨a2, e9⟩ := h9
  refine ⟨a1.trans a2.symm, f, g, Z, ?_⟩
  by_cases q : 0 ≤ fMill (M 1 0) a b c
  · rw [if_pos q] at e8 e9
    have fr : ∀ c, c ∉ ([74, 78, 77, 76, 1, 4, 3, 2] : List Int) → O c = M c := by
      intro c hc
      simp only [List.mem_cons, List.not_mem_nil, or_false, not_or] at hc
      obtain ⟨b0, b1, b2, b3, b4, b5, b6, b7⟩ := hc
      rw [e9, e8]
      simp only [jup_c, b0, b1, b2, b3, b4, b5, b6, b7, ↓reduceIte]
    have o2 : O 2 = up (M 2) (M 1 0) (a) := by rw [e9, e8]; simp only [jup_c, Int.reduceEq, ↓reduceIte]
    have o3 : O 3 = up (M 3) (M 1 0) (b) := by rw [e9, e8]; simp only [jup_c, Int.reduceEq, ↓reduceIte]
    have o4 : O 4 = up (M 4) (M 1 0) (c) := by rw [e9, e8]; simp only [jup_c, Int.reduceEq, ↓reduceIte]
    have o76 : O 76 = up (M 76) (M 1 0) (a) := by rw [e9, e8]; simp only [jup_c, Int.reduceEq, ↓reduceIte]
    have o77 : O 77 = up (M 77) (M 1 0) (b) := by rw [e9, e8]; simp only [jup_c, Int.reduceEq, ↓reduceIte]
    have o78 : O 78 = up (M 78) (M 1 0) (c) := by rw [e9, e8]; simp only [jup_c, Int.reduceEq, ↓reduceIte]
    have o1_0 : O 1 0 = M 1 0 + 1 := by rw [e9, e8]; simp only [jup_c, Int.reduceEq, ↓reduceIte, up]
    have o74_3 : O 74 3 = M 1 0 + 1 := by rw [e9, e8]; simp only [jup_c, Int.reduceEq, ↓reduceIte, up]
    have qq := fMill_ok q
    have q6 := af_cmills I
    exact ⟨(by unfold gM; rw [o1_0, o74_3, o2, o3, o4, fr 5 (by decide), fr 6 (by decide), fr 7 (by decide), fr 8 (by decide), o76, o77, o78, fr 79 (by decide), fr 94 (by decide), fr 95 (by decide), fr 96 (by decide)]; exact ⟨⟨(by omega), (up_in (af_ctrade I) (by omega)), (up_in (af_cowner I) (by omega)), (up_in (af_ctown I) (by omega)), (af_cdoubt I), (af_cchecks I), (af_ccmin I), (af_ccerr I)⟩, rfl, (by rw [I.1.2.2.1]), (by rw [I.1.2.2.2.1]), (by rw [I.1.2.2.2.2.1]), I.1.2.2.2.2.2.1, I.1.2.2.2.2.2.2.1, I.1.2.2.2.2.2.2.2.1, I.1.2.2.2.2.2.2.2.2⟩),
      gH_f (fun c q => fr c (nin_of q (by decide))) (by rw [fr 9 (by decide)]) (by rw [e9, e8]; simp only [jup_c, Int.reduceEq, ↓reduceIte, up]) I.2.1,
      gL_f1 (fun c q => fr c (nin_of q (by decide))) (by rw [fr 16 (by decide)]) (by rw [e9, e8]; simp only [jup_c, Int.reduceEq, ↓reduceIte, up]) (by omega) I.2.2.1,
      gT_f (fun c q => fr c (nin_of q (by decide))) I.2.2.2.1,
      gC_f (fun c q => fr c (nin_of q (by decide))) (by rw [fr 36 (by decide)]) (by rw [fr 36 (by decide)]) (by rw [e9, e8]; simp only [jup_c, Int.reduceEq, ↓reduceIte, up]) (by rw [e9, e8]; simp only [jup_c, Int.reduceEq, ↓reduceIte, up]) I.2.2.2.2.1,
      gR_f (fun c q => fr c (nin_of q (by decide))) I.2.2.2.2.2.1,
      gX_f (fr 72 (by decide)) (fr 84 (by decide)) (by rw [fr 71 (by decide)]) (by rw [e9, e8]; simp only [jup_c, Int.reduceEq, ↓reduceIte, up]) I.2.2.2.2.2.2.1,
      gW_f (fr 75 (by decide)) I.2.2.2.2.2.2.2.1,
      gA_f (fun c a b => fr c (by simp only [List.mem_cons, List.not_mem_nil, or_false, not_or]; omega)) (by rw [fr f (by simp only [List.mem_cons, List.not_mem_nil, or_false, not_or]; omega)]) (by rw [fr f (by simp only [List.mem_cons, List.not_mem_nil, or_false, not_or]; omega)]) (by rw [fr 0 (by decide)]) (by rw [fr 0 (by decide)]) (fun i _ => by rw [fr 85 (by decide)]) (fun i _ => by rw [fr 86 (by decide)]) (by rw [e9, e8]; simp only [jup_c, Int.reduceEq, ↓reduceIte, up]) I.2.2.2.2.2.2.2.2.1,
      (by unfold gZ; rw [show O 0 9 = M 0 9 from (by rw [fr 0 (by decide)]), show O 74 1 = M 74 1 from (by rw [e9, e8]; simp only [jup_c, Int.reduceEq, ↓reduceIte, up])]; exact I.2.2.2.2.2.2.2.2.2)⟩
  · rw [if_neg q] at e8 e9
    exact jIn_q (N := N) (by rw [e8]; exact sC_rf f M) (by rw [e9]; exact sR_j N) I
theorem kc_custom {M N : jM} {k0 h : Int} {r : Int} (h8 : q_X8_custom M k0 h r N) : rSm M N := by
  intro c hc
  obtain ⟨_, e⟩ := h8
  rw [e]
  split
  · simp only [jup_hi hc, Int.reduceLT]
  · rfl
set_option maxHeartbeats 4000000 in
theorem T_custom {f g : Int} {Z : pSt} {M N O : jM} {k0 h : Int} {r r' : Int} (I : jIn f g Z M) (h8 : q_X8_custom M k0 h r N) (h9 : q_X9_custom N k0 h r' O) : r = r' ∧ ∃ f g Z, jIn f g Z O := by
  have k : rSm M N := kc_custom h8
  have hA := jA_or (af_f I).1
  simp only [q_X9_custom, tn_74_3 k I, tn_76 k I, tn_77 k I, tn_78 k I, tn_79 k I, tn_94 k I, tn_95 k I, tn_96 k I, tn_74_8 k I, tn_80 k I, tn_81 k I, tn_82 k I, tn_74_27 k I, tn_89 k I, tn_90 k I, tn_91 k I, tn_92 k I, tn_93 k I, tn_97 k I, tn_98 k I, tn_74_38 k I, tn_74_41 k I, tn_99 k I, tn_100 k I, tn_104 k I, tn_101 k I, tn_103 k I, tn_105 k I, tn_102 k I, tn_106 k I, tn_74_14 k I, tn_74_1 k I] at h9
  obtain ⟨a1, e8⟩ := h8
  obtain ⟨a2, e9⟩ := h9
  refine ⟨a1.trans a2.symm, f, g, Z, ?_⟩
  by_cases q : 0 ≤ k0 ∧ k0 ≤ 5 ∧ 0 ≤ h ∧ h < M 9 0
  · rw [if_pos q] at e8 e9
    have fr : ∀ c, c ∉ ([74, 0] : List Int) → O c = M c := by
      intro c hc
      simp only [List.mem_cons, List.not_mem_nil, or_false, not_or] at hc
      obtain ⟨b0, b1⟩ := hc
      rw [e9, e8]
      simp only [jup_c, b0, b1, ↓reduceIte]
    have o0_9 : O 0 9 = M 0 9 + fTrace k0 := by rw [e9, e8]; simp only [jup_c, Int.reduceEq, ↓reduceIte, up]
    have o74_1 : O 74 1 = M 0 9 + fTrace k0 := by rw [e9, e8]; simp only [jup_c, Int.reduceEq, ↓reduceIte, up]
    exact ⟨gM_f (fun c q => fr c (nin_of q (by decide))) (by rw [fr 1 (by decide)]) (by rw [e9, e8]; simp only [jup_c, Int.reduceEq, ↓reduceIte, up]) I.1,
      gH_f (fun c q => fr c (nin_of q (by decide))) (by rw [fr 9 (by decide)]) (by rw [e9, e8]; simp only [jup_c, Int.reduceEq, ↓reduceIte, up]) I.2.1,
      gL_f (fun c q => fr c (nin_of q (by decide))) (by rw [fr 16 (by decide)]) (by rw [e9, e8]; simp only [jup_c, Int.reduceEq, ↓reduceIte, up]) (by rw [fr 1 (by decide)]) I.2.2.1,
      gT_f (fun c q => fr c (nin_of q (by decide))) I.2.2.2.1,
      gC_f (fun c q => fr c (nin_of q (by decide))) (by rw [fr 36 (by decide)]) (by rw [fr 36 (by decide)]) (by rw [e9, e8]; simp only [jup_c, Int.reduceEq, ↓reduceIte, up]) (by rw [e9, e8]; simp only [jup_c, Int.reduceEq, ↓reduceIte, up]) I.2.2.2.2.1,
      gR_f (fun c q => fr c (nin_of q (by decide))) I.2.2.2.2.2.1,
      gX_f (fr 72 (by decide)) (fr 84 (by decide)) (by rw [fr 71 (by decide)]) (by rw [e9, e8]; simp only [jup_c, Int.reduceEq, ↓reduceIte, up]) I.2.2.2.2.2.2.1,
      gW_f (fr 75 (by decide)) I.2.2.2.2.2.2.2.1,
      gA_f (fun c a b => fr c (by simp only [List.mem_cons, List.not_mem_nil, or_false, not_or]; omega)) (by rw [fr f (by simp only [List.mem_cons, List.not_mem_nil, or_false, not_or]; omega)]) (by rw [fr f (by simp only [List.mem_cons, List.not_mem_nil, or_false, not_or]; omega)]) (by rw [e9, e8]; simp only [jup_c, Int.reduceEq, ↓reduceIte, up]) (by rw [e9, e8]; simp only [jup_c, Int.reduceEq, ↓reduceIte, up]) (fun i _ => by rw [fr 85 (by decide)]) (fun i _ => by rw [fr 86 (by decide)]) (by rw [e9, e8]; simp only [jup_c, Int.reduceEq, ↓reduceIte, up]) I.2.2.2.2.2.2.2.2.1,
      (by unfold gZ; rw [o0_9, o74_1])⟩
  · rw [if_neg q] at e8 e9
    exact jIn_q (N := N) (by rw [e8]; exact sC_rf f M) (by rw [e9]; exact sR_j N) I
theorem kc_clear {M N : jM} {r : Int} (h8 : q_X8_clear M  r N) : rSm M N := by
  intro c hc
  obtain ⟨_, e⟩ := h8
  rw [e]
  simp only [jup_hi hc, Int.reduceLT]
set_option maxHeartbeats 4000000 in
theorem T_clear {f g : Int} {Z : pSt} {M N O : jM} {r r' : Int} (I : jIn f g Z M) (h8 : q_X8_clear M  r N) (h9 : q_X9_clear N  r' O) : r = r' ∧ ∃ f g Z, jIn f g Z O := by
  have k : rSm M N := kc_clear h8
  have hA := jA_or (af_f I).1
  simp only [q_X9_clear, tn_74_3 k I, tn_76 k I, tn_77 k I, tn_78 k I, tn_79 k I, tn_94 k I, tn_95 k I, tn_96 k I, tn_74_8 k I, tn_80 k I, tn_81 k I, tn_82 k I, tn_74_27 k I, tn_89 k I, tn_90 k I, tn_91 k I, tn_92 k I, tn_93 k I, tn_97 k I, tn_98 k I, tn_74_38 k I, tn_74_41 k I, tn_99 k I, tn_100 k I, tn_104 k I, tn_101 k I, tn_103 k I, tn_105 k I, tn_102 k I, tn_106 k I, tn_74_14 k I, tn_74_1 k I] at h9
  obtain ⟨a1, e8⟩ := h8
  obtain ⟨a2, e9⟩ := h9
  refine ⟨a1.trans a2.symm, f, g, Z, ?_⟩
  have fr : ∀ c, c ∉ ([74, 71] : List Int) → O c = M c := by
    intro c hc
    simp only [List.mem_cons, List.not_mem_nil, or_false, not_or] at hc
    obtain ⟨b0, b1⟩ := hc
    rw [e9, e8]
    simp only [jup_c, b0, b1, ↓reduceIte]
  have o71_0 : O 71 0 = 0 := by rw [e9, e8]; simp only [jup_c, Int.reduceEq, ↓reduceIte, up]
  have o74_14 : O 74 14 = 0 := by rw [e9, e8]; simp only [jup_c, Int.reduceEq, ↓reduceIte, up]
  exact ⟨gM_f (fun c q => fr c (nin_of q (by decide))) (by rw [fr 1 (by decide)]) (by rw [e9, e8]; simp only [jup_c, Int.reduceEq, ↓reduceIte, up]) I.1,
    gH_f (fun c q => fr c (nin_of q (by decide))) (by rw [fr 9 (by decide)]) (by rw [e9, e8]; simp only [jup_c, Int.reduceEq, ↓reduceIte, up]) I.2.1,
    gL_f (fun c q => fr c (nin_of q (by decide))) (by rw [fr 16 (by decide)]) (by rw [e9, e8]; simp only [jup_c, Int.reduceEq, ↓reduceIte, up]) (by rw [fr 1 (by decide)]) I.2.2.1,
    gT_f (fun c q => fr c (nin_of q (by decide))) I.2.2.2.1,
    gC_f (fun c q => fr c (nin_of q (by decide))) (by rw [fr 36 (by decide)]) (by rw [fr 36 (by decide)]) (by rw [e9, e8]; simp only [jup_c, Int.reduceEq, ↓reduceIte, up]) (by rw [e9, e8]; simp only [jup_c, Int.reduceEq, ↓reduceIte, up]) I.2.2.2.2.1,
    gR_f (fun c q => fr c (nin_of q (by decide))) I.2.2.2.2.2.1,
    ⟨by omega, by rw [fr 72 (by decide)]; exact af_ctext I, by rw [fr 84 (by decide)]; exact I.2.2.2.2.2.2.1.2.2.1, by rw [o71_0, o74_14], by rw [fr 72 (by decide), fr 84 (by decide)]; exact I.2.2.2.2.2.2.1.2.2.2.2⟩,
    gW_f (fr 75 (by decide)) I.2.2.2.2.2.2.2.1,
    gA_f (fun c a b => fr c (by simp only [List.mem_cons, List.not_mem_nil, or_false, not_or]; omega)) (by rw [fr f (by simp only [List.mem_cons, List.not_mem_nil, or_false, not_or]; omega)]) (by rw [fr f (by simp only [List.mem_cons, List.not_mem_nil, or_false, not_or]; omega)]) (by rw [fr 0 (by decide)]) (by rw [fr 0 (by decide)]) (fun i _ => by rw [fr 85 (by decide)]) (fun i _ => by rw [fr 86 (by decide)]) (by rw [e9, e8]; simp only [jup_c, Int.reduceEq, ↓reduceIte, up]) I.2.2.2.2.2.2.2.2.1,
    (by unfold gZ; rw [show O 0 9 = M 0 9 from (by rw [fr 0 (by decide)]), show O 74 1 = M 74 1 from (by rw [e9, e8]; simp only [jup_c, Int.reduceEq, ↓reduceIte, up])]; exact I.2.2.2.2.2.2.2.2.2)⟩
theorem kc_line {M N : jM} {h d w i o : Int} {r : Int} (h8 : q_X8_line M h d w i o r N) : rSm M N := by
  intro c hc
  obtain ⟨_, e⟩ := h8
  rw [e]
  split
  · simp only [jup_hi hc, Int.reduceLT]
  · rfl
set_option maxHeartbeats 4000000 in
theorem T_line {f g : Int} {Z : pSt} {M N O : jM} {h d w i o : Int} {r r' : Int} (I : jIn f g Z M) (h8 : q_X8_line M h d w i o r N) (h9 : q_X9_line N h d w i o r' O) : r = r' ∧ ∃ f g Z, jIn f g Z O := by
  have k : rSm M N := kc_line h8
  have hA := jA_or (af_f I).1
  simp only [q_X9_line, tn_74_3 k I, tn_76 k I, tn_77 k I, tn_78 k I, tn_79 k I, tn_94 k I, tn_95 k I, tn_96 k I, tn_74_8 k I, tn_80 k I, tn_81 k I, tn_82 k I, tn_74_27 k I, tn_89 k I, tn_90 k I, tn_91 k I, tn_92 k I, tn_93 k I, tn_97 k I, tn_98 k I, tn_74_38 k I, tn_74_41 k I, tn_99 k I, tn_100 k I, tn_104 k I, tn_101 k I, tn_103 k I, tn_105 k I, tn_102 k I, tn_106 k I, tn_74_14 k I, tn_74_1 k I] at h9
  obtain ⟨a1, e8⟩ := h8
  obtain ⟨a2, e9⟩ := h9
  refine ⟨a1.trans a2.symm, f, g, Z, ?_⟩
  by_cases q : 0 ≤ fLine (M 9 0) (M 1 0) (M 16 0) h d w i o
  · rw [if_pos q] at e8 e9
    have fr : ∀ c, c ∉ ([74, 93, 92, 91, 90, 89, 16, 21, 20, 19, 18, 17] : List Int) → O c = M c := by
      intro c hc
      simp only [List.mem_cons, List.not_mem_nil, or_false, not_or] at hc
      obtain ⟨b0, b1, b2, b3, b4, b5, b6, b7, b8, b9, b10, b11⟩ := hc
      rw [e9, e8]
      simp only [jup_c, b0, b1, b2, b3, b4, b5, b6, b7, b8, b9, b10, b11, ↓reduceIte]
    have o17 : O 17 = up (M 17) (M 16 0) (h) := by rw [e9, e8]; simp only [jup_c, Int.reduceEq, ↓reduceIte]
    have o18 : O 18 = up (M 18) (M 16 0) (d) := by rw [e9, e8]; simp only [jup_c, Int.reduceEq, ↓reduceIte]
    have o19 : O 19 = up (M 19) (M 16 0) (w) := by rw [e9, e8]; simp only [jup_c, Int.reduceEq, ↓reduceIte]
    have o20 : O 20 = up (M 20) (M 16 0) (i) := by rw [e9, e8]; simp only [jup_c, Int.reduceEq, ↓reduceIte]
    have o21 : O 21 = up (M 21) (M 16 0) (o) := by rw [e9, e8]; simp only [jup_c, Int.reduceEq, ↓reduceIte]
    have o89 : O 89 = up (M 89) (M 16 0) (h) := by rw [e9, e8]; simp only [jup_c, Int.reduceEq, ↓reduceIte]
    have o90 : O 90 = up (M 90) (M 16 0) (d) := by rw [e9, e8]; simp only [jup_c, Int.reduceEq, ↓reduceIte]
    have o91 : O 91 = up (M 91) (M 16 0) (w) := by rw [e9, e8]; simp only [jup_c, Int.reduceEq, ↓reduceIte]
    have o92 : O 92 = up (M 92) (M 16 0) (i) := by rw [e9, e8]; simp only [jup_c, Int.reduceEq, ↓reduceIte]
    have o93 : O 93 = up (M 93) (M 16 0) (o) := by rw [e9, e8]; simp only [jup_c, Int.reduceEq, ↓reduceIte]
    have o16_0 : O 16 0 = M 16 0 + 1 := by rw [e9, e8]; simp only [jup_c, Int.reduceEq, ↓reduceIte, up]
    have o74_27 : O 74 27 = M 16 0 + 1 := by rw [e9, e8]; simp only [jup_c, Int.reduceEq, ↓reduceIte, up]
    have qq := fLine_ok q
    have q6 := af_clines I
    have q7 := af_chands I
    have q8 := af_cmills I
    exact ⟨gM_f (fun c q => fr c (nin_of q (by decide))) (by rw [fr 1 (by decide)]) (by rw [e9, e8]; simp only [jup_c, Int.reduceEq, ↓reduceIte, up]) I.1,
      gH_f (fun c q => fr c (nin_of q (by decide))) (by rw [fr 9 (by decide)]) (by rw [e9, e8]; simp only [jup_c, Int.reduceEq, ↓reduceIte, up]) I.2.1,
      (by unfold gL; rw [o16_0, o74_27, show O 1 0 = M 1 0 from (by rw [fr 1 (by decide)]), o17, o18, o19, o20, o21, o89, o90, o91, o92, o93]; exact ⟨⟨by omega, up_in (af_clhand I) (by omega), up_in (af_clday I) (by omega), fun j => up_w (af_clwhere I) (by omega) j, up_in (af_clin I) (by omega), up_in (af_clout I) (by omega), fun j => up_2 (af_cio I) (by omega) j, fun j j0 j1 => up_3 (af_clw I) (by omega) j0 j1⟩, rfl, by rw [I.2.2.1.2.2.1], by rw [I.2.2.1.2.2.2.1], by rw [I.2.2.1.2.2.2.2.1], by rw [I.2.2.1.2.2.2.2.2.1], by rw [I.2.2.1.2.2.2.2.2.2]⟩),
      gT_f (fun c q => fr c (nin_of q (by decide))) I.2.2.2.1,
      gC_f (fun c q => fr c (nin_of q (by decide))) (by rw [fr 36 (by decide)]) (by rw [fr 36 (by decide)]) (by rw [e9, e8]; simp only [jup_c, Int.reduceEq, ↓reduceIte, up]) (by rw [e9, e8]; simp only [jup_c, Int.reduceEq, ↓reduceIte, up]) I.2.2.2.2.1,
      gR_f (fun c q => fr c (nin_of q (by decide))) I.2.2.2.2.2.1,
      gX_f (fr 72 (by decide)) (fr 84 (by decide)) (by rw [fr 71 (by decide)]) (by rw [e9, e8]; simp only [jup_c, Int.reduceEq, ↓reduceIte, up]) I.2.2.2.2.2.2.1,
      gW_f (fr 75 (by decide)) I.2.2.2.2.2.2.2.1,
      gA_f (fun c a b => fr c (by simp only [List.mem_cons, List.not_mem_nil, or_false, not_or]; omega)) (by rw [fr f (by simp only [List.mem_cons, List.not_mem_nil, or_false, not_or]; omega)]) (by rw [fr f (by simp only [List.mem_cons, List.not_mem_nil, or_false, not_or]; omega)]) (by rw [fr 0 (by decide)]) (by rw [fr 0 (by decide)]) (fun i _ => by rw [fr 85 (by decide)]) (fun i _ => by rw [fr 86 (by decide)]) (by rw [e9, e8]; simp only [jup_c, Int.reduceEq, ↓reduceIte, up]) I.2.2.2.2.2.2.2.2.1,
      (by unfold gZ; rw [show O 0 9 = M 0 9 from (by rw [fr 0 (by decide)]), show O 74 1 = M 74 1 from (by rw [e9, e8]; simp only [jup_c, Int.reduceEq, ↓reduceIte, up])]; exact I.2.2.2.2.2.2.2.2.2)⟩
  · rw [if_neg q] at e8 e9
    exact jIn_q (N := N) (by rw [e8]; exact sC_rf f M) (by rw [e9]; exact sR_j N) I
theorem kc_check {M N : jM} {m t x : Int} {r : Int} (h8 : q_X8_check M m t x r N) : rSm M N := by
  intro c hc
  obtain ⟨_, e⟩ := h8
  rw [e]
  split
  · simp only [jup_hi hc, Int.reduceLT]
  · rfl
set_option maxHeartbeats 4000000 in
theorem T_check {f g : Int} {Z : pSt} {M N O : jM} {m t x : Int} {r r' : Int} (I : jIn f g Z M) (h8 : q_X8_check M m t x r N) (h9 : q_X9_check N m t x r' O) : r = r' ∧ ∃ f g Z, jIn f g Z O := by
  have k : rSm M N := kc_check h8
  have hA := jA_or (af_f I).1
  simp only [q_X9_check, tn_74_3 k I, tn_76 k I, tn_77 k I, tn_78 k I, tn_79 k I, tn_94 k I, tn_95 k I, tn_96 k I, tn_74_8 k I, tn_80 k I, tn_81 k I, tn_82 k I, tn_74_27 k I, tn_89 k I, tn_90 k I, tn_91 k I, tn_92 k I, tn_93 k I, tn_97 k I, tn_98 k I, tn_74_38 k I, tn_74_41 k I, tn_99 k I, tn_100 k I, tn_104 k I, tn_101 k I, tn_103 k I, tn_105 k I, tn_102 k I, tn_106 k I, tn_74_14 k I, tn_74_1 k I] at h9
  obtain ⟨a1, e8⟩ := h8
  obtain ⟨a2, e9⟩ := h9
  refine ⟨a1.trans a2.symm, f, g, Z, ?_⟩
  by_cases q : 0 ≤ fCheck (M 1 0) (M 6) m t x
  · rw [if_pos q] at e8 e9
    rw [show 4 * m + M 6 m = m * 4 + M 6 m by omega] at e9
    have fr : ∀ c, c ∉ ([94, 96, 95, 74, 6, 8, 7] : List Int) → O c = M c := by
      intro c hc
      simp only [List.mem_cons, List.not_mem_nil, or_false, not_or] at hc
      obtain ⟨b0, b1, b2, b3, b4, b5, b6⟩ := hc
      rw [e9, e8]
      simp only [jup_c, b0, b1, b2, b3, b4, b5, b6, ↓reduceIte]
    have o7 : O 7 = up (M 7) (m * 4 + M 6 m) (t) := by rw [e9, e8]; simp only [jup_c, Int.reduceEq, ↓reduceIte]
    have o8 : O 8 = up (M 8) (m * 4 + M 6 m) (x) := by rw [e9, e8]; simp only [jup_c, Int.reduceEq, ↓reduceIte]
    have o6 : O 6 = up (M 6) (m) (M 6 m + 1) := by rw [e9, e8]; simp only [jup_c, Int.reduceEq, ↓reduceIte]
    have o95 : O 95 = up (M 95) (m * 4 + M 6 m) (t) := by rw [e9, e8]; simp only [jup_c, Int.reduceEq, ↓reduceIte]
    have o96 : O 96 = up (M 96) (m * 4 + M 6 m) (x) := by rw [e9, e8]; simp only [jup_c, Int.reduceEq, ↓reduceIte]
    have o94 : O 94 = up (M 94) (m) (M 6 m + 1) := by rw [e9, e8]; simp only [jup_c, Int.reduceEq, ↓reduceIte]
    have qq := fCheck_ok q
    have q6 := af_cchecks I m
    exact ⟨(by unfold gM; rw [show O 1 0 = M 1 0 from (by rw [fr 1 (by decide)]), show O 74 3 = M 74 3 from (by rw [e9, e8]; simp only [jup_c, Int.reduceEq, ↓reduceIte, up]), fr 2 (by decide), fr 3 (by decide), fr 4 (by decide), fr 5 (by decide), o6, o7, o8, fr 76 (by decide), fr 77 (by decide), fr 78 (by decide), fr 79 (by decide), o94, o95, o96]; exact ⟨⟨af_cmills I, (af_ctrade I), (af_cowner I), (af_ctown I), (af_cdoubt I), (up_in (af_cchecks I) (by omega)), (up_in (af_ccmin I) (by omega)), (up_in (af_ccerr I) (by omega))⟩, I.1.2.1, I.1.2.2.1, I.1.2.2.2.1, I.1.2.2.2.2.1, I.1.2.2.2.2.2.1, (by rw [I.1.2.2.2.2.2.2.1]), (by rw [I.1.2.2.2.2.2.2.2.1]), (by rw [I.1.2.2.2.2.2.2.2.2])⟩),
      gH_f (fun c q => fr c (nin_of q (by decide))) (by rw [fr 9 (by decide)]) (by rw [e9, e8]; simp only [jup_c, Int.reduceEq, ↓reduceIte, up]) I.2.1,
      gL_f (fun c q => fr c (nin_of q (by decide))) (by rw [fr 16 (by decide)]) (by rw [e9, e8]; simp only [jup_c, Int.reduceEq, ↓reduceIte, up]) (by rw [fr 1 (by decide)]) I.2.2.1,
      gT_f (fun c q => fr c (nin_of q (by decide))) I.2.2.2.1,
      gC_f (fun c q => fr c (nin_of q (by decide))) (by rw [fr 36 (by decide)]) (by rw [fr 36 (by decide)]) (by rw [e9, e8]; simp only [jup_c, Int.reduceEq, ↓reduceIte, up]) (by rw [e9, e8]; simp only [jup_c, Int.reduceEq, ↓reduceIte, up]) I.2.2.2.2.1,
      gR_f (fun c q => fr c (nin_of q (by decide))) I.2.2.2.2.2.1,
      gX_f (fr 72 (by decide)) (fr 84 (by decide)) (by rw [fr 71 (by decide)]) (by rw [e9, e8]; simp only [jup_c, Int.reduceEq, ↓reduceIte, up]) I.2.2.2.2.2.2.1,
      gW_f (fr 75 (by decide)) I.2.2.2.2.2.2.2.1,
      gA_f (fun c a b => fr c (by simp only [List.mem_cons, List.not_mem_nil, or_false, not_or]; omega)) (by rw [fr f (by simp only [List.mem_cons, List.not_mem_nil, or_false, not_or]; omega)]) (by rw [fr f (by simp only [List.mem_cons, List.not_mem_nil, or_false, not_or]; omega)]) (by rw [fr 0 (by decide)]) (by rw [fr 0 (by decide)]) (fun i _ => by rw [fr 85 (by decide)]) (fun i _ => by rw [fr 86 (by decide)]) (by rw [e9, e8]; simp only [jup_c, Int.reduceEq, ↓reduceIte, up]) I.2.2.2.2.2.2.2.2.1,
      (by unfold gZ; rw [show O 0 9 = M 0 9 from (by rw [fr 0 (by decide)]), show O 74 1 = M 74 1 from (by rw [e9, e8]; simp only [jup_c, Int.reduceEq, ↓reduceIte, up])]; exact I.2.2.2.2.2.2.2.2.2)⟩
  · rw [if_neg q] at e8 e9
    exact jIn_q (N := N) (by rw [e8]; exact sC_rf f M) (by rw [e9]; exact sR_j N) I
theorem kc_period {M N : jM} {i m n : Int} {r : Int} (h8 : q_X8_period M i m n r N) : rSm M N := by
  intro c hc
  obtain ⟨_, e⟩ := h8
  rw [e]
  split
  · simp only [jup_hi hc, Int.reduceLT]
  · rfl
set_option maxHeartbeats 4000000 in
theorem T_period {f g : Int} {Z : pSt} {M N O : jM} {i m n : Int} {r r' : Int} (I : jIn f g Z M) (h8 : q_X8_period M i m n r N) (h9 : q_X9_period N i m n r' O) : r = r' ∧ ∃ f g Z, jIn f g Z O := by
  have k : rSm M N := kc_period h8
  have hA := jA_or (af_f I).1
  simp only [q_X9_period, tn_74_3 k I, tn_76 k I, tn_77 k I, tn_78 k I, tn_79 k I, tn_94 k I, tn_95 k I, tn_96 k I, tn_74_8 k I, tn_80 k I, tn_81 k I, tn_82 k I, tn_74_27 k I, tn_89 k I, tn_90 k I, tn_91 k I, tn_92 k I, tn_93 k I, tn_97 k I, tn_98 k I, tn_74_38 k I, tn_74_41 k I, tn_99 k I, tn_100 k I, tn_104 k I, tn_101 k I, tn_103 k I, tn_105 k I, tn_102 k I, tn_106 k I, tn_74_14 k I, tn_74_1 k I] at h9
  obtain ⟨a1, e8⟩ := h8
  obtain ⟨a2, e9⟩ := h9
  refine ⟨a1.trans a2.symm, f, g, Z, ?_⟩
  by_cases q : 0 ≤ i ∧ i ≤ 5 ∧ 15 ≤ m ∧ m ≤ 300 ∧ 0 ≤ n ∧ n ≤ 3
  · rw [if_pos q] at e8 e9
    have fr : ∀ c, c ∉ ([98, 97, 74, 30, 29] : List Int) → O c = M c := by
      intro c hc
      simp only [List.mem_cons, List.not_mem_nil, or_false, not_or] at hc
      obtain ⟨b0, b1, b2, b3, b4⟩ := hc
      rw [e9, e8]
      simp only [jup_c, b0, b1, b2, b3, b4, ↓reduceIte]
    have o29 : O 29 = up (M 29) (i) (m) := by rw [e9, e8]; simp only [jup_c, Int.reduceEq, ↓reduceIte]
    have o30 : O 30 = up (M 30) (i) (n) := by rw [e9, e8]; simp only [jup_c, Int.reduceEq, ↓reduceIte]
    have o97 : O 97 = up (M 97) (i) (m) := by rw [e9, e8]; simp only [jup_c, Int.reduceEq, ↓reduceIte]
    have o98 : O 98 = up (M 98) (i) (n) := by rw [e9, e8]; simp only [jup_c, Int.reduceEq, ↓reduceIte]
    exact ⟨gM_f (fun c q => fr c (nin_of q (by decide))) (by rw [fr 1 (by decide)]) (by rw [e9, e8]; simp only [jup_c, Int.reduceEq, ↓reduceIte, up]) I.1,
      gH_f (fun c q => fr c (nin_of q (by decide))) (by rw [fr 9 (by decide)]) (by rw [e9, e8]; simp only [jup_c, Int.reduceEq, ↓reduceIte, up]) I.2.1,
      gL_f (fun c q => fr c (nin_of q (by decide))) (by rw [fr 16 (by decide)]) (by rw [e9, e8]; simp only [jup_c, Int.reduceEq, ↓reduceIte, up]) (by rw [fr 1 (by decide)]) I.2.2.1,
      (by unfold gT; rw [o29, o30, o97, o98]; exact ⟨⟨(up_in (af_cminutes I) (by omega)), (up_in (af_cneeds I) (by omega))⟩, (by rw [I.2.2.2.1.2.1]), (by rw [I.2.2.2.1.2.2])⟩),
      gC_f (fun c q => fr c (nin_of q (by decide))) (by rw [fr 36 (by decide)]) (by rw [fr 36 (by decide)]) (by rw [e9, e8]; simp only [jup_c, Int.reduceEq, ↓reduceIte, up]) (by rw [e9, e8]; simp only [jup_c, Int.reduceEq, ↓reduceIte, up]) I.2.2.2.2.1,
      gR_f (fun c q => fr c (nin_of q (by decide))) I.2.2.2.2.2.1,
      gX_f (fr 72 (by decide)) (fr 84 (by decide)) (by rw [fr 71 (by decide)]) (by rw [e9, e8]; simp only [jup_c, Int.reduceEq, ↓reduceIte, up]) I.2.2.2.2.2.2.1,
      gW_f (fr 75 (by decide)) I.2.2.2.2.2.2.2.1,
      gA_f (fun c a b => fr c (by simp only [List.mem_cons, List.not_mem_nil, or_false, not_or]; omega)) (by rw [fr f (by simp only [List.mem_cons, List.not_mem_nil, or_false, not_or]; omega)]) (by rw [fr f (by simp only [List.mem_cons, List.not_mem_nil, or_false, not_or]; omega)]) (by rw [fr 0 (by decide)]) (by rw [fr 0 (by decide)]) (fun i _ => by rw [fr 85 (by decide)]) (fun i _ => by rw [fr 86 (by decide)]) (by rw [e9, e8]; simp only [jup_c, Int.reduceEq, ↓reduceIte, up]) I.2.2.2.2.2.2.2.2.1,
      (by unfold gZ; rw [show O 0 9 = M 0 9 from (by rw [fr 0 (by decide)]), show O 74 1 = M 74 1 from (by rw [e9, e8]; simp only [jup_c, Int.reduceEq, ↓reduceIte, up])]; exact I.2.2.2.2.2.2.2.2.2)⟩
  · rw [if_neg q] at e8 e9
    exact jIn_q (N := N) (by rw [e8]; exact sC_rf f M) (by rw [e9]; exact sR_j N) I
theorem kc_bench {M N : jM} {k0 : Int} {r : Int} (h8 : q_X8_bench M k0 r N) : rSm M N := by
  intro c hc
  obtain ⟨_, e⟩ := h8
  rw [e]
  split
  · simp only [jup_hi hc, Int.reduceLT]
  · rfl
set_option maxHeartbeats 4000000 in
theorem T_bench {f g : Int} {Z : pSt} {M N O : jM} {k0 : Int} {r r' : Int} (I : jIn f g Z M) (h8 : q_X8_bench M k0 r N) (h9 : q_X9_bench N k0 r' O) : r = r' ∧ ∃ f g Z, jIn f g Z O := by
  have k : rSm M N := kc_bench h8
  have hA := jA_or (af_f I).1
  simp only [q_X9_bench, tn_74_3 k I, tn_76 k I, tn_77 k I, tn_78 k I, tn_79 k I, tn_94 k I, tn_95 k I, tn_96 k I, tn_74_8 k I, tn_80 k I, tn_81 k I, tn_82 k I, tn_74_27 k I, tn_89 k I, tn_90 k I, tn_91 k I, tn_92 k I, tn_93 k I, tn_97 k I, tn_98 k I, tn_74_38 k I, tn_74_41 k I, tn_99 k I, tn_100 k I, tn_104 k I, tn_101 k I, tn_103 k I, tn_105 k I, tn_102 k I, tn_106 k I, tn_74_14 k I, tn_74_1 k I] at h9
  obtain ⟨a1, e8⟩ := h8
  obtain ⟨a2, e9⟩ := h9
  refine ⟨a1.trans a2.symm, f, g, Z, ?_⟩
  by_cases q : 0 ≤ fBench (M 36 0) k0
  · rw [if_pos q] at e8 e9
    have fr : ∀ c, c ∉ ([74, 99, 36, 37] : List Int) → O c = M c := by
      intro c hc
      simp only [List.mem_cons, List.not_mem_nil, or_false, not_or] at hc
      obtain ⟨b0, b1, b2, b3⟩ := hc
      rw [e9, e8]
      simp only [jup_c, b0, b1, b2, b3, ↓reduceIte]
    have o37 : O 37 = up (M 37) (M 36 0) (k0) := by rw [e9, e8]; simp only [jup_c, Int.reduceEq, ↓reduceIte]
    have o99 : O 99 = up (M 99) (M 36 0) (k0) := by rw [e9, e8]; simp only [jup_c, Int.reduceEq, ↓reduceIte]
    have o36_0 : O 36 0 = M 36 0 + 1 := by rw [e9, e8]; simp only [jup_c, Int.reduceEq, ↓reduceIte, up]
    have o74_38 : O 74 38 = M 36 0 + 1 := by rw [e9, e8]; simp only [jup_c, Int.reduceEq, ↓reduceIte, up]
    have qq := fBench_ok q
    have q6 := af_cbenches I
    exact ⟨gM_f (fun c q => fr c (nin_of q (by decide))) (by rw [fr 1 (by decide)]) (by rw [e9, e8]; simp only [jup_c, Int.reduceEq, ↓reduceIte, up]) I.1,
      gH_f (fun c q => fr c (nin_of q (by decide))) (by rw [fr 9 (by decide)]) (by rw [e9, e8]; simp only [jup_c, Int.reduceEq, ↓reduceIte, up]) I.2.1,
      gL_f (fun c q => fr c (nin_of q (by decide))) (by rw [fr 16 (by decide)]) (by rw [e9, e8]; simp only [jup_c, Int.reduceEq, ↓reduceIte, up]) (by rw [fr 1 (by decide)]) I.2.2.1,
      gT_f (fun c q => fr c (nin_of q (by decide))) I.2.2.2.1,
      (by unfold gC; rw [o36_0, show O 36 3 = M 36 3 from (by rw [e9, e8]; simp only [jup_c, Int.reduceEq, ↓reduceIte, up]), o74_38, show O 74 41 = M 74 41 from (by rw [e9, e8]; simp only [jup_c, Int.reduceEq, ↓reduceIte, up]), o37, fr 38 (by decide), fr 39 (by decide), fr 40 (by decide), fr 41 (by decide), fr 42 (by decide), fr 43 (by decide), o99, fr 100 (by decide), fr 101 (by decide), fr 102 (by decide), fr 103 (by decide), fr 104 (by decide), fr 105 (by decide)]; exact ⟨⟨(by omega), af_ccases I, (up_in (af_ckin I) (by omega)), (af_cbase I), (af_ccbench I), (af_ccmill I), (af_ccof I), (af_cstands I), (af_cchand I)⟩, rfl, I.2.2.2.2.1.2.2.1, (by rw [I.2.2.2.2.1.2.2.2.1]), I.2.2.2.2.1.2.2.2.2.1, I.2.2.2.2.1.2.2.2.2.2.1, I.2.2.2.2.1.2.2.2.2.2.2.1, I.2.2.2.2.1.2.2.2.2.2.2.2.1, I.2.2.2.2.1.2.2.2.2.2.2.2.2.1, I.2.2.2.2.1.2.2.2.2.2.2.2.2.2⟩),
      gR_f (fun c q => fr c (nin_of q (by decide))) I.2.2.2.2.2.1,
      gX_f (fr 72 (by decide)) (fr 84 (by decide)) (by rw [fr 71 (by decide)]) (by rw [e9, e8]; simp only [jup_c, Int.reduceEq, ↓reduceIte, up]) I.2.2.2.2.2.2.1,
      gW_f (fr 75 (by decide)) I.2.2.2.2.2.2.2.1,
      gA_f (fun c a b => fr c (by simp only [List.mem_cons, List.not_mem_nil, or_false, not_or]; omega)) (by rw [fr f (by simp only [List.mem_cons, List.not_mem_nil, or_false, not_or]; omega)]) (by rw [fr f (by simp only [List.mem_cons, List.not_mem_nil, or_false, not_or]; omega)]) (by rw [fr 0 (by decide)]) (by rw [fr 0 (by decide)]) (fun i _ => by rw [fr 85 (by decide)]) (fun i _ => by rw [fr 86 (by decide)]) (by rw [e9, e8]; simp only [jup_c, Int.reduceEq, ↓reduceIte, up]) I.2.2.2.2.2.2.2.2.1,
      (by unfold gZ; rw [show O 0 9 = M 0 9 from (by rw [fr 0 (by decide)]), show O 74 1 = M 74 1 from (by rw [e9, e8]; simp only [jup_c, Int.reduceEq, ↓reduceIte, up])]; exact I.2.2.2.2.2.2.2.2.2)⟩
  · rw [if_neg q] at e8 e9
    exact jIn_q (N := N) (by rw [e8]; exact sC_rf f M) (by rw [e9]; exact sR_j N) I
theorem kc_base {M N : jM} {o v : Int} {r : Int} (h8 : q_X8_base M o v r N) : rSm M N := by
  intro c hc
  obtain ⟨_, e⟩ := h8
  rw [e]
  split
  · simp only [jup_hi hc, Int.reduceLT]
  · rfl
set_option maxHeartbeats 4000000 in
theorem T_base {f g : Int} {Z : pSt} {M N O : jM} {o v : Int} {r r' : Int} (I : jIn f g Z M) (h8 : q_X8_base M o v r N) (h9 : q_X9_base N o v r' O) : r = r' ∧ ∃ f g Z, jIn f g Z O := by
  have k : rSm M N := kc_base h8
  have hA := jA_or (af_f I).1
  simp only [q_X9_base, tn_74_3 k I, tn_76 k I, tn_77 k I, tn_78 k I, tn_79 k I, tn_94 k I, tn_95 k I, tn_96 k I, tn_74_8 k I, tn_80 k I, tn_81 k I, tn_82 k I, tn_74_27 k I, tn_89 k I, tn_90 k I, tn_91 k I, tn_92 k I, tn_93 k I, tn_97 k I, tn_98 k I, tn_74_38 k I, tn_74_41 k I, tn_99 k I, tn_100 k I, tn_104 k I, tn_101 k I, tn_103 k I, tn_105 k I, tn_102 k I, tn_106 k I, tn_74_14 k I, tn_74_1 k I] at h9
  obtain ⟨a1, e8⟩ := h8
  obtain ⟨a2, e9⟩ := h9
  refine ⟨a1.trans a2.symm, f, g, Z, ?_⟩
  by_cases q : 0 ≤ o ∧ o ≤ 5 ∧ 0 ≤ v ∧ v ≤ 500
  · rw [if_pos q] at e8 e9
    have fr : ∀ c, c ∉ ([100, 74, 38] : List Int) → O c = M c := by
      intro c hc
      simp only [List.mem_cons, List.not_mem_nil, or_false, not_or] at hc
      obtain ⟨b0, b1, b2⟩ := hc
      rw [e9, e8]
      simp only [jup_c, b0, b1, b2, ↓reduceIte]
    have o38 : O 38 = up (M 38) (o) (v) := by rw [e9, e8]; simp only [jup_c, Int.reduceEq, ↓reduceIte]
    have o100 : O 100 = up (M 100) (o) (v) := by rw [e9, e8]; simp only [jup_c, Int.reduceEq, ↓reduceIte]
    exact ⟨gM_f (fun c q => fr c (nin_of q (by decide))) (by rw [fr 1 (by decide)]) (by rw [e9, e8]; simp only [jup_c, Int.reduceEq, ↓reduceIte, up]) I.1,
      gH_f (fun c q => fr c (nin_of q (by decide))) (by rw [fr 9 (by decide)]) (by rw [e9, e8]; simp only [jup_c, Int.reduceEq, ↓reduceIte, up]) I.2.1,
      gL_f (fun c q => fr c (nin_of q (by decide))) (by rw [fr 16 (by decide)]) (by rw [e9, e8]; simp only [jup_c, Int.reduceEq, ↓reduceIte, up]) (by rw [fr 1 (by decide)]) I.2.2.1,
      gT_f (fun c q => fr c (nin_of q (by decide))) I.2.2.2.1,
      (by unfold gC; rw [show O 36 0 = M 36 0 from (by rw [fr 36 (by decide)]), show O 36 3 = M 36 3 from (by rw [fr 36 (by decide)]), show O 74 38 = M 74 38 from (by rw [e9, e8]; simp only [jup_c, Int.reduceEq, ↓reduceIte, up]), show O 74 41 = M 74 41 from (by rw [e9, e8]; simp only [jup_c, Int.reduceEq, ↓reduceIte, up]), fr 37 (by decide), o38, fr 39 (by decide), fr 40 (by decide), fr 41 (by decide), fr 42 (by decide), fr 43 (by decide), fr 99 (by decide), o100, fr 101 (by decide), fr 102 (by decide), fr 103 (by decide), fr 104 (by decide), fr 105 (by decide)]; exact ⟨⟨af_cbenches I, af_ccases I, (af_ckin I), (up_in (af_cbase I) (by omega)), (af_ccbench I), (af_ccmill I), (af_ccof I), (af_cstands I), (af_cchand I)⟩, I.2.2.2.2.1.2.1, I.2.2.2.2.1.2.2.1, I.2.2.2.2.1.2.2.2.1, (by rw [I.2.2.2.2.1.2.2.2.2.1]), I.2.2.2.2.1.2.2.2.2.2.1, I.2.2.2.2.1.2.2.2.2.2.2.1, I.2.2.2.2.1.2.2.2.2.2.2.2.1, I.2.2.2.2.1.2.2.2.2.2.2.2.2.1, I.2.2.2.2.1.2.2.2.2.2.2.2.2.2⟩),
      gR_f (fun c q => fr c (nin_of q (by decide))) I.2.2.2.2.2.1,
      gX_f (fr 72 (by decide)) (fr 84 (by decide)) (by rw [fr 71 (by decide)]) (by rw [e9, e8]; simp only [jup_c, Int.reduceEq, ↓reduceIte, up]) I.2.2.2.2.2.2.1,
      gW_f (fr 75 (by decide)) I.2.2.2.2.2.2.2.1,
      gA_f (fun c a b => fr c (by simp only [List.mem_cons, List.not_mem_nil, or_false, not_or]; omega)) (by rw [fr f (by simp only [List.mem_cons, List.not_mem_nil, or_false, not_or]; omega)]) (by rw [fr f (by simp only [List.mem_cons, List.not_mem_nil, or_false, not_or]; omega)]) (by rw [fr 0 (by decide)]) (by rw [fr 0 (by decide)]) (fun i _ => by rw [fr 85 (by decide)]) (fun i _ => by rw [fr 86 (by decide)]) (by rw [e9, e8]; simp only [jup_c, Int.reduceEq, ↓reduceIte, up]) I.2.2.2.2.2.2.2.2.1,
      (by unfold gZ; rw [show O 0 9 = M 0 9 from (by rw [fr 0 (by decide)]), show O 74 1 = M 74 1 from (by rw [e9, e8]; simp only [jup_c, Int.reduceEq, ↓reduceIte, up])]; exact I.2.2.2.2.2.2.2.2.2)⟩
  · rw [if_neg q] at e8 e9
    exact jIn_q (N := N) (by rw [e8]; exact sC_rf f M) (by rw [e9]; exact sR_j N) I
theorem kc_road {M N : jM} {a b v : Int} {r : Int} (h8 : q_X8_road M a b v r N) : rSm M N := by
  intro c hc
  obtain ⟨_, e⟩ := h8
  rw [e]
  split
  · simp only [jup_hi hc, Int.reduceLT]
  · rfl
set_option maxHeartbeats 4000000 in
theorem T_road {f g : Int} {Z : pSt} {M N O : jM} {a b v : Int} {r r' : Int} (I : jIn f g Z M) (h8 : q_X8_road M a b v r N) (h9 : q_X9_road N a b v r' O) : r = r' ∧ ∃ f g Z, jIn f g Z O := by
  have k : rSm M N := kc_road h8
  have hA := jA_or (af_f I).1
  simp only [q_X9_road, tn_74_3 k I, tn_76 k I, tn_77 k I, tn_78 k I, tn_79 k I, tn_94 k I, tn_95 k I, tn_96 k I, tn_74_8 k I, tn_80 k I, tn_81 k I, tn_82 k I, tn_74_27 k I, tn_89 k I, tn_90 k I, tn_91 k I, tn_92 k I, tn_93 k I, tn_97 k I, tn_98 k I, tn_74_38 k I, tn_74_41 k I, tn_99 k I, tn_100 k I, tn_104 k I, tn_101 k I, tn_103 k I, tn_105 k I, tn_102 k I, tn_106 k I, tn_74_14 k I, tn_74_1 k I] at h9
  obtain ⟨a1, e8⟩ := h8
  obtain ⟨a2, e9⟩ := h9
  refine ⟨a1.trans a2.symm, f, g, Z, ?_⟩
  by_cases q : 0 ≤ a ∧ a ≤ 8 ∧ 0 ≤ b ∧ b ≤ 8 ∧ ¬ a = b ∧ 1 ≤ v ∧ v ≤ 30
  · rw [if_pos q] at e8 e9
    rw [show 9 * a + b = a * 9 + b by omega, show 9 * b + a = b * 9 + a by omega] at e9
    have fr : ∀ c, c ∉ ([106, 74, 45] : List Int) → O c = M c := by
      intro c hc
      simp only [List.mem_cons, List.not_mem_nil, or_false, not_or] at hc
      obtain ⟨b0, b1, b2⟩ := hc
      rw [e9, e8]
      simp only [jup_c, b0, b1, b2, ↓reduceIte]
    have o45 : O 45 = up (up (M 45) (a * 9 + b) (v)) (b * 9 + a) (v) := by rw [e9, e8]; simp only [jup_c, Int.reduceEq, ↓reduceIte]
    have o106 : O 106 = up (up (M 106) (a * 9 + b) (v)) (b * 9 + a) (v) := by rw [e9, e8]; simp only [jup_c, Int.reduceEq, ↓reduceIte]
    exact ⟨gM_f (fun c q => fr c (nin_of q (by decide))) (by rw [fr 1 (by decide)]) (by rw [e9, e8]; simp only [jup_c, Int.reduceEq, ↓reduceIte, up]) I.1,
      gH_f (fun c q => fr c (nin_of q (by decide))) (by rw [fr 9 (by decide)]) (by rw [e9, e8]; simp only [jup_c, Int.reduceEq, ↓reduceIte, up]) I.2.1,
      gL_f (fun c q => fr c (nin_of q (by decide))) (by rw [fr 16 (by decide)]) (by rw [e9, e8]; simp only [jup_c, Int.reduceEq, ↓reduceIte, up]) (by rw [fr 1 (by decide)]) I.2.2.1,
      gT_f (fun c q => fr c (nin_of q (by decide))) I.2.2.2.1,
      gC_f (fun c q => fr c (nin_of q (by decide))) (by rw [fr 36 (by decide)]) (by rw [fr 36 (by decide)]) (by rw [e9, e8]; simp only [jup_c, Int.reduceEq, ↓reduceIte, up]) (by rw [e9, e8]; simp only [jup_c, Int.reduceEq, ↓reduceIte, up]) I.2.2.2.2.1,
      (by unfold gR; rw [o45, o106]; exact ⟨(up_in (up_in (af_chours I) (by omega)) (by omega)), (by rw [I.2.2.2.2.2.1.2])⟩),
      gX_f (fr 72 (by decide)) (fr 84 (by decide)) (by rw [fr 71 (by decide)]) (by rw [e9, e8]; simp only [jup_c, Int.reduceEq, ↓reduceIte, up]) I.2.2.2.2.2.2.1,
      gW_f (fr 75 (by decide)) I.2.2.2.2.2.2.2.1,
      gA_f (fun c a b => fr c (by simp only [List.mem_cons, List.not_mem_nil, or_false, not_or]; omega)) (by rw [fr f (by simp only [List.mem_cons, List.not_mem_nil, or_false, not_or]; omega)]) (by rw [fr f (by simp only [List.mem_cons, List.not_mem_nil, or_false, not_or]; omega)]) (by rw [fr 0 (by decide)]) (by rw [fr 0 (by decide)]) (fun i _ => by rw [fr 85 (by decide)]) (fun i _ => by rw [fr 86 (by decide)]) (by rw [e9, e8]; simp only [jup_c, Int.reduceEq, ↓reduceIte, up]) I.2.2.2.2.2.2.2.2.1,
      (by unfold gZ; rw [show O 0 9 = M 0 9 from (by rw [fr 0 (by decide)]), show O 74 1 = M 74 1 from (by rw [e9, e8]; simp only [jup_c, Int.reduceEq, ↓reduceIte, up])]; exact I.2.2.2.2.2.2.2.2.2)⟩
  · rw [if_neg q] at e8 e9
    exact jIn_q (N := N) (by rw [e8]; exact sC_rf f M) (by rw [e9]; exact sR_j N) I
theorem kc_doubt {M N : jM} {m v : Int} {r : Int} (h8 : q_X8_doubt M m v r N) : rSm M N := by
  intro c hc
  obtain ⟨_, e⟩ := h8
  rw [e]
  split
  · simp only [jup_hi hc, Int.reduceLT]
  · rfl
set_option maxHeartbeats 4000000 in
theorem T_doubt {f g : Int} {Z : pSt} {M N O : jM} {m v : Int} {r r' : Int} (I : jIn f g Z M) (h8 : q_X8_doubt M m v r N) (h9 : q_X9_doubt N m v r' O) : r = r' ∧ ∃ f g Z, jIn f g Z O := by
  have k : rSm M N := kc_doubt h8
  have hA := jA_or (af_f I).1
  simp only [q_X9_doubt, tn_74_3 k I, tn_76 k I, tn_77 k I, tn_78 k I, tn_79 k I, tn_94 k I, tn_95 k I, tn_96 k I, tn_74_8 k I, tn_80 k I, tn_81 k I, tn_82 k I, tn_74_27 k I, tn_89 k I, tn_90 k I, tn_91 k I, tn_92 k I, tn_93 k I, tn_97 k I, tn_98 k I, tn_74_38 k I, tn_74_41 k I, tn_99 k I, tn_100 k I, tn_104 k I, tn_101 k I, tn_103 k I, tn_105 k I, tn_102 k I, tn_106 k I, tn_74_14 k I, tn_74_1 k I] at h9
  obtain ⟨a1, e8⟩ := h8
  obtain ⟨a2, e9⟩ := h9
  refine ⟨a1.trans a2.symm, f, g, Z, ?_⟩
  by_cases q : 0 ≤ m ∧ m < M 1 0 ∧ 0 ≤ v ∧ v ≤ 99
  · rw [if_pos q] at e8 e9
    have fr : ∀ c, c ∉ ([79, 74, 5] : List Int) → O c = M c := by
      intro c hc
      simp only [List.mem_cons, List.not_mem_nil, or_false, not_or] at hc
      obtain ⟨b0, b1, b2⟩ := hc
      rw [e9, e8]
      simp only [jup_c, b0, b1, b2, ↓reduceIte]
    have o5 : O 5 = up (M 5) (m) (v) := by rw [e9, e8]; simp only [jup_c, Int.reduceEq, ↓reduceIte]
    have o79 : O 79 = up (M 79) (m) (v) := by rw [e9, e8]; simp only [jup_c, Int.reduceEq, ↓reduceIte]
    exact ⟨(by unfold gM; rw [show O 1 0 = M 1 0 from (by rw [fr 1 (by decide)]), show O 74 3 = M 74 3 from (by rw [e9, e8]; simp only [jup_c, Int.reduceEq, ↓reduceIte, up]), fr 2 (by decide), fr 3 (by decide), fr 4 (by decide), o5, fr 6 (by decide), fr 7 (by decide), fr 8 (by decide), fr 76 (by decide), fr 77 (by decide), fr 78 (by decide), o79, fr 94 (by decide), fr 95 (by decide), fr 96 (by decide)]; exact ⟨⟨af_cmills I, (af_ctrade I), (af_cowner I), (af_ctown I), (up_in (af_cdoubt I) (by omega)), (af_cchecks I), (af_ccmin I), (af_ccerr I)⟩, I.1.2.1, I.1.2.2.1, I.1.2.2.2.1, I.1.2.2.2.2.1, (by rw [I.1.2.2.2.2.2.1]), I.1.2.2.2.2.2.2.1, I.1.2.2.2.2.2.2.2.1, I.1.2.2.2.2.2.2.2.2⟩),
      gH_f (fun c q => fr c (nin_of q (by decide))) (by rw [fr 9 (by decide)]) (by rw [e9, e8]; simp only [jup_c, Int.reduceEq, ↓reduceIte, up]) I.2.1,
      gL_f (fun c q => fr c (nin_of q (by decide))) (by rw [fr 16 (by decide)]) (by rw [e9, e8]; simp only [jup_c, Int.reduceEq, ↓reduceIte, up]) (by rw [fr 1 (by decide)]) I.2.2.1,
      gT_f (fun c q => fr c (nin_of q (by decide))) I.2.2.2.1,
      gC_f (fun c q => fr c (nin_of q (by decide))) (by rw [fr 36 (by decide)]) (by rw [fr 36 (by decide)]) (by rw [e9, e8]; simp only [jup_c, Int.reduceEq, ↓reduceIte, up]) (by rw [e9, e8]; simp only [jup_c, Int.reduceEq, ↓reduceIte, up]) I.2.2.2.2.1,
      gR_f (fun c q => fr c (nin_of q (by decide))) I.2.2.2.2.2.1,
      gX_f (fr 72 (by decide)) (fr 84 (by decide)) (by rw [fr 71 (by decide)]) (by rw [e9, e8]; simp only [jup_c, Int.reduceEq, ↓reduceIte, up]) I.2.2.2.2.2.2.1,
      gW_f (fr 75 (by decide)) I.2.2.2.2.2.2.2.1,
      gA_f (fun c a b => fr c (by simp only [List.mem_cons, List.not_mem_nil, or_false, not_or]; omega)) (by rw [fr f (by simp only [List.mem_cons, List.not_mem_nil, or_false, not_or]; omega)]) (by rw [fr f (by simp only [List.mem_cons, List.not_mem_nil, or_false, not_or]; omega)]) (by rw [fr 0 (by decide)]) (by rw [fr 0 (by decide)]) (fun i _ => by rw [fr 85 (by decide)]) (fun i _ => by rw [fr 86 (by decide)]) (by rw [e9, e8]; simp only [jup_c, Int.reduceEq, ↓reduceIte, up]) I.2.2.2.2.2.2.2.2.1,
      (by unfold gZ; rw [show O 0 9 = M 0 9 from (by rw [fr 0 (by decide)]), show O 74 1 = M 74 1 from (by rw [e9, e8]; simp only [jup_c, Int.reduceEq, ↓reduceIte, up])]; exact I.2.2.2.2.2.2.2.2.2)⟩
  · rw [if_neg q] at e8 e9
    exact jIn_q (N := N) (by rw [e8]; exact sC_rf f M) (by rw [e9]; exact sR_j N) I
theorem kc_hand {M N : jM} {a b : Int} {r : Int} (h8 : q_X8_hand M a b r N) : rSm M N := by
  intro c hc
  obtain ⟨_, e⟩ := h8
  rw [e]
  split
  · simp only [jup_hi hc, Int.reduceLT]
  · rfl
set_option maxHeartbeats 4000000 in
theorem T_hand {f g : Int} {Z : pSt} {M N O : jM} {a b : Int} {r r' : Int} (I : jIn f g Z M) (h8 : q_X8_hand M a b r N) (h9 : q_X9_hand N a b r' O) : r = r' ∧ ∃ f g Z, jIn f g Z O := by
  have k : rSm M N := kc_hand h8
  have hA := jA_or (af_f I).1
  simp only [q_X9_hand, tn_74_3 k I, tn_76 k I, tn_77 k I, tn_78 k I, tn_79 k I, tn_94 k I, tn_95 k I, tn_96 k I, tn_74_8 k I, tn_80 k I, tn_81 k I, tn_82 k I, tn_74_27 k I, tn_89 k I, tn_90 k I, tn_91 k I, tn_92 k I, tn_93 k I, tn_97 k I, tn_98 k I, tn_74_38 k I, tn_74_41 k I, tn_99 k I, tn_100 k I, tn_104 k I, tn_101 k I, tn_103 k I, tn_105 k I, tn_102 k I, tn_106 k I, tn_74_14 k I, tn_74_1 k I] at h9
  obtain ⟨a1, e8⟩ := h8
  obtain ⟨a2, e9⟩ := h9
  refine ⟨a1.trans a2.symm, f, g, Z, ?_⟩
  by_cases q : 0 ≤ fHand (M 9 0) a b
  · rw [if_pos q] at e8 e9
    have fr : ∀ c, c ∉ ([74, 81, 80, 9, 13, 12, 15, 10] : List Int) → O c = M c := by
      intro c hc
      simp only [List.mem_cons, List.not_mem_nil, or_false, not_or] at hc
      obtain ⟨b0, b1, b2, b3, b4, b5, b6, b7⟩ := hc
      rw [e9, e8]
      simp only [jup_c, b0, b1, b2, b3, b4, b5, b6, b7, ↓reduceIte]
    have o10 : O 10 = up (M 10) (M 9 0) (a) := by rw [e9, e8]; simp only [jup_c, Int.reduceEq, ↓reduceIte]
    have o15 : O 15 = up (M 15) (M 9 0) (b) := by rw [e9, e8]; simp only [jup_c, Int.reduceEq, ↓reduceIte]
    have o12 : O 12 = up (M 12) (M 9 0) (0) := by rw [e9, e8]; simp only [jup_c, Int.reduceEq, ↓reduceIte]
    have o13 : O 13 = up (M 13) (M 9 0) (10799) := by rw [e9, e8]; simp only [jup_c, Int.reduceEq, ↓reduceIte]
    have o80 : O 80 = up (M 80) (M 9 0) (a) := by rw [e9, e8]; simp only [jup_c, Int.reduceEq, ↓reduceIte]
    have o81 : O 81 = up (M 81) (M 9 0) (b) := by rw [e9, e8]; simp only [jup_c, Int.reduceEq, ↓reduceIte]
    have o9_0 : O 9 0 = M 9 0 + 1 := by rw [e9, e8]; simp only [jup_c, Int.reduceEq, ↓reduceIte, up]
    have o74_8 : O 74 8 = M 9 0 + 1 := by rw [e9, e8]; simp only [jup_c, Int.reduceEq, ↓reduceIte, up]
    have qq := fHand_ok q
    have q6 := af_chands I
    exact ⟨gM_f (fun c q => fr c (nin_of q (by decide))) (by rw [fr 1 (by decide)]) (by rw [e9, e8]; simp only [jup_c, Int.reduceEq, ↓reduceIte, up]) I.1,
      (gH_hand I.2.1 qq.1 (by omega) o9_0 o74_8 o10 o15 o12 o13 (fr 11 (by decide)) (fr 14 (by decide)) o80 o81 (fr 82 (by decide)) (fr 83 (by decide))),
      gL_f (fun c q => fr c (nin_of q (by decide))) (by rw [fr 16 (by decide)]) (by rw [e9, e8]; simp only [jup_c, Int.reduceEq, ↓reduceIte, up]) (by rw [fr 1 (by decide)]) I.2.2.1,
      gT_f (fun c q => fr c (nin_of q (by decide))) I.2.2.2.1,
      gC_f (fun c q => fr c (nin_of q (by decide))) (by rw [fr 36 (by decide)]) (by rw [fr 36 (by decide)]) (by rw [e9, e8]; simp only [jup_c, Int.reduceEq, ↓reduceIte, up]) (by rw [e9, e8]; simp only [jup_c, Int.reduceEq, ↓reduceIte, up]) I.2.2.2.2.1,
      gR_f (fun c q => fr c (nin_of q (by decide))) I.2.2.2.2.2.1,
      gX_f (fr 72 (by decide)) (fr 84 (by decide)) (by rw [fr 71 (by decide)]) (by rw [e9, e8]; simp only [jup_c, Int.reduceEq, ↓reduceIte, up]) I.2.2.2.2.2.2.1,
      gW_f (fr 75 (by decide)) I.2.2.2.2.2.2.2.1,
      gA_f (fun c a b => fr c (by simp only [List.mem_cons, List.not_mem_nil, or_false, not_or]; omega)) (by rw [fr f (by simp only [List.mem_cons, List.not_mem_nil, or_false, not_or]; omega)]) (by rw [fr f (by simp only [List.mem_cons, List.not_mem_nil, or_false, not_or]; omega)]) (by rw [fr 0 (by decide)]) (by rw [fr 0 (by decide)]) (fun i _ => by rw [fr 85 (by decide)]) (fun i _ => by rw [fr 86 (by decide)]) (by rw [e9, e8]; simp only [jup_c, Int.reduceEq, ↓reduceIte, up]) I.2.2.2.2.2.2.2.2.1,
      (by unfold gZ; rw [show O 0 9 = M 0 9 from (by rw [fr 0 (by decide)]), show O 74 1 = M 74 1 from (by rw [e9, e8]; simp only [jup_c, Int.reduceEq, ↓reduceIte, up])]; exact I.2.2.2.2.2.2.2.2.2)⟩
  · rw [if_neg q] at e8 e9
    exact jIn_q (N := N) (by rw [e8]; exact sC_rf f M) (by rw [e9]; exact sR_j N) I
