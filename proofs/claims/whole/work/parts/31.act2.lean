abbrev q_X0_value (M : jM)  (a b : Int) : Int → jM → Prop := fun r N => r = (if ¬ a = 0 then 2 else if ¬ b = 0 then 1 else 0) ∧ N = M
set_option maxHeartbeats 4000000 in
set_option maxRecDepth 20000 in
theorem c_X0_value {X : jX} (M : jM)  (a b : Int)  : jC yX0_value D_X0_value X FJ shJ [jI a, jI b] M (jqI (q_X0_value M a b)) := by
  refine jC_of (by decide) rfl (fun ad => Nat.le_of_ble_eq_true rfl) (by decide) ?_
  show jG D_X0_value X FJ shJ 0 0 (jqI (q_X0_value M a b)) 0 [(0, jI a), (1, jI b)] [] M
  refine j_iload_n 0 dX0_value_0 rfl rfl ?_
  have hJ_1 : ∀ zz : Int, (a = 0 ∧ b = 0 ∧ zz = 0) ∨ (a = 0 ∧ ¬ b = 0 ∧ zz = 1) ∨ (¬ a = 0 ∧ zz = 2) → jG D_X0_value X FJ shJ 0 0 (jqI (q_X0_value M a b)) 17 [(0, jI a), (1, jI b)] (jI zz :: []) M := by
    intro t_2 et_2
    refine j_iret rfl rfl rfl rfl dX0_value_17 ?_
    exact ⟨by (repeat' split) <;> omega, rfl⟩
  refine j_if_eq (tgt := 8) dX0_value_1 (by decide) (fun c1_3 => ?_) (fun c1_3 => ?_)
  · skip
    refine j_iload_n 1 dX0_value_8 rfl rfl ?_
    refine j_if_eq (tgt := 16) dX0_value_9 (by decide) (fun c9_4 => ?_) (fun c9_4 => ?_)
    · skip
      refine j_iconst dX0_value_16 (by decide) ?_
      exact hJ_1 _ (Or.inl ⟨c1_3, c9_4, rfl⟩)
    · skip
      refine j_iconst dX0_value_12 (by decide) ?_
      refine j_goto (tgt := 17) dX0_value_13 (by decide) ?_
      exact hJ_1 _ (Or.inr (Or.inl ⟨c1_3, c9_4, rfl⟩))
  · skip
    refine j_iconst dX0_value_4 (by decide) ?_
    refine j_goto (tgt := 17) dX0_value_5 (by decide) ?_
    exact hJ_1 _ (Or.inr (Or.inr (⟨c1_3, rfl⟩)))
abbrev q_X0_test (M : jM) (f : Int) (hf : jA f) (s h m d : Int) : Int → jM → Prop := fun r N => r = eTest ((M 12 h + d) / 360) ((M 13 h + d) / 360) (M 10 h) (M 2 m) (M 11 h) m (s / 10000 - 4) (s % 10000) ∧ N = M
set_option maxHeartbeats 4000000 in
set_option maxRecDepth 20000 in
theorem c_X0_test {X : jX} (M : jM) (f : Int) (hf : jA f) (s h m d : Int) (h_cfrom : ∀ i, 0 ≤ M 12 i ∧ M 12 i ≤ 99999) (h_cto : ∀ i, 0 ≤ M 13 i ∧ M 13 i ≤ 10799) (h_ckind : ∀ i, 0 ≤ M 10 i ∧ M 10 i ≤ 5) (h_ctrade : ∀ i, 0 ≤ M 2 i ∧ M 2 i ≤ 3) (h_cpapers : ∀ i, 0 ≤ M 11 i ∧ M 11 i ≤ 3) (hs : 0 ≤ s ∧ s < 110000) (h0 : 0 ≤ h ∧ h < 24) (hm0 : 0 ≤ m ∧ m < 6) (hd0 : 0 ≤ d ∧ d ≤ 359) : jC yX0_test D_X0_test X FJ shJ [jR f, jI s, jI h, jI m, jI d] M (jqI (q_X0_test M f hf s h m d)) := by
  refine jC_of (by decide) rfl (fun ad => Nat.le_of_ble_eq_true rfl) (by decide) ?_
  show jG D_X0_test X FJ shJ 0 0 (jqI (q_X0_test M f hf s h m d)) 0 [(0, jR f), (1, jI s), (2, jI h), (3, jI m), (4, jI d)] [] M
  refine j_iload_n 1 dX0_test_0 rfl rfl ?_
  refine j_sipush dX0_test_1 (by decide) ?_
  refine j_irem dX0_test_4 (by omega) (by omega) ?_
  refine j_nm (fun v5_1 ev5_1 => ?_)
  refine j_istore (ls' := [(0, jR f), (1, jI s), (2, jI h), (3, jI m), (4, jI d), (5, jI v5_1)]) dX0_test_5 (by decide) rfl ?_
  refine j_aload_n 0 dX0_test_7 rfl rfl ?_
  refine j_getr f_X0_45 (ra_14 hf) dX0_test_8 ?_
  refine j_iload_n 2 dX0_test_11 rfl rfl ?_
  refine j_iload 4 dX0_test_12 rfl ?_
  refine j_callVi l_X0_73 ⟨Nat.le_of_ble_eq_true rfl, Nat.le_of_ble_eq_true rfl⟩ ⟨rfl, rfl⟩ dX0_test_14 ob_9 (c_X3_ageFrom M h d h_cfrom (by first | assumption | omega) (by first | assumption | omega)) rfl rfl (Nat.le_of_ble_eq_true rfl) (fun r_2 M_3 h_4 => ?_)
  obtain ⟨er_2, nh_4⟩ := h_4
  refine j_eqM nh_4 ?_
  clear nh_4
  refine j_istore (ls' := [(0, jR f), (1, jI s), (2, jI h), (3, jI m), (4, jI d), (5, jI v5_1), (6, jI r_2)]) dX0_test_17 (by decide) rfl ?_
  refine j_aload_n 0 dX0_test_19 rfl rfl ?_
  refine j_getr f_X0_45 (ra_14 hf) dX0_test_20 ?_
  refine j_iload_n 2 dX0_test_23 rfl rfl ?_
  refine j_iload 4 dX0_test_24 rfl ?_
  refine j_callVi l_X0_78 ⟨Nat.le_of_ble_eq_true rfl, Nat.le_of_ble_eq_true rfl⟩ ⟨rfl, rfl⟩ dX0_test_26 ob_9 (c_X3_ageTo M h d h_cto (by first | assumption | omega) (by first | assumption | omega)) rfl rfl (Nat.le_of_ble_eq_true rfl) (fun r_5 M_6 h_7 => ?_)
  obtain ⟨er_5, nh_7⟩ := h_7
  refine j_eqM nh_7 ?_
  clear nh_7
  refine j_istore (ls' := [(0, jR f), (1, jI s), (2, jI h), (3, jI m), (4, jI d), (5, jI v5_1), (6, jI r_2), (7, jI r_5)]) dX0_test_29 (by decide) rfl ?_
  refine j_iload_n 1 dX0_test_31 rfl rfl ?_
  refine j_sipush dX0_test_32 (by decide) ?_
  refine j_idiv dX0_test_35 (by omega) (by omega) ?_
  rcases (show (s / 10000) = 4 ∨ (s / 10000) = 5 ∨ (s / 10000) = 6 ∨ (s / 10000) = 7 ∨ (s / 10000) = 8 ∨ (s / 10000) = 9 ∨ (s / 10000) < 4 ∨ 9 < (s / 10000) from by omega) with s_8 | s_8 | s_8 | s_8 | s_8 | s_8 | s_8 | s_8
  · refine j_tswIn (tgt := 76) 4 s_8 dX0_test_36 (by decide) (by decide) rfl (by decide) ?_
    refine j_iload 7 dX0_test_76 rfl ?_
    refine j_iload 5 dX0_test_78 rfl ?_
    have hJ_9 : ∀ zz : Int, (v5_1 ≤ r_5 ∧ zz = 0) ∨ (¬ (v5_1 ≤ r_5) ∧ zz = 1) → jG D_X0_test X FJ shJ 0 0 (jqI (q_X0_test M f hf s h m d)) 88 [(0, jR f), (1, jI s), (2, jI h), (3, jI m), (4, jI d), (5, jI v5_1), (6, jI r_2), (7, jI r_5)] (jI zz :: []) M := by
      intro t_10 et_10
      refine j_iload 6 dX0_test_88 rfl ?_
      refine j_iload 5 dX0_test_90 rfl ?_
      have hJ_11 : ∀ zz : Int, (v5_1 ≤ r_2 ∧ zz = 0) ∨ (¬ (v5_1 ≤ r_2) ∧ zz = 1) → jG D_X0_test X FJ shJ 0 0 (jqI (q_X0_test M f hf s h m d)) 100 [(0, jR f), (1, jI s), (2, jI h), (3, jI m), (4, jI d), (5, jI v5_1), (6, jI r_2), (7, jI r_5)] (jI zz :: jI t_10 :: []) M := by
        intro t_12 et_12
        refine j_callSi l_X0_81 ⟨Nat.le_of_ble_eq_true rfl, Nat.le_of_ble_eq_true rfl⟩ ⟨rfl, rfl⟩ dX0_test_100 (c_X0_value M t_10 t_12) rfl rfl (Nat.le_of_ble_eq_true rfl) (fun r_13 M_14 h_15 => ?_)
        obtain ⟨er_13, nh_15⟩ := h_15
        refine j_eqM nh_15 ?_
        clear nh_15
        refine j_iret rfl rfl rfl rfl dX0_test_103 ?_
        refine ⟨?_, rfl⟩
        unfold eTest
        (repeat' split at *) <;> omega
      refine j_icmp_ge (tgt := 99) dX0_test_92 (by decide) (fun c92_16 => ?_) (fun c92_16 => ?_)
      · skip
        refine j_iconst dX0_test_99 (by decide) ?_
        exact hJ_11 _ (Or.inl ⟨c92_16, rfl⟩)
      · skip
        refine j_iconst dX0_test_95 (by decide) ?_
        refine j_goto (tgt := 100) dX0_test_96 (by decide) ?_
        exact hJ_11 _ (Or.inr (⟨c92_16, rfl⟩))
    refine j_icmp_ge (tgt := 87) dX0_test_80 (by decide) (fun c80_17 => ?_) (fun c80_17 => ?_)
    · skip
      refine j_iconst dX0_test_87 (by decide) ?_
      exact hJ_9 _ (Or.inl ⟨c80_17, rfl⟩)
    · skip
      refine j_iconst dX0_test_83 (by decide) ?_
      refine j_goto (tgt := 88) dX0_test_84 (by decide) ?_
      exact hJ_9 _ (Or.inr (⟨c80_17, rfl⟩))
  · refine j_tswIn (tgt := 104) 5 s_8 dX0_test_36 (by decide) (by decide) rfl (by decide) ?_
    refine j_iload 6 dX0_test_104 rfl ?_
    refine j_iload 5 dX0_test_106 rfl ?_
    have hJ_18 : ∀ zz : Int, (r_2 ≤ v5_1 ∧ zz = 0) ∨ (¬ (r_2 ≤ v5_1) ∧ zz = 1) → jG D_X0_test X FJ shJ 0 0 (jqI (q_X0_test M f hf s h m d)) 116 [(0, jR f), (1, jI s), (2, jI h), (3, jI m), (4, jI d), (5, jI v5_1), (6, jI r_2), (7, jI r_5)] (jI zz :: []) M := by
      intro t_19 et_19
      refine j_iload 7 dX0_test_116 rfl ?_
      refine j_iload 5 dX0_test_118 rfl ?_
      have hJ_20 : ∀ zz : Int, (r_5 ≤ v5_1 ∧ zz = 0) ∨ (¬ (r_5 ≤ v5_1) ∧ zz = 1) → jG D_X0_test X FJ shJ 0 0 (jqI (q_X0_test M f hf s h m d)) 128 [(0, jR f), (1, jI s), (2, jI h), (3, jI m), (4, jI d), (5, jI v5_1), (6, jI r_2), (7, jI r_5)] (jI zz :: jI t_19 :: []) M := by
        intro t_21 et_21
        refine j_callSi l_X0_81 ⟨Nat.le_of_ble_eq_true rfl, Nat.le_of_ble_eq_true rfl⟩ ⟨rfl, rfl⟩ dX0_test_128 (c_X0_value M t_19 t_21) rfl rfl (Nat.le_of_ble_eq_true rfl) (fun r_22 M_23 h_24 => ?_)
        obtain ⟨er_22, nh_24⟩ := h_24
        refine j_eqM nh_24 ?_
        clear nh_24
        refine j_iret rfl rfl rfl rfl dX0_test_131 ?_
        refine ⟨?_, rfl⟩
        unfold eTest
        (repeat' split at *) <;> omega
      refine j_icmp_le (tgt := 127) dX0_test_120 (by decide) (fun c120_25 => ?_) (fun c120_25 => ?_)
      · skip
        refine j_iconst dX0_test_127 (by decide) ?_
        exact hJ_20 _ (Or.inl ⟨c120_25, rfl⟩)
      · skip
        refine j_iconst dX0_test_123 (by decide) ?_
        refine j_goto (tgt := 128) dX0_test_124 (by decide) ?_
        exact hJ_20 _ (Or.inr (⟨c120_25, rfl⟩))
    refine j_icmp_le (tgt := 115) dX0_test_108 (by decide) (fun c108_26 => ?_) (fun c108_26 => ?_)
    · skip
      refine j_iconst dX0_test_115 (by decide) ?_
      exact hJ_18 _ (Or.inl ⟨c108_26, rfl⟩)
    · skip
      refine j_iconst dX0_test_111 (by decide) ?_
      refine j_goto (tgt := 116) dX0_test_112 (by decide) ?_
      exact hJ_18 _ (Or.inr (⟨c108_26, rfl⟩))
  · refine j_tswIn (tgt := 132) 6 s_8 dX0_test_36 (by decide) (by decide) rfl (by decide) ?_
    refine j_iload 6 dX0_test_132 rfl ?_
    refine j_iload 5 dX0_test_134 rfl ?_
    have hJ_27 : ∀ zz : Int, (¬ r_2 = v5_1 ∧ zz = 0) ∨ (r_2 = v5_1 ∧ ¬ r_5 = v5_1 ∧ zz = 0) ∨ (r_2 = v5_1 ∧ r_5 = v5_1 ∧ zz = 1) → jG D_X0_test X FJ shJ 0 0 (jqI (q_X0_test M f hf s h m d)) 151 [(0, jR f), (1, jI s), (2, jI h), (3, jI m), (4, jI d), (5, jI v5_1), (6, jI r_2), (7, jI r_5)] (jI zz :: []) M := by
      intro t_28 et_28
      refine j_iload 6 dX0_test_151 rfl ?_
      refine j_iload 5 dX0_test_153 rfl ?_
      have hJ_29 : ∀ zz : Int, (v5_1 < r_2 ∧ zz = 0) ∨ (¬ (v5_1 < r_2) ∧ r_5 < v5_1 ∧ zz = 0) ∨ (¬ (v5_1 < r_2) ∧ ¬ (r_5 < v5_1) ∧ zz = 1) → jG D_X0_test X FJ shJ 0 0 (jqI (q_X0_test M f hf s h m d)) 170 [(0, jR f), (1, jI s), (2, jI h), (3, jI m), (4, jI d), (5, jI v5_1), (6, jI r_2), (7, jI r_5)] (jI zz :: jI t_28 :: []) M := by
        intro t_30 et_30
        refine j_callSi l_X0_81 ⟨Nat.le_of_ble_eq_true rfl, Nat.le_of_ble_eq_true rfl⟩ ⟨rfl, rfl⟩ dX0_test_170 (c_X0_value M t_28 t_30) rfl rfl (Nat.le_of_ble_eq_true rfl) (fun r_31 M_32 h_33 => ?_)
        obtain ⟨er_31, nh_33⟩ := h_33
        refine j_eqM nh_33 ?_
        clear nh_33
        refine j_iret rfl rfl rfl rfl dX0_test_173 ?_
        refine ⟨?_, rfl⟩
        unfold eTest
        (repeat' split at *) <;> omega
      refine j_icmp_gt (tgt := 169) dX0_test_155 (by decide) (fun c155_34 => ?_) (fun c155_34 => ?_)
      · skip
        refine j_iconst dX0_test_169 (by decide) ?_
        exact hJ_29 _ (Or.inl ⟨c155_34, rfl⟩)
      · skip
        refine j_iload 5 dX0_test_158 rfl ?_
        refine j_iload 7 dX0_test_160 rfl ?_
        refine j_icmp_gt (tgt := 169) dX0_test_162 (by decide) (fun c162_35 => ?_) (fun c162_35 => ?_)
        · skip
          refine j_iconst dX0_test_169 (by decide) ?_
          exact hJ_29 _ (Or.inr (Or.inl ⟨c155_34, c162_35, rfl⟩))
        · skip
          refine j_iconst dX0_test_165 (by decide) ?_
          refine j_goto (tgt := 170) dX0_test_166 (by decide) ?_
          exact hJ_29 _ (Or.inr (Or.inr (⟨c155_34, c162_35, rfl⟩)))
    refine j_icmp_ne (tgt := 150) dX0_test_136 (by decide) (fun c136_36 => ?_) (fun c136_36 => ?_)
    · skip
      refine j_iconst dX0_test_150 (by decide) ?_
      exact hJ_27 _ (Or.inl ⟨c136_36, rfl⟩)
    · skip
      refine j_iload 7 dX0_test_139 rfl ?_
      refine j_iload 5 dX0_test_141 rfl ?_
      refine j_icmp_ne (tgt := 150) dX0_test_143 (by decide) (fun c143_37 => ?_) (fun c143_37 => ?_)
      · skip
        refine j_iconst dX0_test_150 (by decide) ?_
        exact hJ_27 _ (Or.inr (Or.inl ⟨c136_36, c143_37, rfl⟩))
      · skip
        refine j_iconst dX0_test_146 (by decide) ?_
        refine j_goto (tgt := 151) dX0_test_147 (by decide) ?_
        exact hJ_27 _ (Or.inr (Or.inr (⟨c136_36, c143_37, rfl⟩)))
  · refine j_tswIn (tgt := 174) 7 s_8 dX0_test_36 (by decide) (by decide) rfl (by decide) ?_
    refine j_aload_n 0 dX0_test_174 rfl rfl ?_
    refine j_getr f_X0_45 (ra_14 hf) dX0_test_175 ?_
    refine j_getr f_X0_85 r_9_1 dX0_test_178 ?_
    refine j_iload_n 2 dX0_test_181 rfl rfl ?_
    refine j_iald a_10 dX0_test_182 (by omega) (by omega) ?_
    have g_38 := h_ckind h
    refine j_iload 5 dX0_test_183 rfl ?_
    have hJ_39 : ∀ zz : Int, (¬ (M 10 h) = v5_1 ∧ zz = 0) ∨ ((M 10 h) = v5_1 ∧ zz = 1) → jG D_X0_test X FJ shJ 0 0 (jqI (q_X0_test M f hf s h m d)) 193 [(0, jR f), (1, jI s), (2, jI h), (3, jI m), (4, jI d), (5, jI v5_1), (6, jI r_2), (7, jI r_5)] (jI zz :: []) M := by
      intro t_40 et_40
      refine j_iconst dX0_test_193 (by decide) ?_
      refine j_callSi l_X0_81 ⟨Nat.le_of_ble_eq_true rfl, Nat.le_of_ble_eq_true rfl⟩ ⟨rfl, rfl⟩ dX0_test_194 (c_X0_value M t_40 0) rfl rfl (Nat.le_of_ble_eq_true rfl) (fun r_41 M_42 h_43 => ?_)
      obtain ⟨er_41, nh_43⟩ := h_43
      refine j_eqM nh_43 ?_
      clear nh_43
      refine j_iret rfl rfl rfl rfl dX0_test_197 ?_
      refine ⟨?_, rfl⟩
      unfold eTest
      (repeat' split at *) <;> omega
    refine j_icmp_ne (tgt := 192) dX0_test_185 (by decide) (fun c185_44 => ?_) (fun c185_44 => ?_)
    · skip
      refine j_iconst dX0_test_192 (by decide) ?_
      exact hJ_39 _ (Or.inl ⟨c185_44, rfl⟩)
    · skip
      refine j_iconst dX0_test_188 (by decide) ?_
      refine j_goto (tgt := 193) dX0_test_189 (by decide) ?_
      exact hJ_39 _ (Or.inr (⟨c185_44, rfl⟩))
  · refine j_tswIn (tgt := 198) 8 s_8 dX0_test_36 (by decide) (by decide) rfl (by decide) ?_
    refine j_aload_n 0 dX0_test_198 rfl rfl ?_
    refine j_getr f_X0_49 (ra_15 hf) dX0_test_199 ?_
    refine j_getr f_X0_88 r_1_1 dX0_test_202 ?_
    refine j_iload_n 3 dX0_test_205 rfl rfl ?_
    refine j_iald a_2 dX0_test_206 (by omega) (by omega) ?_
    have g_45 := h_ctrade m
    refine j_iload 5 dX0_test_207 rfl ?_
    have hJ_46 : ∀ zz : Int, (¬ (M 2 m) = v5_1 ∧ zz = 0) ∨ ((M 2 m) = v5_1 ∧ zz = 1) → jG D_X0_test X FJ shJ 0 0 (jqI (q_X0_test M f hf s h m d)) 217 [(0, jR f), (1, jI s), (2, jI h), (3, jI m), (4, jI d), (5, jI v5_1), (6, jI r_2), (7, jI r_5)] (jI zz :: []) M := by
      intro t_47 et_47
      refine j_iconst dX0_test_217 (by decide) ?_
      refine j_callSi l_X0_81 ⟨Nat.le_of_ble_eq_true rfl, Nat.le_of_ble_eq_true rfl⟩ ⟨rfl, rfl⟩ dX0_test_218 (c_X0_value M t_47 0) rfl rfl (Nat.le_of_ble_eq_true rfl) (fun r_48 M_49 h_50 => ?_)
      obtain ⟨er_48, nh_50⟩ := h_50
      refine j_eqM nh_50 ?_
      clear nh_50
      refine j_iret rfl rfl rfl rfl dX0_test_221 ?_
      refine ⟨?_, rfl⟩
      unfold eTest
      (repeat' split at *) <;> omega
    refine j_icmp_ne (tgt := 216) dX0_test_209 (by decide) (fun c209_51 => ?_) (fun c209_51 => ?_)
    · skip
      refine j_iconst dX0_test_216 (by decide) ?_
      exact hJ_46 _ (Or.inl ⟨c209_51, rfl⟩)
    · skip
      refine j_iconst dX0_test_212 (by decide) ?_
      refine j_goto (tgt := 217) dX0_test_213 (by decide) ?_
      exact hJ_46 _ (Or.inr (⟨c209_51, rfl⟩))
  · refine j_tswIn (tgt := 222) 9 s_8 dX0_test_36 (by decide) (by decide) rfl (by decide) ?_
    refine j_iload_n 3 dX0_test_222 rfl rfl ?_
    refine j_iload 5 dX0_test_223 rfl ?_
    have hJ_52 : ∀ zz : Int, (¬ m = v5_1 ∧ zz = 0) ∨ (m = v5_1 ∧ zz = 1) → jG D_X0_test X FJ shJ 0 0 (jqI (q_X0_test M f hf s h m d)) 233 [(0, jR f), (1, jI s), (2, jI h), (3, jI m), (4, jI d), (5, jI v5_1), (6, jI r_2), (7, jI r_5)] (jI zz :: []) M := by
      intro t_53 et_53
      refine j_iconst dX0_test_233 (by decide) ?_
      refine j_callSi l_X0_81 ⟨Nat.le_of_ble_eq_true rfl, Nat.le_of_ble_eq_true rfl⟩ ⟨rfl, rfl⟩ dX0_test_234 (c_X0_value M t_53 0) rfl rfl (Nat.le_of_ble_eq_true rfl) (fun r_54 M_55 h_56 => ?_)
      obtain ⟨er_54, nh_56⟩ := h_56
      refine j_eqM nh_56 ?_
      clear nh_56
      refine j_iret rfl rfl rfl rfl dX0_test_237 ?_
      refine ⟨?_, rfl⟩
      unfold eTest
      (repeat' split at *) <;> omega
    refine j_icmp_ne (tgt := 232) dX0_test_225 (by decide) (fun c225_57 => ?_) (fun c225_57 => ?_)
    · skip
      refine j_iconst dX0_test_232 (by decide) ?_
      exact hJ_52 _ (Or.inl ⟨c225_57, rfl⟩)
    · skip
      refine j_iconst dX0_test_228 (by decide) ?_
      refine j_goto (tgt := 233) dX0_test_229 (by decide) ?_
      exact hJ_52 _ (Or.inr (⟨c225_57, rfl⟩))
  · refine j_tswOut (tgt := 238) dX0_test_36 (Or.inl s_8) (by decide) ?_
    refine j_aload_n 0 dX0_test_238 rfl rfl ?_
    refine j_getr f_X0_45 (ra_14 hf) dX0_test_239 ?_
    refine j_getr f_X0_93 r_9_2 dX0_test_242 ?_
    refine j_iload_n 2 dX0_test_245 rfl rfl ?_
    refine j_iald a_11 dX0_test_246 (by omega) (by omega) ?_
    have g_58 := h_cpapers h
    have hJ_59 : ∀ zz : Int, ((M 11 h) ≤ 0 ∧ zz = 0) ∨ (¬ ((M 11 h) ≤ 0) ∧ zz = 1) → jG D_X0_test X FJ shJ 0 0 (jqI (q_X0_test M f hf s h m d)) 255 [(0, jR f), (1, jI s), (2, jI h), (3, jI m), (4, jI d), (5, jI v5_1), (6, jI r_2), (7, jI r_5)] (jI zz :: []) M := by
      intro t_60 et_60
      refine j_iconst dX0_test_255 (by decide) ?_
      refine j_callSi l_X0_81 ⟨Nat.le_of_ble_eq_true rfl, Nat.le_of_ble_eq_true rfl⟩ ⟨rfl, rfl⟩ dX0_test_256 (c_X0_value M t_60 0) rfl rfl (Nat.le_of_ble_eq_true rfl) (fun r_61 M_62 h_63 => ?_)
      obtain ⟨er_61, nh_63⟩ := h_63
      refine j_eqM nh_63 ?_
      clear nh_63
      refine j_iret rfl rfl rfl rfl dX0_test_259 ?_
      refine ⟨?_, rfl⟩
      unfold eTest
      (repeat' split at *) <;> omega
    refine j_if_le (tgt := 254) dX0_test_247 (by decide) (fun c247_64 => ?_) (fun c247_64 => ?_)
    · skip
      refine j_iconst dX0_test_254 (by decide) ?_
      exact hJ_59 _ (Or.inl ⟨c247_64, rfl⟩)
    · skip
      refine j_iconst dX0_test_250 (by decide) ?_
      refine j_goto (tgt := 255) dX0_test_251 (by decide) ?_
      exact hJ_59 _ (Or.inr (⟨c247_64, rfl⟩))
  · refine j_tswOut (tgt := 238) dX0_test_36 (Or.inr s_8) (by decide) ?_
    refine j_aload_n 0 dX0_test_238 rfl rfl ?_
    refine j_getr f_X0_45 (ra_14 hf) dX0_test_239 ?_
    refine j_getr f_X0_93 r_9_2 dX0_test_242 ?_
    refine j_iload_n 2 dX0_test_245 rfl rfl ?_
    refine j_iald a_11 dX0_test_246 (by omega) (by omega) ?_
    have g_65 := h_cpapers h
    have hJ_66 : ∀ zz : Int, ((M 11 h) ≤ 0 ∧ zz = 0) ∨ (¬ ((M 11 h) ≤ 0) ∧ zz = 1) → jG D_X0_test X FJ shJ 0 0 (jqI (q_X0_test M f hf s h m d)) 255 [(0, jR f), (1, jI s), (2, jI h), (3, jI m), (4, jI d), (5, jI v5_1), (6, jI r_2), (7, jI r_5)] (jI zz :: []) M := by
      intro t_67 et_67
      refine j_iconst dX0_test_255 (by decide) ?_
      refine j_callSi l_X0_81 ⟨Nat.le_of_ble_eq_true rfl, Nat.le_of_ble_eq_true rfl⟩ ⟨rfl, rfl⟩ dX0_test_256 (c_X0_value M t_67 0) rfl rfl (Nat.le_of_ble_eq_true rfl) (fun r_68 M_69 h_70 => ?_)
      obtain ⟨er_68, nh_70⟩ := h_70
      refine j_eqM nh_70 ?_
      clear nh_70
      refine j_iret rfl rfl rfl rfl dX0_test_259 ?_
      refine ⟨?_, rfl⟩
      unfold eTest
      (repeat' split at *) <;> omega
    refine j_if_le (tgt := 254) dX0_test_247 (by decide) (fun c247_71 => ?_) (fun c247_71 => ?_)
    · skip
      refine j_iconst dX0_test_254 (by decide) ?_
      exact hJ_66 _ (Or.inl ⟨c247_71, rfl⟩)
    · skip
      refine j_iconst dX0_test_250 (by decide) ?_
      refine j_goto (tgt := 255) dX0_test_251 (by decide) ?_
      exact hJ_66 _ (Or.inr (⟨c247_71, rfl⟩))
abbrev q_X9_partOf (M : jM)  (s n h m d : Int) : Int → jM → Prop := fun r N => r = eTest (fAge (M 83) (M 82) h d 0) (fAge (M 83) (M 82) h d 1) (M 80 h) (M 76 m) (M 82 h) m s n ∧ N = M
set_option maxHeartbeats 4000000 in
set_option maxRecDepth 20000 in
theorem c_X9_partOf {X : jX} (M : jM)  (s n h m d : Int) (h_rkind : ∀ i, 0 ≤ M 80 i ∧ M 80 i ≤ 5) (h_rtrade : ∀ i, 0 ≤ M 76 i ∧ M 76 i ≤ 3) (h_rpapers : ∀ i, 0 ≤ M 82 i ∧ M 82 i ≤ 3) (h_rpaper : pOk (M 83)) (h0 : 0 ≤ h ∧ h < 24) (hm0 : 0 ≤ m ∧ m < 6) (hd0 : 0 ≤ d ∧ d ≤ 359) : jC yX9_partOf D_X9_partOf X FJ shJ [jR 74, jI s, jI n, jI h, jI m, jI d] M (jqI (q_X9_partOf M s n h m d)) := by
  refine jC_of (by decide) rfl (fun ad => Nat.le_of_ble_eq_true rfl) (by decide) ?_
  show jG D_X9_partOf X FJ shJ 0 0 (jqI (q_X9_partOf M s n h m d)) 0 [(0, jR 74), (1, jI s), (2, jI n), (3, jI h), (4, jI m), (5, jI d)] [] M
  refine j_aload_n 0 dX9_partOf_0 rfl rfl ?_
  refine j_iload_n 3 dX9_partOf_1 rfl rfl ?_
  refine j_iload 5 dX9_partOf_2 rfl ?_
  refine j_iconst dX9_partOf_4 (by decide) ?_
  refine j_callVi l_X9_172 ⟨Nat.le_of_ble_eq_true rfl, Nat.le_of_ble_eq_true rfl⟩ ⟨rfl, rfl⟩ dX9_partOf_5 ob_74 (c_X9_ageOf M h d 0 h_rpapers h_rpaper (by first | assumption | omega) (by first | assumption | omega)) rfl rfl (Nat.le_of_ble_eq_true rfl) (fun r_1 M_2 h_3 => ?_)
  obtain ⟨er_1, nh_3⟩ := h_3
  refine j_eqM nh_3 ?_
  clear nh_3
  refine j_istore (ls' := [(0, jR 74), (1, jI s), (2, jI n), (3, jI h), (4, jI m), (5, jI d), (6, jI r_1)]) dX9_partOf_8 (by decide) rfl ?_
  refine j_aload_n 0 dX9_partOf_10 rfl rfl ?_
  refine j_iload_n 3 dX9_partOf_11 rfl rfl ?_
  refine j_iload 5 dX9_partOf_12 rfl ?_
  refine j_iconst dX9_partOf_14 (by decide) ?_
  refine j_callVi l_X9_172 ⟨Nat.le_of_ble_eq_true rfl, Nat.le_of_ble_eq_true rfl⟩ ⟨rfl, rfl⟩ dX9_partOf_15 ob_74 (c_X9_ageOf M h d 1 h_rpapers h_rpaper (by first | assumption | omega) (by first | assumption | omega)) rfl rfl (Nat.le_of_ble_eq_true rfl) (fun r_4 M_5 h_6 => ?_)
  obtain ⟨er_4, nh_6⟩ := h_6
  refine j_eqM nh_6 ?_
  clear nh_6
  refine j_istore (ls' := [(0, jR 74), (1, jI s), (2, jI n), (3, jI h), (4, jI m), (5, jI d), (6, jI r_1), (7, jI r_4)]) dX9_partOf_18 (by decide) rfl ?_
  refine j_iload_n 1 dX9_partOf_20 rfl rfl ?_
  rcases (show s = 0 ∨ s = 1 ∨ s = 2 ∨ s = 3 ∨ s = 4 ∨ s = 5 ∨ s < 0 ∨ 5 < s from by omega) with s_7 | s_7 | s_7 | s_7 | s_7 | s_7 | s_7 | s_7
  · refine j_tswIn (tgt := 60) 0 s_7 dX9_partOf_21 (by decide) (by decide) rfl (by decide) ?_
    refine j_iload 7 dX9_partOf_60 rfl ?_
    refine j_iload_n 2 dX9_partOf_62 rfl rfl ?_
    have hJ_8 : ∀ zz : Int, (n ≤ r_4 ∧ n ≤ r_1 ∧ zz = 0) ∨ (n ≤ r_4 ∧ ¬ (n ≤ r_1) ∧ zz = 1) ∨ (¬ (n ≤ r_4) ∧ zz = 2) → jG D_X9_partOf X FJ shJ 0 0 (jqI (q_X9_partOf M s n h m d)) 81 [(0, jR 74), (1, jI s), (2, jI n), (3, jI h), (4, jI m), (5, jI d), (6, jI r_1), (7, jI r_4)] (jI zz :: []) M := by
      intro t_9 et_9
      refine j_iret rfl rfl rfl rfl dX9_partOf_81 ?_
      refine ⟨?_, rfl⟩
      unfold eTest
      (repeat' split at *) <;> omega
    refine j_icmp_ge (tgt := 70) dX9_partOf_63 (by decide) (fun c63_10 => ?_) (fun c63_10 => ?_)
    · skip
      refine j_iload 6 dX9_partOf_70 rfl ?_
      refine j_iload_n 2 dX9_partOf_72 rfl rfl ?_
      refine j_icmp_ge (tgt := 80) dX9_partOf_73 (by decide) (fun c73_11 => ?_) (fun c73_11 => ?_)
      · skip
        refine j_iconst dX9_partOf_80 (by decide) ?_
        exact hJ_8 _ (Or.inl ⟨c63_10, c73_11, rfl⟩)
      · skip
        refine j_iconst dX9_partOf_76 (by decide) ?_
        refine j_goto (tgt := 81) dX9_partOf_77 (by decide) ?_
        exact hJ_8 _ (Or.inr (Or.inl ⟨c63_10, c73_11, rfl⟩))
    · skip
      refine j_iconst dX9_partOf_66 (by decide) ?_
      refine j_goto (tgt := 81) dX9_partOf_67 (by decide) ?_
      exact hJ_8 _ (Or.inr (Or.inr (⟨c63_10, rfl⟩)))
  · refine j_tswIn (tgt := 82) 1 s_7 dX9_partOf_21 (by decide) (by decide) rfl (by decide) ?_
    refine j_iload 6 dX9_partOf_82 rfl ?_
    refine j_iload_n 2 dX9_partOf_84 rfl rfl ?_
    have hJ_12 : ∀ zz : Int, (r_1 ≤ n ∧ r_4 ≤ n ∧ zz = 0) ∨ (r_1 ≤ n ∧ ¬ (r_4 ≤ n) ∧ zz = 1) ∨ (¬ (r_1 ≤ n) ∧ zz = 2) → jG D_X9_partOf X FJ shJ 0 0 (jqI (q_X9_partOf M s n h m d)) 103 [(0, jR 74), (1, jI s), (2, jI n), (3, jI h), (4, jI m), (5, jI d), (6, jI r_1), (7, jI r_4)] (jI zz :: []) M := by
      intro t_13 et_13
      refine j_iret rfl rfl rfl rfl dX9_partOf_103 ?_
      refine ⟨?_, rfl⟩
      unfold eTest
      (repeat' split at *) <;> omega
    refine j_icmp_le (tgt := 92) dX9_partOf_85 (by decide) (fun c85_14 => ?_) (fun c85_14 => ?_)
    · skip
      refine j_iload 7 dX9_partOf_92 rfl ?_
      refine j_iload_n 2 dX9_partOf_94 rfl rfl ?_
      refine j_icmp_le (tgt := 102) dX9_partOf_95 (by decide) (fun c95_15 => ?_) (fun c95_15 => ?_)
      · skip
        refine j_iconst dX9_partOf_102 (by decide) ?_
        exact hJ_12 _ (Or.inl ⟨c85_14, c95_15, rfl⟩)
      · skip
        refine j_iconst dX9_partOf_98 (by decide) ?_
        refine j_goto (tgt := 103) dX9_partOf_99 (by decide) ?_
        exact hJ_12 _ (Or.inr (Or.inl ⟨c85_14, c95_15, rfl⟩))
    · skip
      refine j_iconst dX9_partOf_88 (by decide) ?_
      refine j_goto (tgt := 103) dX9_partOf_89 (by decide) ?_
      exact hJ_12 _ (Or.inr (Or.inr (⟨c85_14, rfl⟩)))
  · refine j_tswIn (tgt := 104) 2 s_7 dX9_partOf_21 (by decide) (by decide) rfl (by decide) ?_
    refine j_iload 6 dX9_partOf_104 rfl ?_
    refine j_iload_n 2 dX9_partOf_106 rfl rfl ?_
    refine j_icmp_ne (tgt := 120) dX9_partOf_107 (by decide) (fun c107_16 => ?_) (fun c107_16 => ?_)
    · skip
      refine j_iload_n 2 dX9_partOf_120 rfl rfl ?_
      refine j_iload 6 dX9_partOf_121 rfl ?_
      refine j_iload 7 dX9_partOf_123 rfl ?_
      refine j_callSi l_X9_137 ⟨Nat.le_of_ble_eq_true rfl, Nat.le_of_ble_eq_true rfl⟩ ⟨rfl, rfl⟩ dX9_partOf_125 (c_X9_in M n r_1 r_4) rfl rfl (Nat.le_of_ble_eq_true rfl) (fun r_17 M_18 h_19 => ?_)
      obtain ⟨er_17, nh_19⟩ := h_19
      refine j_eqM nh_19 ?_
      clear nh_19
      have hJ_20 : ∀ zz : Int, (r_17 = 0 ∧ zz = 0) ∨ (¬ r_17 = 0 ∧ zz = 1) → jG D_X9_partOf X FJ shJ 0 0 (jqI (q_X9_partOf M s n h m d)) 136 [(0, jR 74), (1, jI s), (2, jI n), (3, jI h), (4, jI m), (5, jI d), (6, jI r_1), (7, jI r_4)] (jI zz :: []) M := by
        intro t_21 et_21
        refine j_iret rfl rfl rfl rfl dX9_partOf_136 ?_
        refine ⟨?_, rfl⟩
        unfold eTest
        (repeat' split at *) <;> omega
      refine j_if_eq (tgt := 135) dX9_partOf_128 (by decide) (fun c128_22 => ?_) (fun c128_22 => ?_)
      · skip
        refine j_iconst dX9_partOf_135 (by decide) ?_
        exact hJ_20 _ (Or.inl ⟨c128_22, rfl⟩)
      · skip
        refine j_iconst dX9_partOf_131 (by decide) ?_
        refine j_goto (tgt := 136) dX9_partOf_132 (by decide) ?_
        exact hJ_20 _ (Or.inr (⟨c128_22, rfl⟩))
    · skip
      refine j_iload 7 dX9_partOf_110 rfl ?_
      refine j_iload_n 2 dX9_partOf_112 rfl rfl ?_
      refine j_icmp_ne (tgt := 120) dX9_partOf_113 (by decide) (fun c113_23 => ?_) (fun c113_23 => ?_)
      · skip
        refine j_iload_n 2 dX9_partOf_120 rfl rfl ?_
        refine j_iload 6 dX9_partOf_121 rfl ?_
        refine j_iload 7 dX9_partOf_123 rfl ?_
        refine j_callSi l_X9_137 ⟨Nat.le_of_ble_eq_true rfl, Nat.le_of_ble_eq_true rfl⟩ ⟨rfl, rfl⟩ dX9_partOf_125 (c_X9_in M n r_1 r_4) rfl rfl (Nat.le_of_ble_eq_true rfl) (fun r_24 M_25 h_26 => ?_)
        obtain ⟨er_24, nh_26⟩ := h_26
        refine j_eqM nh_26 ?_
        clear nh_26
        have hJ_27 : ∀ zz : Int, (r_24 = 0 ∧ zz = 0) ∨ (¬ r_24 = 0 ∧ zz = 1) → jG D_X9_partOf X FJ shJ 0 0 (jqI (q_X9_partOf M s n h m d)) 136 [(0, jR 74), (1, jI s), (2, jI n), (3, jI h), (4, jI m), (5, jI d), (6, jI r_1), (7, jI r_4)] (jI zz :: []) M := by
          intro t_28 et_28
          refine j_iret rfl rfl rfl rfl dX9_partOf_136 ?_
          refine ⟨?_, rfl⟩
          unfold eTest
          (repeat' split at *) <;> omega
        refine j_if_eq (tgt := 135) dX9_partOf_128 (by decide) (fun c128_29 => ?_) (fun c128_29 => ?_)
        · skip
          refine j_iconst dX9_partOf_135 (by decide) ?_
          exact hJ_27 _ (Or.inl ⟨c128_29, rfl⟩)
        · skip
          refine j_iconst dX9_partOf_131 (by decide) ?_
          refine j_goto (tgt := 136) dX9_partOf_132 (by decide) ?_
          exact hJ_27 _ (Or.inr (⟨c128_29, rfl⟩))
      · skip
        refine j_iconst dX9_partOf_116 (by decide) ?_
        refine j_goto (tgt := 136) dX9_partOf_117 (by decide) ?_
        refine j_iret rfl rfl rfl rfl dX9_partOf_136 ?_
        refine ⟨?_, rfl⟩
        unfold eTest
        (repeat' split at *) <;> omega
  · refine j_tswIn (tgt := 137) 3 s_7 dX9_partOf_21 (by decide) (by decide) rfl (by decide) ?_
    refine j_aload_n 0 dX9_partOf_137 rfl rfl ?_
    refine j_getr f_X9_26 r_74_9 dX9_partOf_138 ?_
    refine j_iload_n 3 dX9_partOf_141 rfl rfl ?_
    refine j_iald a_80 dX9_partOf_142 (by omega) (by omega) ?_
    have g_30 := h_rkind h
    refine j_iload_n 2 dX9_partOf_143 rfl rfl ?_
    have hJ_31 : ∀ zz : Int, (¬ (M 80 h) = n ∧ zz = 0) ∨ ((M 80 h) = n ∧ zz = 2) → jG D_X9_partOf X FJ shJ 0 0 (jqI (q_X9_partOf M s n h m d)) 152 [(0, jR 74), (1, jI s), (2, jI n), (3, jI h), (4, jI m), (5, jI d), (6, jI r_1), (7, jI r_4)] (jI zz :: []) M := by
      intro t_32 et_32
      refine j_iret rfl rfl rfl rfl dX9_partOf_152 ?_
      refine ⟨?_, rfl⟩
      unfold eTest
      (repeat' split at *) <;> omega
    refine j_icmp_ne (tgt := 151) dX9_partOf_144 (by decide) (fun c144_33 => ?_) (fun c144_33 => ?_)
    · skip
      refine j_iconst dX9_partOf_151 (by decide) ?_
      exact hJ_31 _ (Or.inl ⟨c144_33, rfl⟩)
    · skip
      refine j_iconst dX9_partOf_147 (by decide) ?_
      refine j_goto (tgt := 152) dX9_partOf_148 (by decide) ?_
      exact hJ_31 _ (Or.inr (⟨c144_33, rfl⟩))
  · refine j_tswIn (tgt := 153) 4 s_7 dX9_partOf_21 (by decide) (by decide) rfl (by decide) ?_
    refine j_aload_n 0 dX9_partOf_153 rfl rfl ?_
    refine j_getr f_X9_13 r_74_4 dX9_partOf_154 ?_
    refine j_iload 4 dX9_partOf_157 rfl ?_
    refine j_iald a_76 dX9_partOf_159 (by omega) (by omega) ?_
    have g_34 := h_rtrade m
    refine j_iload_n 2 dX9_partOf_160 rfl rfl ?_
    have hJ_35 : ∀ zz : Int, (¬ (M 76 m) = n ∧ zz = 0) ∨ ((M 76 m) = n ∧ zz = 2) → jG D_X9_partOf X FJ shJ 0 0 (jqI (q_X9_partOf M s n h m d)) 169 [(0, jR 74), (1, jI s), (2, jI n), (3, jI h), (4, jI m), (5, jI d), (6, jI r_1), (7, jI r_4)] (jI zz :: []) M := by
      intro t_36 et_36
      refine j_iret rfl rfl rfl rfl dX9_partOf_169 ?_
      refine ⟨?_, rfl⟩
      unfold eTest
      (repeat' split at *) <;> omega
    refine j_icmp_ne (tgt := 168) dX9_partOf_161 (by decide) (fun c161_37 => ?_) (fun c161_37 => ?_)
    · skip
      refine j_iconst dX9_partOf_168 (by decide) ?_
      exact hJ_35 _ (Or.inl ⟨c161_37, rfl⟩)
    · skip
      refine j_iconst dX9_partOf_164 (by decide) ?_
      refine j_goto (tgt := 169) dX9_partOf_165 (by decide) ?_
      exact hJ_35 _ (Or.inr (⟨c161_37, rfl⟩))
  · refine j_tswIn (tgt := 170) 5 s_7 dX9_partOf_21 (by decide) (by decide) rfl (by decide) ?_
    refine j_iload 4 dX9_partOf_170 rfl ?_
    refine j_iload_n 2 dX9_partOf_172 rfl rfl ?_
    have hJ_38 : ∀ zz : Int, (¬ m = n ∧ zz = 0) ∨ (m = n ∧ zz = 2) → jG D_X9_partOf X FJ shJ 0 0 (jqI (q_X9_partOf M s n h m d)) 181 [(0, jR 74), (1, jI s), (2, jI n), (3, jI h), (4, jI m), (5, jI d), (6, jI r_1), (7, jI r_4)] (jI zz :: []) M := by
      intro t_39 et_39
      refine j_iret rfl rfl rfl rfl dX9_partOf_181 ?_
      refine ⟨?_, rfl⟩
      unfold eTest
      (repeat' split at *) <;> omega
    refine j_icmp_ne (tgt := 180) dX9_partOf_173 (by decide) (fun c173_40 => ?_) (fun c173_40 => ?_)
    · skip
      refine j_iconst dX9_partOf_180 (by decide) ?_
      exact hJ_38 _ (Or.inl ⟨c173_40, rfl⟩)
    · skip
      refine j_iconst dX9_partOf_176 (by decide) ?_
      refine j_goto (tgt := 181) dX9_partOf_177 (by decide) ?_
      exact hJ_38 _ (Or.inr (⟨c173_40, rfl⟩))
  · refine j_tswOut (tgt := 182) dX9_partOf_21 (Or.inl s_7) (by decide) ?_
    refine j_aload_n 0 dX9_partOf_182 rfl rfl ?_
    refine j_getr f_X9_32 r_74_11 dX9_partOf_183 ?_
    refine j_iload_n 3 dX9_partOf_186 rfl rfl ?_
    refine j_iald a_82 dX9_partOf_187 (by omega) (by omega) ?_
    have g_41 := h_rpapers h
    have hJ_42 : ∀ zz : Int, ((M 82 h) ≤ 0 ∧ zz = 0) ∨ (¬ ((M 82 h) ≤ 0) ∧ zz = 2) → jG D_X9_partOf X FJ shJ 0 0 (jqI (q_X9_partOf M s n h m d)) 196 [(0, jR 74), (1, jI s), (2, jI n), (3, jI h), (4, jI m), (5, jI d), (6, jI r_1), (7, jI r_4)] (jI zz :: []) M := by
      intro t_43 et_43
      refine j_iret rfl rfl rfl rfl dX9_partOf_196 ?_
      refine ⟨?_, rfl⟩
      unfold eTest
      (repeat' split at *) <;> omega
    refine j_if_le (tgt := 195) dX9_partOf_188 (by decide) (fun c188_44 => ?_) (fun c188_44 => ?_)
    · skip
      refine j_iconst dX9_partOf_195 (by decide) ?_
      exact hJ_42 _ (Or.inl ⟨c188_44, rfl⟩)
    · skip
      refine j_iconst dX9_partOf_191 (by decide) ?_
      refine j_goto (tgt := 196) dX9_partOf_192 (by decide) ?_
      exact hJ_42 _ (Or.inr (⟨c188_44, rfl⟩))
  · refine j_tswOut (tgt := 182) dX9_partOf_21 (Or.inr s_7) (by decide) ?_
    refine j_aload_n 0 dX9_partOf_182 rfl rfl ?_
    refine j_getr f_X9_32 r_74_11 dX9_partOf_183 ?_
    refine j_iload_n 3 dX9_partOf_186 rfl rfl ?_
    refine j_iald a_82 dX9_partOf_187 (by omega) (by omega) ?_
    have g_45 := h_rpapers h
    have hJ_46 : ∀ zz : Int, ((M 82 h) ≤ 0 ∧ zz = 0) ∨ (¬ ((M 82 h) ≤ 0) ∧ zz = 2) → jG D_X9_partOf X FJ shJ 0 0 (jqI (q_X9_partOf M s n h m d)) 196 [(0, jR 74), (1, jI s), (2, jI n), (3, jI h), (4, jI m), (5, jI d), (6, jI r_1), (7, jI r_4)] (jI zz :: []) M := by
      intro t_47 et_47
      refine j_iret rfl rfl rfl rfl dX9_partOf_196 ?_
      refine ⟨?_, rfl⟩
      unfold eTest
      (repeat' split at *) <;> omega
    refine j_if_le (tgt := 195) dX9_partOf_188 (by decide) (fun c188_48 => ?_) (fun c188_48 => ?_)
    · skip
      refine j_iconst dX9_partOf_195 (by decide) ?_
      exact hJ_46 _ (Or.inl ⟨c188_48, rfl⟩)
    · skip
      refine j_iconst dX9_partOf_191 (by decide) ?_
      refine j_goto (tgt := 196) dX9_partOf_192 (by decide) ?_
      exact hJ_46 _ (Or.inr (⟨c188_48, rfl⟩))
abbrev q_X9_joins (M : jM)  (s a b : Int) : Int → jM → Prop := fun r N => r = (if s = 38 then min a b else max a b) ∧ N = M
set_option maxHeartbeats 4000000 in
set_option maxRecDepth 20000 in
theorem c_X9_joins {X : jX} (M : jM)  (s a b : Int)  : jC yX9_joins D_X9_joins X FJ shJ [jI s, jI a, jI b] M (jqI (q_X9_joins M s a b)) := by
  refine jC_of (by decide) rfl (fun ad => Nat.le_of_ble_eq_true rfl) (by decide) ?_
  show jG D_X9_joins X FJ shJ 0 0 (jqI (q_X9_joins M s a b)) 0 [(0, jI s), (1, jI a), (2, jI b)] [] M
  refine j_iload_n 0 dX9_joins_0 rfl rfl ?_
  refine j_bipush dX9_joins_1 (by decide) ?_
  have hJ_1 : ∀ zz : Int, (¬ s = 38 ∧ a ≤ b ∧ zz = b) ∨ (¬ s = 38 ∧ ¬ (a ≤ b) ∧ zz = a) ∨ (s = 38 ∧ b ≤ a ∧ zz = b) ∨ (s = 38 ∧ ¬ (b ≤ a) ∧ zz = a) → jG D_X9_joins X FJ shJ 0 0 (jqI (q_X9_joins M s a b)) 29 [(0, jI s), (1, jI a), (2, jI b)] (jI zz :: []) M := by
    intro t_2 et_2
    refine j_iret rfl rfl rfl rfl dX9_joins_29 ?_
    exact ⟨by split <;> omega, rfl⟩
  refine j_icmp_ne (tgt := 19) dX9_joins_3 (by decide) (fun c3_3 => ?_) (fun c3_3 => ?_)
  · skip
    refine j_iload_n 1 dX9_joins_19 rfl rfl ?_
    refine j_iload_n 2 dX9_joins_20 rfl rfl ?_
    refine j_icmp_le (tgt := 28) dX9_joins_21 (by decide) (fun c21_4 => ?_) (fun c21_4 => ?_)
    · skip
      refine j_iload_n 2 dX9_joins_28 rfl rfl ?_
      exact hJ_1 _ (Or.inl ⟨c3_3, c21_4, rfl⟩)
    · skip
      refine j_iload_n 1 dX9_joins_24 rfl rfl ?_
      refine j_goto (tgt := 29) dX9_joins_25 (by decide) ?_
      exact hJ_1 _ (Or.inr (Or.inl ⟨c3_3, c21_4, rfl⟩))
  · skip
    refine j_iload_n 1 dX9_joins_6 rfl rfl ?_
    refine j_iload_n 2 dX9_joins_7 rfl rfl ?_
    refine j_icmp_ge (tgt := 15) dX9_joins_8 (by decide) (fun c8_5 => ?_) (fun c8_5 => ?_)
    · skip
      refine j_iload_n 2 dX9_joins_15 rfl rfl ?_
      refine j_goto (tgt := 29) dX9_joins_16 (by decide) ?_
      exact hJ_1 _ (Or.inr (Or.inr (Or.inl ⟨c3_3, c8_5, rfl⟩)))
    · skip
      refine j_iload_n 1 dX9_joins_11 rfl rfl ?_
      refine j_goto (tgt := 29) dX9_joins_12 (by decide) ?_
      exact hJ_1 _ (Or.inr (Or.inr (Or.inr (⟨c3_3, c8_5, rfl⟩))))
abbrev q_X0_knows (M : jM) (f : Int) (hf : jA f) (r0 : Int) : Int → jM → Prop := fun r N => ((r = 1 ∧ (0 ≤ r0 ∧ r0 < M f 0)) ∨ (r = 0 ∧ ¬ (0 ≤ r0 ∧ r0 < M f 0))) ∧ N = M
set_option maxHeartbeats 4000000 in
set_option maxRecDepth 20000 in
theorem c_X0_knows {X : jX} (M : jM) (f : Int) (hf : jA f) (r0 : Int)  : jC yX0_knows D_X0_knows X FJ shJ [jR f, jI r0] M (jqI (q_X0_knows M f hf r0)) := by
  refine jC_of (by decide) rfl (fun ad => Nat.le_of_ble_eq_true rfl) (by decide) ?_
  show jG D_X0_knows X FJ shJ 0 0 (jqI (q_X0_knows M f hf r0)) 0 [(0, jR f), (1, jI r0)] [] M
  refine j_iload_n 1 dX0_knows_0 rfl rfl ?_
  have hJ_1 : ∀ zz : Int, (r0 < 0 ∧ zz = 0) ∨ (¬ (r0 < 0) ∧ (M f 0) ≤ r0 ∧ zz = 0) ∨ (¬ (r0 < 0) ∧ ¬ ((M f 0) ≤ r0) ∧ zz = 1) → jG D_X0_knows X FJ shJ 0 0 (jqI (q_X0_knows M f hf r0)) 17 [(0, jR f), (1, jI r0)] (jI zz :: []) M := by
    intro t_2 et_2
    refine j_zret rfl rfl rfl rfl dX0_knows_17 (by omega) ?_
    exact ⟨by omega, rfl⟩
  refine j_if_lt (tgt := 16) dX0_knows_1 (by decide) (fun c1_3 => ?_) (fun c1_3 => ?_)
  · skip
    refine j_iconst dX0_knows_16 (by decide) ?_
    exact hJ_1 _ (Or.inl ⟨c1_3, rfl⟩)
  · skip
    refine j_iload_n 1 dX0_knows_4 rfl rfl ?_
    refine j_aload_n 0 dX0_knows_5 rfl rfl ?_
    refine j_geti (k' := 0) f_X0_53 (oa_0 hf) dX0_knows_6 rfl ?_
    refine j_icmp_ge (tgt := 16) dX0_knows_9 (by decide) (fun c9_4 => ?_) (fun c9_4 => ?_)
    · skip
      refine j_iconst dX0_knows_16 (by decide) ?_
      exact hJ_1 _ (Or.inr (Or.inl ⟨c1_3, c9_4, rfl⟩))
    · skip
      refine j_iconst dX0_knows_12 (by decide) ?_
      refine j_goto (tgt := 17) dX0_knows_13 (by decide) ?_
      exact hJ_1 _ (Or.inr (Or.inr (⟨c1_3, c9_4, rfl⟩)))
