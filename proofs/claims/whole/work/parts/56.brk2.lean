abbrev q_X9_isBroken (M : jM)  (k o s : Int) : Int → jM → Prop := fun r N => ((r = 1 ∧ rBr M k o s) ∨ (r = 0 ∧ ¬ rBr M k o s)) ∧ ∀ c, c ≠ 87 → c ≠ 88 → N c = M c
set_option maxHeartbeats 4000000 in
set_option maxRecDepth 20000 in
theorem c_X9_isBroken {X : jX} (M : jM)  (k o s : Int) (h_rlhand : ∀ i, 0 ≤ M 89 i ∧ M 89 i ≤ 23) (h_rlday : ∀ i, 0 ≤ M 90 i ∧ M 90 i ≤ 359) (h_rlwhere : ∀ i, M 91 i = -9 ∨ (0 ≤ M 91 i ∧ M 91 i < 6)) (h_rlines : 0 ≤ M 74 27 ∧ M 74 27 ≤ 60) (h_rpapers : ∀ i, 0 ≤ M 82 i ∧ M 82 i ≤ 3) (h_rchecks : ∀ i, 0 ≤ M 94 i ∧ M 94 i ≤ 4) (h_rcerr : ∀ i, -90 ≤ M 96 i ∧ M 96 i ≤ 90) (h_rlin : ∀ i, 0 ≤ M 92 i ∧ M 92 i ≤ 1439) (h_rlout : ∀ i, 0 ≤ M 93 i ∧ M 93 i ≤ 1440) (h_rkind : ∀ i, 0 ≤ M 80 i ∧ M 80 i ≤ 5) (h_rgrade : ∀ i, 0 ≤ M 81 i ∧ M 81 i ≤ 3) (h_rtrade : ∀ i, 0 ≤ M 76 i ∧ M 76 i ≤ 3) (h_rpaper : pOk (M 83)) (h0 : 0 ≤ k ∧ k < 60) (hs : s = 0 ∨ s = 1) (hw : ¬ M 91 k = -9) (hA : rAct M) : jC yX9_isBroken D_X9_isBroken X FJ shJ [jR 74, jI k, jI o, jI s] M (jqI (q_X9_isBroken M k o s)) := by
  refine jC_of (by decide) rfl (fun ad => Nat.le_of_ble_eq_true rfl) (by decide) ?_
  show jG D_X9_isBroken X FJ shJ 0 0 (jqI (q_X9_isBroken M k o s)) 0 [(0, jR 74), (1, jI k), (2, jI o), (3, jI s)] [] M
  have x1 := h_rlwhere k
  have x2 := h_rlhand k
  have x3 := h_rlday k
  refine j_aload_n 0 dX9_isBroken_0 rfl rfl ?_
  refine j_getr f_X9_53 r_74_28 dX9_isBroken_1 ?_
  refine j_iload_n 1 dX9_isBroken_4 rfl rfl ?_
  refine j_iald a_89 dX9_isBroken_5 (by omega) (by omega) ?_
  have g_1 := h_rlhand k
  refine j_nm (fun v4_2 ev4_2 => ?_)
  refine j_istore (ls' := [(0, jR 74), (1, jI k), (2, jI o), (3, jI s), (4, jI v4_2)]) dX9_isBroken_6 (by decide) rfl ?_
  refine j_aload_n 0 dX9_isBroken_8 rfl rfl ?_
  refine j_getr f_X9_59 r_74_30 dX9_isBroken_9 ?_
  refine j_iload_n 1 dX9_isBroken_12 rfl rfl ?_
  refine j_iald a_91 dX9_isBroken_13 (by omega) (by omega) ?_
  have g_3 := h_rlwhere k
  refine j_nm (fun v5_4 ev5_4 => ?_)
  refine j_istore (ls' := [(0, jR 74), (1, jI k), (2, jI o), (3, jI s), (4, jI v4_2), (5, jI v5_4)]) dX9_isBroken_14 (by decide) rfl ?_
  refine j_aload_n 0 dX9_isBroken_16 rfl rfl ?_
  refine j_getr f_X9_56 r_74_29 dX9_isBroken_17 ?_
  refine j_iload_n 1 dX9_isBroken_20 rfl rfl ?_
  refine j_iald a_90 dX9_isBroken_21 (by omega) (by omega) ?_
  have g_5 := h_rlday k
  refine j_nm (fun v6_6 ev6_6 => ?_)
  refine j_istore (ls' := [(0, jR 74), (1, jI k), (2, jI o), (3, jI s), (4, jI v4_2), (5, jI v5_4), (6, jI v6_6)]) dX9_isBroken_22 (by decide) rfl ?_
  refine j_iconst dX9_isBroken_24 (by decide) ?_
  refine j_iload_n 3 dX9_isBroken_25 rfl rfl ?_
  refine j_isub dX9_isBroken_26 (by omega) ?_
  refine j_nm (fun v7_7 ev7_7 => ?_)
  refine j_istore (ls' := [(0, jR 74), (1, jI k), (2, jI o), (3, jI s), (4, jI v4_2), (5, jI v5_4), (6, jI v6_6), (7, jI v7_7)]) dX9_isBroken_27 (by decide) rfl ?_
  refine j_iload_n 2 dX9_isBroken_29 rfl rfl ?_
  rcases (show o = 0 ∨ o = 1 ∨ o = 2 ∨ o = 3 ∨ o = 4 ∨ o < 0 ∨ 4 < o from by omega) with s_8 | s_8 | s_8 | s_8 | s_8 | s_8 | s_8
  · refine j_tswIn (tgt := 64) 0 s_8 dX9_isBroken_30 (by decide) (by decide) rfl (by decide) ?_
    refine j_aload_n 0 dX9_isBroken_64 rfl rfl ?_
    refine j_iload 4 dX9_isBroken_65 rfl ?_
    refine j_iload 6 dX9_isBroken_67 rfl ?_
    refine j_iload 7 dX9_isBroken_69 rfl ?_
    refine j_callVi l_X9_293 ⟨Nat.le_of_ble_eq_true rfl, Nat.le_of_ble_eq_true rfl⟩ ⟨rfl, rfl⟩ dX9_isBroken_71 ob_74 (c_X9_workOf M v4_2 v6_6 v7_7 h_rlines h_rchecks h_rcerr h_rlwhere h_rlin h_rlout (by omega)) rfl rfl (Nat.le_of_ble_eq_true rfl) (fun r_9 M_10 h_11 => ?_)
    obtain ⟨er_9, nh_11⟩ := h_11
    refine j_eqM nh_11 ?_
    clear nh_11
    refine j_aload_n 0 dX9_isBroken_74 rfl rfl ?_
    refine j_iload 4 dX9_isBroken_75 rfl ?_
    refine j_iload 5 dX9_isBroken_77 rfl ?_
    refine j_iload 6 dX9_isBroken_79 rfl ?_
    refine j_iconst dX9_isBroken_81 (by decide) ?_
    refine j_iload_n 3 dX9_isBroken_82 rfl rfl ?_
    refine j_callVi l_X9_272 ⟨Nat.le_of_ble_eq_true rfl, Nat.le_of_ble_eq_true rfl⟩ ⟨rfl, rfl⟩ dX9_isBroken_83 ob_74 (c_X9_dutyOf M v4_2 v5_4 v6_6 0 s h_rkind h_rgrade h_rpapers h_rtrade h_rpaper (by omega) (by omega) (by omega) (by omega) hA) rfl rfl (Nat.le_of_ble_eq_true rfl) (fun r_12 M_13 h_14 => ?_)
    obtain ⟨ed, frh_14⟩ := h_14
    have hJ_15 : ∀ zz : Int, (r_9 ≤ r_12 ∧ zz = 0) ∨ (¬ (r_9 ≤ r_12) ∧ zz = 1) → jG D_X9_isBroken X FJ shJ 0 0 (jqI (q_X9_isBroken M k o s)) 94 [(0, jR 74), (1, jI k), (2, jI o), (3, jI s), (4, jI v4_2), (5, jI v5_4), (6, jI v6_6), (7, jI v7_7)] (jI zz :: []) M_13 := by
      intro t_16 et_16
      refine j_zret rfl rfl rfl rfl dX9_isBroken_94 (by omega) ?_
      refine ⟨?_, (by first | exact frh_14 | exact fun c z1 z2 => (frh_14 c z1 z2).trans (f1 c z1 z2))⟩
      subst ev4_2 ev5_4 ev6_6 ev7_7
      unfold rBr
      (first | (rw [if_pos (by omega)]) | (rw [if_neg (by omega), if_pos (by omega)]) | (rw [if_neg (by omega), if_neg (by omega), if_pos (by omega)]) | (rw [if_neg (by omega), if_neg (by omega), if_neg (by omega), if_pos (by omega)]) | (rw [if_neg (by omega), if_neg (by omega), if_neg (by omega), if_neg (by omega), if_pos (by omega)]) | (rw [if_neg (by omega), if_neg (by omega), if_neg (by omega), if_neg (by omega), if_neg (by omega)])) <;> omega
    refine j_icmp_le (tgt := 93) dX9_isBroken_86 (by decide) (fun c86_17 => ?_) (fun c86_17 => ?_)
    · skip
      refine j_iconst dX9_isBroken_93 (by decide) ?_
      exact hJ_15 _ (Or.inl ⟨c86_17, rfl⟩)
    · skip
      refine j_iconst dX9_isBroken_89 (by decide) ?_
      refine j_goto (tgt := 94) dX9_isBroken_90 (by decide) ?_
      exact hJ_15 _ (Or.inr (⟨c86_17, rfl⟩))
  · refine j_tswIn (tgt := 95) 1 s_8 dX9_isBroken_30 (by decide) (by decide) rfl (by decide) ?_
    refine j_aload_n 0 dX9_isBroken_95 rfl rfl ?_
    refine j_iload_n 1 dX9_isBroken_96 rfl rfl ?_
    refine j_iload_n 3 dX9_isBroken_97 rfl rfl ?_
    refine j_callVi l_X9_284 ⟨Nat.le_of_ble_eq_true rfl, Nat.le_of_ble_eq_true rfl⟩ ⟨rfl, rfl⟩ dX9_isBroken_98 ob_74 (c_X9_inOf M k s h_rchecks h_rcerr h_rlwhere h_rlin (by omega)) rfl rfl (Nat.le_of_ble_eq_true rfl) (fun r_18 M_19 h_20 => ?_)
    obtain ⟨er_18, nh_20⟩ := h_20
    refine j_eqM nh_20 ?_
    clear nh_20
    refine j_aload_n 0 dX9_isBroken_101 rfl rfl ?_
    refine j_iload 4 dX9_isBroken_102 rfl ?_
    refine j_iload 5 dX9_isBroken_104 rfl ?_
    refine j_iload 6 dX9_isBroken_106 rfl ?_
    refine j_iconst dX9_isBroken_108 (by decide) ?_
    refine j_iload_n 3 dX9_isBroken_109 rfl rfl ?_
    refine j_callVi l_X9_272 ⟨Nat.le_of_ble_eq_true rfl, Nat.le_of_ble_eq_true rfl⟩ ⟨rfl, rfl⟩ dX9_isBroken_110 ob_74 (c_X9_dutyOf M v4_2 v5_4 v6_6 1 s h_rkind h_rgrade h_rpapers h_rtrade h_rpaper (by omega) (by omega) (by omega) (by omega) hA) rfl rfl (Nat.le_of_ble_eq_true rfl) (fun r_21 M_22 h_23 => ?_)
    obtain ⟨ed, frh_23⟩ := h_23
    have ed1 := ed
    have k1 := nK_fr frh_23
    have f1 := frh_23
    refine j_icmp_lt (tgt := 138) dX9_isBroken_113 (by decide) (fun c113_24 => ?_) (fun c113_24 => ?_)
    · skip
      refine j_iconst dX9_isBroken_138 (by decide) ?_
      refine j_goto (tgt := 143) dX9_isBroken_139 (by decide) ?_
      refine j_zret rfl rfl rfl rfl dX9_isBroken_143 (by omega) ?_
      refine ⟨?_, (by first | exact frh_23 | exact fun c z1 z2 => (frh_23 c z1 z2).trans (f1 c z1 z2))⟩
      subst ev4_2 ev5_4 ev6_6 ev7_7
      unfold rBr
      (first | (rw [if_pos (by omega)]) | (rw [if_neg (by omega), if_pos (by omega)]) | (rw [if_neg (by omega), if_neg (by omega), if_pos (by omega)]) | (rw [if_neg (by omega), if_neg (by omega), if_neg (by omega), if_pos (by omega)]) | (rw [if_neg (by omega), if_neg (by omega), if_neg (by omega), if_neg (by omega), if_pos (by omega)]) | (rw [if_neg (by omega), if_neg (by omega), if_neg (by omega), if_neg (by omega), if_neg (by omega)])) <;> omega
    · skip
      refine j_aload_n 0 dX9_isBroken_116 rfl rfl ?_
      refine j_iload_n 1 dX9_isBroken_117 rfl rfl ?_
      refine j_iload 7 dX9_isBroken_118 rfl ?_
      refine j_callVi l_X9_281 ⟨Nat.le_of_ble_eq_true rfl, Nat.le_of_ble_eq_true rfl⟩ ⟨rfl, rfl⟩ dX9_isBroken_120 ob_74 (c_X9_outOf M_22 k v7_7 (by rw [(frh_23 94 (by decide) (by decide))]; exact h_rchecks) (by rw [(frh_23 96 (by decide) (by decide))]; exact h_rcerr) (by rw [(frh_23 91 (by decide) (by decide))]; exact h_rlwhere) (by rw [(frh_23 93 (by decide) (by decide))]; exact h_rlout) (by omega)) rfl rfl (Nat.le_of_ble_eq_true rfl) (fun r_25 M_26 h_27 => ?_)
      obtain ⟨er_25, nh_27⟩ := h_27
      refine j_eqM nh_27 ?_
      clear nh_27
      simp only [(frh_23 94 (by decide) (by decide)), (frh_23 95 (by decide) (by decide)), (frh_23 96 (by decide) (by decide)), (frh_23 91 (by decide) (by decide)), (frh_23 93 (by decide) (by decide))] at er_25
      refine j_aload_n 0 dX9_isBroken_123 rfl rfl ?_
      refine j_iload 4 dX9_isBroken_124 rfl ?_
      refine j_iload 5 dX9_isBroken_126 rfl ?_
      refine j_iload 6 dX9_isBroken_128 rfl ?_
      refine j_iconst dX9_isBroken_130 (by decide) ?_
      refine j_iload_n 3 dX9_isBroken_131 rfl rfl ?_
      refine j_callVi l_X9_272 ⟨Nat.le_of_ble_eq_true rfl, Nat.le_of_ble_eq_true rfl⟩ ⟨rfl, rfl⟩ dX9_isBroken_132 ob_74 (c_X9_dutyOf M_22 v4_2 v5_4 v6_6 2 s (by rw [(frh_23 80 (by decide) (by decide))]; exact h_rkind) (by rw [(frh_23 81 (by decide) (by decide))]; exact h_rgrade) (by rw [(frh_23 82 (by decide) (by decide))]; exact h_rpapers) (by rw [(frh_23 76 (by decide) (by decide))]; exact h_rtrade) (by rw [(frh_23 83 (by decide) (by decide))]; exact h_rpaper) (by omega) (by omega) (by omega) (by omega) (rAct_cg k1 hA)) rfl rfl (Nat.le_of_ble_eq_true rfl) (fun r_28 M_29 h_30 => ?_)
      obtain ⟨ed, frh_30⟩ := h_30
      rw [rD_nK k1, k1.2 20 (by decide)] at ed
      have hJ_31 : ∀ zz : Int, (r_25 ≤ r_28 ∧ zz = 0) ∨ (¬ (r_25 ≤ r_28) ∧ zz = 1) → jG D_X9_isBroken X FJ shJ 0 0 (jqI (q_X9_isBroken M k o s)) 143 [(0, jR 74), (1, jI k), (2, jI o), (3, jI s), (4, jI v4_2), (5, jI v5_4), (6, jI v6_6), (7, jI v7_7)] (jI zz :: []) M_29 := by
        intro t_32 et_32
        refine j_zret rfl rfl rfl rfl dX9_isBroken_143 (by omega) ?_
        refine ⟨?_, (by first | exact frh_30 | exact fun c z1 z2 => (frh_30 c z1 z2).trans (f1 c z1 z2))⟩
        subst ev4_2 ev5_4 ev6_6 ev7_7
        unfold rBr
        (first | (rw [if_pos (by omega)]) | (rw [if_neg (by omega), if_pos (by omega)]) | (rw [if_neg (by omega), if_neg (by omega), if_pos (by omega)]) | (rw [if_neg (by omega), if_neg (by omega), if_neg (by omega), if_pos (by omega)]) | (rw [if_neg (by omega), if_neg (by omega), if_neg (by omega), if_neg (by omega), if_pos (by omega)]) | (rw [if_neg (by omega), if_neg (by omega), if_neg (by omega), if_neg (by omega), if_neg (by omega)])) <;> omega
      refine j_icmp_le (tgt := 142) dX9_isBroken_135 (by decide) (fun c135_33 => ?_) (fun c135_33 => ?_)
      · skip
        refine j_iconst dX9_isBroken_142 (by decide) ?_
        exact hJ_31 _ (Or.inl ⟨c135_33, rfl⟩)
      · skip
        refine j_iconst dX9_isBroken_138 (by decide) ?_
        refine j_goto (tgt := 143) dX9_isBroken_139 (by decide) ?_
        exact hJ_31 _ (Or.inr (⟨c135_33, rfl⟩))
  · refine j_tswIn (tgt := 144) 2 s_8 dX9_isBroken_30 (by decide) (by decide) rfl (by decide) ?_
    refine j_aload_n 0 dX9_isBroken_144 rfl rfl ?_
    refine j_iload 4 dX9_isBroken_145 rfl ?_
    refine j_iload 6 dX9_isBroken_147 rfl ?_
    refine j_iconst dX9_isBroken_149 (by decide) ?_
    refine j_callVi l_X9_293 ⟨Nat.le_of_ble_eq_true rfl, Nat.le_of_ble_eq_true rfl⟩ ⟨rfl, rfl⟩ dX9_isBroken_150 ob_74 (c_X9_workOf M v4_2 v6_6 2 h_rlines h_rchecks h_rcerr h_rlwhere h_rlin h_rlout (by omega)) rfl rfl (Nat.le_of_ble_eq_true rfl) (fun r_34 M_35 h_36 => ?_)
    obtain ⟨er_34, nh_36⟩ := h_36
    refine j_eqM nh_36 ?_
    clear nh_36
    refine j_aload_n 0 dX9_isBroken_153 rfl rfl ?_
    refine j_iload 4 dX9_isBroken_154 rfl ?_
    refine j_iload 5 dX9_isBroken_156 rfl ?_
    refine j_iload 6 dX9_isBroken_158 rfl ?_
    refine j_iconst dX9_isBroken_160 (by decide) ?_
    refine j_iload_n 3 dX9_isBroken_161 rfl rfl ?_
    refine j_callVi l_X9_272 ⟨Nat.le_of_ble_eq_true rfl, Nat.le_of_ble_eq_true rfl⟩ ⟨rfl, rfl⟩ dX9_isBroken_162 ob_74 (c_X9_dutyOf M v4_2 v5_4 v6_6 3 s h_rkind h_rgrade h_rpapers h_rtrade h_rpaper (by omega) (by omega) (by omega) (by omega) hA) rfl rfl (Nat.le_of_ble_eq_true rfl) (fun r_37 M_38 h_39 => ?_)
    obtain ⟨ed, frh_39⟩ := h_39
    have hJ_40 : ∀ zz : Int, (r_37 ≤ r_34 ∧ zz = 0) ∨ (¬ (r_37 ≤ r_34) ∧ zz = 1) → jG D_X9_isBroken X FJ shJ 0 0 (jqI (q_X9_isBroken M k o s)) 173 [(0, jR 74), (1, jI k), (2, jI o), (3, jI s), (4, jI v4_2), (5, jI v5_4), (6, jI v6_6), (7, jI v7_7)] (jI zz :: []) M_38 := by
      intro t_41 et_41
      refine j_zret rfl rfl rfl rfl dX9_isBroken_173 (by omega) ?_
      refine ⟨?_, (by first | exact frh_39 | exact fun c z1 z2 => (frh_39 c z1 z2).trans (f1 c z1 z2))⟩
      subst ev4_2 ev5_4 ev6_6 ev7_7
      unfold rBr
      (first | (rw [if_pos (by omega)]) | (rw [if_neg (by omega), if_pos (by omega)]) | (rw [if_neg (by omega), if_neg (by omega), if_pos (by omega)]) | (rw [if_neg (by omega), if_neg (by omega), if_neg (by omega), if_pos (by omega)]) | (rw [if_neg (by omega), if_neg (by omega), if_neg (by omega), if_neg (by omega), if_pos (by omega)]) | (rw [if_neg (by omega), if_neg (by omega), if_neg (by omega), if_neg (by omega), if_neg (by omega)])) <;> omega
    refine j_icmp_ge (tgt := 172) dX9_isBroken_165 (by decide) (fun c165_42 => ?_) (fun c165_42 => ?_)
    · skip
      refine j_iconst dX9_isBroken_172 (by decide) ?_
      exact hJ_40 _ (Or.inl ⟨c165_42, rfl⟩)
    · skip
      refine j_iconst dX9_isBroken_168 (by decide) ?_
      refine j_goto (tgt := 173) dX9_isBroken_169 (by decide) ?_
      exact hJ_40 _ (Or.inr (⟨c165_42, rfl⟩))
  · refine j_tswIn (tgt := 174) 3 s_8 dX9_isBroken_30 (by decide) (by decide) rfl (by decide) ?_
    refine j_aload_n 0 dX9_isBroken_174 rfl rfl ?_
    refine j_iload_n 1 dX9_isBroken_175 rfl rfl ?_
    refine j_iload 7 dX9_isBroken_176 rfl ?_
    refine j_callVi l_X9_290 ⟨Nat.le_of_ble_eq_true rfl, Nat.le_of_ble_eq_true rfl⟩ ⟨rfl, rfl⟩ dX9_isBroken_178 ob_74 (c_X9_longOf M k v7_7 h_rchecks h_rcerr h_rlwhere h_rlout h_rlin (by omega)) rfl rfl (Nat.le_of_ble_eq_true rfl) (fun r_43 M_44 h_45 => ?_)
    obtain ⟨er_43, nh_45⟩ := h_45
    refine j_eqM nh_45 ?_
    clear nh_45
    refine j_aload_n 0 dX9_isBroken_181 rfl rfl ?_
    refine j_iload 4 dX9_isBroken_182 rfl ?_
    refine j_iload 5 dX9_isBroken_184 rfl ?_
    refine j_iload 6 dX9_isBroken_186 rfl ?_
    refine j_iconst dX9_isBroken_188 (by decide) ?_
    refine j_iload_n 3 dX9_isBroken_189 rfl rfl ?_
    refine j_callVi l_X9_272 ⟨Nat.le_of_ble_eq_true rfl, Nat.le_of_ble_eq_true rfl⟩ ⟨rfl, rfl⟩ dX9_isBroken_190 ob_74 (c_X9_dutyOf M v4_2 v5_4 v6_6 4 s h_rkind h_rgrade h_rpapers h_rtrade h_rpaper (by omega) (by omega) (by omega) (by omega) hA) rfl rfl (Nat.le_of_ble_eq_true rfl) (fun r_46 M_47 h_48 => ?_)
    obtain ⟨ed, frh_48⟩ := h_48
    have hJ_49 : ∀ zz : Int, (r_43 ≤ r_46 ∧ zz = 0) ∨ (¬ (r_43 ≤ r_46) ∧ zz = 1) → jG D_X9_isBroken X FJ shJ 0 0 (jqI (q_X9_isBroken M k o s)) 201 [(0, jR 74), (1, jI k), (2, jI o), (3, jI s), (4, jI v4_2), (5, jI v5_4), (6, jI v6_6), (7, jI v7_7)] (jI zz :: []) M_47 := by
      intro t_50 et_50
      refine j_zret rfl rfl rfl rfl dX9_isBroken_201 (by omega) ?_
      refine ⟨?_, (by first | exact frh_48 | exact fun c z1 z2 => (frh_48 c z1 z2).trans (f1 c z1 z2))⟩
      subst ev4_2 ev5_4 ev6_6 ev7_7
      unfold rBr
      (first | (rw [if_pos (by omega)]) | (rw [if_neg (by omega), if_pos (by omega)]) | (rw [if_neg (by omega), if_neg (by omega), if_pos (by omega)]) | (rw [if_neg (by omega), if_neg (by omega), if_neg (by omega), if_pos (by omega)]) | (rw [if_neg (by omega), if_neg (by omega), if_neg (by omega), if_neg (by omega), if_pos (by omega)]) | (rw [if_neg (by omega), if_neg (by omega), if_neg (by omega), if_neg (by omega), if_neg (by omega)])) <;> omega
    refine j_icmp_le (tgt := 200) dX9_isBroken_193 (by decide) (fun c193_51 => ?_) (fun c193_51 => ?_)
    · skip
      refine j_iconst dX9_isBroken_200 (by decide) ?_
      exact hJ_49 _ (Or.inl ⟨c193_51, rfl⟩)
    · skip
      refine j_iconst dX9_isBroken_196 (by decide) ?_
      refine j_goto (tgt := 201) dX9_isBroken_197 (by decide) ?_
      exact hJ_49 _ (Or.inr (⟨c193_51, rfl⟩))
  · refine j_tswIn (tgt := 202) 4 s_8 dX9_isBroken_30 (by decide) (by decide) rfl (by decide) ?_
    refine j_aload_n 0 dX9_isBroken_202 rfl rfl ?_
    refine j_iload 4 dX9_isBroken_203 rfl ?_
    refine j_iload 5 dX9_isBroken_205 rfl ?_
    refine j_iload 6 dX9_isBroken_207 rfl ?_
    refine j_iconst dX9_isBroken_209 (by decide) ?_
    refine j_iload_n 3 dX9_isBroken_210 rfl rfl ?_
    refine j_callVi l_X9_272 ⟨Nat.le_of_ble_eq_true rfl, Nat.le_of_ble_eq_true rfl⟩ ⟨rfl, rfl⟩ dX9_isBroken_211 ob_74 (c_X9_dutyOf M v4_2 v5_4 v6_6 5 s h_rkind h_rgrade h_rpapers h_rtrade h_rpaper (by omega) (by omega) (by omega) (by omega) hA) rfl rfl (Nat.le_of_ble_eq_true rfl) (fun r_52 M_53 h_54 => ?_)
    obtain ⟨ed, frh_54⟩ := h_54
    refine j_iconst dX9_isBroken_214 (by decide) ?_
    have hJ_55 : ∀ zz : Int, (¬ r_52 = 1 ∧ zz = 0) ∨ (r_52 = 1 ∧ ¬ (M 82 v4_2) = 0 ∧ zz = 0) ∨ (r_52 = 1 ∧ (M 82 v4_2) = 0 ∧ zz = 1) → jG D_X9_isBroken X FJ shJ 0 0 (jqI (q_X9_isBroken M k o s)) 233 [(0, jR 74), (1, jI k), (2, jI o), (3, jI s), (4, jI v4_2), (5, jI v5_4), (6, jI v6_6), (7, jI v7_7)] (jI zz :: []) M_53 := by
      intro t_56 et_56
      refine j_zret rfl rfl rfl rfl dX9_isBroken_233 (by omega) ?_
      refine ⟨?_, (by first | exact frh_54 | exact fun c z1 z2 => (frh_54 c z1 z2).trans (f1 c z1 z2))⟩
      subst ev4_2 ev5_4 ev6_6 ev7_7
      unfold rBr
      (first | (rw [if_pos (by omega)]) | (rw [if_neg (by omega), if_pos (by omega)]) | (rw [if_neg (by omega), if_neg (by omega), if_pos (by omega)]) | (rw [if_neg (by omega), if_neg (by omega), if_neg (by omega), if_pos (by omega)]) | (rw [if_neg (by omega), if_neg (by omega), if_neg (by omega), if_neg (by omega), if_pos (by omega)]) | (rw [if_neg (by omega), if_neg (by omega), if_neg (by omega), if_neg (by omega), if_neg (by omega)])) <;> omega
    refine j_icmp_ne (tgt := 232) dX9_isBroken_215 (by decide) (fun c215_57 => ?_) (fun c215_57 => ?_)
    · skip
      refine j_iconst dX9_isBroken_232 (by decide) ?_
      exact hJ_55 _ (Or.inl ⟨c215_57, rfl⟩)
    · skip
      refine j_aload_n 0 dX9_isBroken_218 rfl rfl ?_
      refine j_getr f_X9_32 r_74_11 dX9_isBroken_219 ?_
      refine j_iload 4 dX9_isBroken_222 rfl ?_
      refine j_iald a_82 dX9_isBroken_224 (by omega) (by omega) ?_
      refine j_eq (congrFun (frh_54 82 (by decide) (by decide)) v4_2) ?_
      have g_58 := h_rpapers v4_2
      refine j_if_ne (tgt := 232) dX9_isBroken_225 (by decide) (fun c225_59 => ?_) (fun c225_59 => ?_)
      · skip
        refine j_iconst dX9_isBroken_232 (by decide) ?_
        exact hJ_55 _ (Or.inr (Or.inl ⟨c215_57, c225_59, rfl⟩))
      · skip
        refine j_iconst dX9_isBroken_228 (by decide) ?_
        refine j_goto (tgt := 233) dX9_isBroken_229 (by decide) ?_
        exact hJ_55 _ (Or.inr (Or.inr (⟨c215_57, c225_59, rfl⟩)))
  · refine j_tswOut (tgt := 234) dX9_isBroken_30 (Or.inl s_8) (by decide) ?_
    refine j_aload_n 0 dX9_isBroken_234 rfl rfl ?_
    refine j_iload 4 dX9_isBroken_235 rfl ?_
    refine j_iload 5 dX9_isBroken_237 rfl ?_
    refine j_iload 6 dX9_isBroken_239 rfl ?_
    refine j_bipush dX9_isBroken_241 (by decide) ?_
    refine j_iload_n 3 dX9_isBroken_243 rfl rfl ?_
    refine j_callVi l_X9_272 ⟨Nat.le_of_ble_eq_true rfl, Nat.le_of_ble_eq_true rfl⟩ ⟨rfl, rfl⟩ dX9_isBroken_244 ob_74 (c_X9_dutyOf M v4_2 v5_4 v6_6 6 s h_rkind h_rgrade h_rpapers h_rtrade h_rpaper (by omega) (by omega) (by omega) (by omega) hA) rfl rfl (Nat.le_of_ble_eq_true rfl) (fun r_60 M_61 h_62 => ?_)
    obtain ⟨ed, frh_62⟩ := h_62
    refine j_iconst dX9_isBroken_247 (by decide) ?_
    have hJ_63 : ∀ zz : Int, (¬ r_60 = 1 ∧ zz = 0) ∨ (r_60 = 1 ∧ zz = 1) → jG D_X9_isBroken X FJ shJ 0 0 (jqI (q_X9_isBroken M k o s)) 256 [(0, jR 74), (1, jI k), (2, jI o), (3, jI s), (4, jI v4_2), (5, jI v5_4), (6, jI v6_6), (7, jI v7_7)] (jI zz :: []) M_61 := by
      intro t_64 et_64
      refine j_zret rfl rfl rfl rfl dX9_isBroken_256 (by omega) ?_
      refine ⟨?_, (by first | exact frh_62 | exact fun c z1 z2 => (frh_62 c z1 z2).trans (f1 c z1 z2))⟩
      subst ev4_2 ev5_4 ev6_6 ev7_7
      unfold rBr
      (first | (rw [if_pos (by omega)]) | (rw [if_neg (by omega), if_pos (by omega)]) | (rw [if_neg (by omega), if_neg (by omega), if_pos (by omega)]) | (rw [if_neg (by omega), if_neg (by omega), if_neg (by omega), if_pos (by omega)]) | (rw [if_neg (by omega), if_neg (by omega), if_neg (by omega), if_neg (by omega), if_pos (by omega)]) | (rw [if_neg (by omega), if_neg (by omega), if_neg (by omega), if_neg (by omega), if_neg (by omega)])) <;> omega
    refine j_icmp_ne (tgt := 255) dX9_isBroken_248 (by decide) (fun c248_65 => ?_) (fun c248_65 => ?_)
    · skip
      refine j_iconst dX9_isBroken_255 (by decide) ?_
      exact hJ_63 _ (Or.inl ⟨c248_65, rfl⟩)
    · skip
      refine j_iconst dX9_isBroken_251 (by decide) ?_
      refine j_goto (tgt := 256) dX9_isBroken_252 (by decide) ?_
      exact hJ_63 _ (Or.inr (⟨c248_65, rfl⟩))
  · refine j_tswOut (tgt := 234) dX9_isBroken_30 (Or.inr s_8) (by decide) ?_
    refine j_aload_n 0 dX9_isBroken_234 rfl rfl ?_
    refine j_iload 4 dX9_isBroken_235 rfl ?_
    refine j_iload 5 dX9_isBroken_237 rfl ?_
    refine j_iload 6 dX9_isBroken_239 rfl ?_
    refine j_bipush dX9_isBroken_241 (by decide) ?_
    refine j_iload_n 3 dX9_isBroken_243 rfl rfl ?_
    refine j_callVi l_X9_272 ⟨Nat.le_of_ble_eq_true rfl, Nat.le_of_ble_eq_true rfl⟩ ⟨rfl, rfl⟩ dX9_isBroken_244 ob_74 (c_X9_dutyOf M v4_2 v5_4 v6_6 6 s h_rkind h_rgrade h_rpapers h_rtrade h_rpaper (by omega) (by omega) (by omega) (by omega) hA) rfl rfl (Nat.le_of_ble_eq_true rfl) (fun r_66 M_67 h_68 => ?_)
    obtain ⟨ed, frh_68⟩ := h_68
    refine j_iconst dX9_isBroken_247 (by decide) ?_
    have hJ_69 : ∀ zz : Int, (¬ r_66 = 1 ∧ zz = 0) ∨ (r_66 = 1 ∧ zz = 1) → jG D_X9_isBroken X FJ shJ 0 0 (jqI (q_X9_isBroken M k o s)) 256 [(0, jR 74), (1, jI k), (2, jI o), (3, jI s), (4, jI v4_2), (5, jI v5_4), (6, jI v6_6), (7, jI v7_7)] (jI zz :: []) M_67 := by
      intro t_70 et_70
      refine j_zret rfl rfl rfl rfl dX9_isBroken_256 (by omega) ?_
      refine ⟨?_, (by first | exact frh_68 | exact fun c z1 z2 => (frh_68 c z1 z2).trans (f1 c z1 z2))⟩
      subst ev4_2 ev5_4 ev6_6 ev7_7
      unfold rBr
      (first | (rw [if_pos (by omega)]) | (rw [if_neg (by omega), if_pos (by omega)]) | (rw [if_neg (by omega), if_neg (by omega), if_pos (by omega)]) | (rw [if_neg (by omega), if_neg (by omega), if_neg (by omega), if_pos (by omega)]) | (rw [if_neg (by omega), if_neg (by omega), if_neg (by omega), if_neg (by omega), if_pos (by omega)]) | (rw [if_neg (by omega), if_neg (by omega), if_neg (by omega), if_neg (by omega), if_neg (by omega)])) <;> omega
    refine j_icmp_ne (tgt := 255) dX9_isBroken_248 (by decide) (fun c248_71 => ?_) (fun c248_71 => ?_)
    · skip
      refine j_iconst dX9_isBroken_255 (by decide) ?_
      exact hJ_69 _ (Or.inl ⟨c248_71, rfl⟩)
    · skip
      refine j_iconst dX9_isBroken_251 (by decide) ?_
      refine j_goto (tgt := 256) dX9_isBroken_252 (by decide) ?_
      exact hJ_69 _ (Or.inr (⟨c248_71, rfl⟩))
abbrev q_X9_breachOf (M : jM)  (h d o : Int) : Int → jM → Prop := fun r N => bMx (rHit M h d o 1) (rHit M h d o 0) (M 74 27) r ∧ ∀ c, c ≠ 87 → c ≠ 88 → N c = M c
set_option maxHeartbeats 4000000 in
set_option maxRecDepth 20000 in
theorem c_X9_breachOf {X : jX} (M : jM)  (h d o : Int) (h_rlines : 0 ≤ M 74 27 ∧ M 74 27 ≤ 60) (h_rlhand : ∀ i, 0 ≤ M 89 i ∧ M 89 i ≤ 23) (h_rlday : ∀ i, 0 ≤ M 90 i ∧ M 90 i ≤ 359) (h_rlwhere : ∀ i, M 91 i = -9 ∨ (0 ≤ M 91 i ∧ M 91 i < 6)) (h_rpapers : ∀ i, 0 ≤ M 82 i ∧ M 82 i ≤ 3) (h_rchecks : ∀ i, 0 ≤ M 94 i ∧ M 94 i ≤ 4) (h_rcerr : ∀ i, -90 ≤ M 96 i ∧ M 96 i ≤ 90) (h_rlin : ∀ i, 0 ≤ M 92 i ∧ M 92 i ≤ 1439) (h_rlout : ∀ i, 0 ≤ M 93 i ∧ M 93 i ≤ 1440) (h_rkind : ∀ i, 0 ≤ M 80 i ∧ M 80 i ≤ 5) (h_rgrade : ∀ i, 0 ≤ M 81 i ∧ M 81 i ≤ 3) (h_rtrade : ∀ i, 0 ≤ M 76 i ∧ M 76 i ≤ 3) (h_rpaper : pOk (M 83)) (hA : rAct M) : jC yX9_breachOf D_X9_breachOf X FJ shJ [jR 74, jI h, jI d, jI o] M (jqI (q_X9_breachOf M h d o)) := by
  refine jC_of (by decide) rfl (fun ad => Nat.le_of_ble_eq_true rfl) (by decide) ?_
  show jG D_X9_breachOf X FJ shJ 0 0 (jqI (q_X9_breachOf M h d o)) 0 [(0, jR 74), (1, jI h), (2, jI d), (3, jI o)] [] M
  refine j_iconst dX9_breachOf_0 (by decide) ?_
  refine j_istore (ls' := [(0, jR 74), (1, jI h), (2, jI d), (3, jI o), (4, jI 0)]) dX9_breachOf_1 (by decide) rfl ?_
  refine j_iconst dX9_breachOf_3 (by decide) ?_
  refine j_istore (ls' := [(0, jR 74), (1, jI h), (2, jI d), (3, jI o), (4, jI 0), (5, jI 0)]) dX9_breachOf_4 (by decide) rfl ?_
  have lp6_1 : ∀ n6 : Nat, ∀ (v4 v5 : Int), ∀ N6 : jM, (0 ≤ v5 ∧ v5 ≤ M 74 27) ∧ (bMx (rHit M h d o 1) (rHit M h d o 0) v5 v4) ∧ (∀ c, c ≠ 87 → c ≠ 88 → N6 c = M c) → (M 74 27 - v5).toNat < n6 → jG D_X9_breachOf X FJ shJ 0 0 (jqI (q_X9_breachOf M h d o)) 6 [(0, jR 74), (1, jI h), (2, jI d), (3, jI o), (4, jI v4), (5, jI v5)] ([]) N6 := by
    intro n6
    induction n6 with
    | zero => intro v4 v5 N6 _ hz; exact absurd hz (Nat.not_lt_zero _)
    | succ n6 ih6 =>
      intro v4 v5 N6 hinv hm
      obtain ⟨h1, hb, hk⟩ := hinv
      have hv := bMx_in hb
      refine j_iload 5 dX9_breachOf_6 rfl ?_
      refine j_aload_n 0 dX9_breachOf_8 rfl rfl ?_
      refine j_geti (k' := 27) f_X9_275 o_74_27 dX9_breachOf_9 rfl ?_
      refine j_eq (congrFun (hk 74 (by decide) (by decide)) 27) ?_
      refine j_icmp_ge (tgt := 93) dX9_breachOf_12 (by decide) (fun c12_2 => ?_) (fun c12_2 => ?_)
      · skip
        refine j_iload 4 dX9_breachOf_93 rfl ?_
        refine j_iret rfl rfl rfl rfl dX9_breachOf_95 ?_
        have e6 : v5 = M 74 27 := by omega
        rw [e6] at hb
        exact ⟨hb, hk⟩
      · skip
        refine j_aload_n 0 dX9_breachOf_15 rfl rfl ?_
        refine j_iload 5 dX9_breachOf_16 rfl ?_
        refine j_iload_n 1 dX9_breachOf_18 rfl rfl ?_
        refine j_iload_n 2 dX9_breachOf_19 rfl rfl ?_
        refine j_callVi l_X9_287 ⟨Nat.le_of_ble_eq_true rfl, Nat.le_of_ble_eq_true rfl⟩ ⟨rfl, rfl⟩ dX9_breachOf_20 ob_74 (c_X9_isLine N6 v5 h d (by omega)) rfl rfl (Nat.le_of_ble_eq_true rfl) (fun r_3 M_4 h_5 => ?_)
        obtain ⟨er_3, nh_5⟩ := h_5
        refine j_eqM nh_5 ?_
        clear nh_5
        simp only [(hk 89 (by decide) (by decide)), (hk 90 (by decide) (by decide))] at er_3
        refine j_if_eq (tgt := 87) dX9_breachOf_23 (by decide) (fun c23_6 => ?_) (fun c23_6 => ?_)
        · skip
          obtain ⟨v5_7, ev5_7⟩ : ∃ y : Int, y = v5 + 1 := ⟨_, rfl⟩
          refine j_iinc (y := v5_7) (ls' := [(0, jR 74), (1, jI h), (2, jI d), (3, jI o), (4, jI v4), (5, jI v5_7)]) 5 dX9_breachOf_87 rfl ev5_7 (by omega) (by decide) rfl ?_
          refine j_goto (tgt := 6) dX9_breachOf_90 (by decide) ?_
          exact ih6 v4 v5_7 N6 ⟨by omega, by rw [ev5_7]; first | exact bMx_no hb (fun z => by have z1 := z.1; have z2 := z.2.1; omega) (fun z => by have z1 := z.1; have z2 := z.2.1; omega) | (rw [show v4 = 2 by omega]; exact bMx_two (x := v5) ⟨by omega, by omega⟩ ⟨⟨by omega, by omega⟩, by omega, (by rcases ek1 with ⟨_, y⟩ | ⟨y, _⟩; (· exact y); (· omega))⟩) | (rcases ek with ⟨y1, y⟩ | ⟨y1, y⟩; (· exact bMx_one h1.1 hb (fun z => by (rcases ek1 with ⟨y, _⟩ | ⟨_, y⟩; (· omega); (· exact y z.2.2))) ⟨⟨by omega, by omega⟩, by omega, y⟩ (by omega)); (· rw [show v4 = v4 by omega]; exact bMx_no hb (fun z => by (rcases ek1 with ⟨y, _⟩ | ⟨_, y⟩; (· omega); (· exact y z.2.2))) (fun z => y z.2.2))), by intro c z1 z2; first | exact hk c z1 z2 | (rw [f1 c z1 z2]; exact hk c z1 z2) | (rw [jup_zz c z1 z2]; exact hk c z1 z2) | (rw [jup_zz c z1 z2, f1 c z1 z2]; exact hk c z1 z2)⟩ (by omega)
        · skip
          refine j_aload_n 0 dX9_breachOf_26 rfl rfl ?_
          refine j_getr f_X9_59 r_74_30 dX9_breachOf_27 ?_
          refine j_iload 5 dX9_breachOf_30 rfl ?_
          refine j_iald a_91 dX9_breachOf_32 (by omega) (by omega) ?_
          refine j_eq (congrFun (hk 91 (by decide) (by decide)) v5) ?_
          have g_8 := h_rlwhere v5
          refine j_bipush dX9_breachOf_33 (by decide) ?_
          refine j_icmp_eq (tgt := 87) dX9_breachOf_35 (by decide) (fun c35_9 => ?_) (fun c35_9 => ?_)
          · skip
            obtain ⟨v5_10, ev5_10⟩ : ∃ y : Int, y = v5 + 1 := ⟨_, rfl⟩
            refine j_iinc (y := v5_10) (ls' := [(0, jR 74), (1, jI h), (2, jI d), (3, jI o), (4, jI v4), (5, jI v5_10)]) 5 dX9_breachOf_87 rfl ev5_10 (by omega) (by decide) rfl ?_
            refine j_goto (tgt := 6) dX9_breachOf_90 (by decide) ?_
            exact ih6 v4 v5_10 N6 ⟨by omega, by rw [ev5_10]; first | exact bMx_no hb (fun z => by have z1 := z.1; have z2 := z.2.1; omega) (fun z => by have z1 := z.1; have z2 := z.2.1; omega) | (rw [show v4 = 2 by omega]; exact bMx_two (x := v5) ⟨by omega, by omega⟩ ⟨⟨by omega, by omega⟩, by omega, (by rcases ek1 with ⟨_, y⟩ | ⟨y, _⟩; (· exact y); (· omega))⟩) | (rcases ek with ⟨y1, y⟩ | ⟨y1, y⟩; (· exact bMx_one h1.1 hb (fun z => by (rcases ek1 with ⟨y, _⟩ | ⟨_, y⟩; (· omega); (· exact y z.2.2))) ⟨⟨by omega, by omega⟩, by omega, y⟩ (by omega)); (· rw [show v4 = v4 by omega]; exact bMx_no hb (fun z => by (rcases ek1 with ⟨y, _⟩ | ⟨_, y⟩; (· omega); (· exact y z.2.2))) (fun z => y z.2.2))), by intro c z1 z2; first | exact hk c z1 z2 | (rw [f1 c z1 z2]; exact hk c z1 z2) | (rw [jup_zz c z1 z2]; exact hk c z1 z2) | (rw [jup_zz c z1 z2, f1 c z1 z2]; exact hk c z1 z2)⟩ (by omega)
          · skip
            refine j_aload_n 0 dX9_breachOf_38 rfl rfl ?_
            refine j_iload 5 dX9_breachOf_39 rfl ?_
            refine j_iload_n 3 dX9_breachOf_41 rfl rfl ?_
            refine j_iconst dX9_breachOf_42 (by decide) ?_
            refine j_callVi l_X9_296 ⟨Nat.le_of_ble_eq_true rfl, Nat.le_of_ble_eq_true rfl⟩ ⟨rfl, rfl⟩ dX9_breachOf_43 ob_74 (c_X9_isBroken N6 v5 o 1 (by rw [(hk 89 (by decide) (by decide))]; exact h_rlhand) (by rw [(hk 90 (by decide) (by decide))]; exact h_rlday) (by rw [(hk 91 (by decide) (by decide))]; exact h_rlwhere) (by rw [(congrFun (hk 74 (by decide) (by decide)) 27)]; exact h_rlines) (by rw [(hk 82 (by decide) (by decide))]; exact h_rpapers) (by rw [(hk 94 (by decide) (by decide))]; exact h_rchecks) (by rw [(hk 96 (by decide) (by decide))]; exact h_rcerr) (by rw [(hk 92 (by decide) (by decide))]; exact h_rlin) (by rw [(hk 93 (by decide) (by decide))]; exact h_rlout) (by rw [(hk 80 (by decide) (by decide))]; exact h_rkind) (by rw [(hk 81 (by decide) (by decide))]; exact h_rgrade) (by rw [(hk 76 (by decide) (by decide))]; exact h_rtrade) (by rw [(hk 83 (by decide) (by decide))]; exact h_rpaper) (by omega) (by omega) (by rw [hk 91 (by decide) (by decide)]; omega) (rAct_cg (nK_fr hk) hA)) rfl rfl (Nat.le_of_ble_eq_true rfl) (fun r_11 M_12 h_13 => ?_)
            obtain ⟨ek, frh_13⟩ := h_13
            rw [rBr_nK (nK_fr hk)] at ek
            have ek1 := ek
            have k1 := nK_tr (nK_fr hk) frh_13
            have f1 := frh_13
            refine j_if_eq (tgt := 53) dX9_breachOf_46 (by decide) (fun c46_14 => ?_) (fun c46_14 => ?_)
            · skip
              refine j_aload_n 0 dX9_breachOf_53 rfl rfl ?_
              refine j_iload 5 dX9_breachOf_54 rfl ?_
              refine j_iload_n 3 dX9_breachOf_56 rfl rfl ?_
              refine j_iconst dX9_breachOf_57 (by decide) ?_
              refine j_callVi l_X9_296 ⟨Nat.le_of_ble_eq_true rfl, Nat.le_of_ble_eq_true rfl⟩ ⟨rfl, rfl⟩ dX9_breachOf_58 ob_74 (c_X9_isBroken M_12 v5 o 0 (by rw [(Eq.trans (frh_13 89 (by decide) (by decide)) (hk 89 (by decide) (by decide)))]; exact h_rlhand) (by rw [(Eq.trans (frh_13 90 (by decide) (by decide)) (hk 90 (by decide) (by decide)))]; exact h_rlday) (by rw [(Eq.trans (frh_13 91 (by decide) (by decide)) (hk 91 (by decide) (by decide)))]; exact h_rlwhere) (by rw [(Eq.trans (congrFun (frh_13 74 (by decide) (by decide)) 27) (congrFun (hk 74 (by decide) (by decide)) 27))]; exact h_rlines) (by rw [(Eq.trans (frh_13 82 (by decide) (by decide)) (hk 82 (by decide) (by decide)))]; exact h_rpapers) (by rw [(Eq.trans (frh_13 94 (by decide) (by decide)) (hk 94 (by decide) (by decide)))]; exact h_rchecks) (by rw [(Eq.trans (frh_13 96 (by decide) (by decide)) (hk 96 (by decide) (by decide)))]; exact h_rcerr) (by rw [(Eq.trans (frh_13 92 (by decide) (by decide)) (hk 92 (by decide) (by decide)))]; exact h_rlin) (by rw [(Eq.trans (frh_13 93 (by decide) (by decide)) (hk 93 (by decide) (by decide)))]; exact h_rlout) (by rw [(Eq.trans (frh_13 80 (by decide) (by decide)) (hk 80 (by decide) (by decide)))]; exact h_rkind) (by rw [(Eq.trans (frh_13 81 (by decide) (by decide)) (hk 81 (by decide) (by decide)))]; exact h_rgrade) (by rw [(Eq.trans (frh_13 76 (by decide) (by decide)) (hk 76 (by decide) (by decide)))]; exact h_rtrade) (by rw [(Eq.trans (frh_13 83 (by decide) (by decide)) (hk 83 (by decide) (by decide)))]; exact h_rpaper) (by omega) (by omega) (by rw [k1.1 91 (by decide) (by decide) (by decide)]; omega) (rAct_cg k1 hA)) rfl rfl (Nat.le_of_ble_eq_true rfl) (fun r_15 M_16 h_17 => ?_)
              obtain ⟨ek, frh_17⟩ := h_17
              rw [rBr_nK k1] at ek
              have k2 := nK_tr k1 frh_17
              have hJ_18 : ∀ zz : Int, (r_15 = 0 ∧ zz = 0) ∨ (¬ r_15 = 0 ∧ zz = 1) → jG D_X9_breachOf X FJ shJ 0 0 (jqI (q_X9_breachOf M h d o)) 69 [(0, jR 74), (1, jI h), (2, jI d), (3, jI o), (4, jI v4), (5, jI v5)] (jI zz :: []) M_16 := by
                intro t_19 et_19
                refine j_istore (ls' := [(0, jR 74), (1, jI h), (2, jI d), (3, jI o), (4, jI v4), (5, jI v5), (6, jI t_19)]) dX9_breachOf_69 (by decide) rfl ?_
                refine j_iload 6 dX9_breachOf_71 rfl ?_
                refine j_iload 4 dX9_breachOf_73 rfl ?_
                have hJ_20 : ∀ zz : Int, (t_19 ≤ v4 ∧ zz = v4) ∨ (¬ (t_19 ≤ v4) ∧ zz = t_19) → jG D_X9_breachOf X FJ shJ 0 0 (jqI (q_X9_breachOf M h d o)) 85 [(0, jR 74), (1, jI h), (2, jI d), (3, jI o), (4, jI v4), (5, jI v5), (6, jI t_19)] (jI zz :: []) M_16 := by
                  intro t_21 et_21
                  refine j_istore (ls' := [(0, jR 74), (1, jI h), (2, jI d), (3, jI o), (4, jI t_21), (5, jI v5), (6, jI t_19)]) dX9_breachOf_85 (by decide) rfl ?_
                  obtain ⟨v5_22, ev5_22⟩ : ∃ y : Int, y = v5 + 1 := ⟨_, rfl⟩
                  refine j_iinc (y := v5_22) (ls' := [(0, jR 74), (1, jI h), (2, jI d), (3, jI o), (4, jI t_21), (5, jI v5_22), (6, jI t_19)]) 5 dX9_breachOf_87 rfl ev5_22 (by omega) (by decide) rfl ?_
                  refine j_goto (tgt := 6) dX9_breachOf_90 (by decide) ?_
                  refine j_sub (ls' := [(0, jR 74), (1, jI h), (2, jI d), (3, jI o), (4, jI t_21), (5, jI v5_22)]) [0, 1, 2, 3, 4, 5] rfl ?_
                  exact ih6 t_21 v5_22 M_16 ⟨by omega, by rw [ev5_22]; first | exact bMx_no hb (fun z => by have z1 := z.1; have z2 := z.2.1; omega) (fun z => by have z1 := z.1; have z2 := z.2.1; omega) | (rw [show t_21 = 2 by omega]; exact bMx_two (x := v5) ⟨by omega, by omega⟩ ⟨⟨by omega, by omega⟩, by omega, (by rcases ek1 with ⟨_, y⟩ | ⟨y, _⟩; (· exact y); (· omega))⟩) | (rcases ek with ⟨y1, y⟩ | ⟨y1, y⟩; (· exact bMx_one h1.1 hb (fun z => by (rcases ek1 with ⟨y, _⟩ | ⟨_, y⟩; (· omega); (· exact y z.2.2))) ⟨⟨by omega, by omega⟩, by omega, y⟩ (by omega)); (· rw [show t_21 = v4 by omega]; exact bMx_no hb (fun z => by (rcases ek1 with ⟨y, _⟩ | ⟨_, y⟩; (· omega); (· exact y z.2.2))) (fun z => y z.2.2))), by intro c z1 z2; first | exact hk c z1 z2 | (rw [f1 c z1 z2]; exact hk c z1 z2) | (rw [frh_17 c z1 z2]; exact hk c z1 z2) | (rw [frh_17 c z1 z2, f1 c z1 z2]; exact hk c z1 z2)⟩ (by omega)
                refine j_icmp_le (tgt := 83) dX9_breachOf_75 (by decide) (fun c75_23 => ?_) (fun c75_23 => ?_)
                · skip
                  refine j_iload 4 dX9_breachOf_83 rfl ?_
                  exact hJ_20 _ (Or.inl ⟨c75_23, rfl⟩)
                · skip
                  refine j_iload 6 dX9_breachOf_78 rfl ?_
                  refine j_goto (tgt := 85) dX9_breachOf_80 (by decide) ?_
                  exact hJ_20 _ (Or.inr (⟨c75_23, rfl⟩))
              refine j_if_eq (tgt := 68) dX9_breachOf_61 (by decide) (fun c61_24 => ?_) (fun c61_24 => ?_)
              · skip
                refine j_iconst dX9_breachOf_68 (by decide) ?_
                exact hJ_18 _ (Or.inl ⟨c61_24, rfl⟩)
              · skip
                refine j_iconst dX9_breachOf_64 (by decide) ?_
                refine j_goto (tgt := 69) dX9_breachOf_65 (by decide) ?_
                exact hJ_18 _ (Or.inr (⟨c61_24, rfl⟩))
            · skip
              refine j_iconst dX9_breachOf_49 (by decide) ?_
              refine j_goto (tgt := 69) dX9_breachOf_50 (by decide) ?_
              refine j_istore (ls' := [(0, jR 74), (1, jI h), (2, jI d), (3, jI o), (4, jI v4), (5, jI v5), (6, jI 2)]) dX9_breachOf_69 (by decide) rfl ?_
              refine j_iload 6 dX9_breachOf_71 rfl ?_
              refine j_iload 4 dX9_breachOf_73 rfl ?_
              have hJ_25 : ∀ zz : Int, ((2 : Int) ≤ v4 ∧ zz = v4) ∨ (¬ ((2 : Int) ≤ v4) ∧ zz = 2) → jG D_X9_breachOf X FJ shJ 0 0 (jqI (q_X9_breachOf M h d o)) 85 [(0, jR 74), (1, jI h), (2, jI d), (3, jI o), (4, jI v4), (5, jI v5), (6, jI 2)] (jI zz :: []) M_12 := by
                intro t_26 et_26
                refine j_istore (ls' := [(0, jR 74), (1, jI h), (2, jI d), (3, jI o), (4, jI t_26), (5, jI v5), (6, jI 2)]) dX9_breachOf_85 (by decide) rfl ?_
                obtain ⟨v5_27, ev5_27⟩ : ∃ y : Int, y = v5 + 1 := ⟨_, rfl⟩
                refine j_iinc (y := v5_27) (ls' := [(0, jR 74), (1, jI h), (2, jI d), (3, jI o), (4, jI t_26), (5, jI v5_27), (6, jI 2)]) 5 dX9_breachOf_87 rfl ev5_27 (by omega) (by decide) rfl ?_
                refine j_goto (tgt := 6) dX9_breachOf_90 (by decide) ?_
                refine j_sub (ls' := [(0, jR 74), (1, jI h), (2, jI d), (3, jI o), (4, jI t_26), (5, jI v5_27)]) [0, 1, 2, 3, 4, 5] rfl ?_
                exact ih6 t_26 v5_27 M_12 ⟨by omega, by rw [ev5_27]; first | exact bMx_no hb (fun z => by have z1 := z.1; have z2 := z.2.1; omega) (fun z => by have z1 := z.1; have z2 := z.2.1; omega) | (rw [show t_26 = 2 by omega]; exact bMx_two (x := v5) ⟨by omega, by omega⟩ ⟨⟨by omega, by omega⟩, by omega, (by rcases ek1 with ⟨_, y⟩ | ⟨y, _⟩; (· exact y); (· omega))⟩) | (rcases ek with ⟨y1, y⟩ | ⟨y1, y⟩; (· exact bMx_one h1.1 hb (fun z => by (rcases ek1 with ⟨y, _⟩ | ⟨_, y⟩; (· omega); (· exact y z.2.2))) ⟨⟨by omega, by omega⟩, by omega, y⟩ (by omega)); (· rw [show t_26 = v4 by omega]; exact bMx_no hb (fun z => by (rcases ek1 with ⟨y, _⟩ | ⟨_, y⟩; (· omega); (· exact y z.2.2))) (fun z => y z.2.2))), by intro c z1 z2; first | exact hk c z1 z2 | (rw [f1 c z1 z2]; exact hk c z1 z2) | (rw [frh_17 c z1 z2]; exact hk c z1 z2) | (rw [frh_17 c z1 z2, f1 c z1 z2]; exact hk c z1 z2)⟩ (by omega)
              refine j_icmp_le (tgt := 83) dX9_breachOf_75 (by decide) (fun c75_28 => ?_) (fun c75_28 => ?_)
              · skip
                refine j_iload 4 dX9_breachOf_83 rfl ?_
                exact hJ_25 _ (Or.inl ⟨c75_28, rfl⟩)
              · skip
                refine j_iload 6 dX9_breachOf_78 rfl ?_
                refine j_goto (tgt := 85) dX9_breachOf_80 (by decide) ?_
                exact hJ_25 _ (Or.inr (⟨c75_28, rfl⟩))
  exact lp6_1 _ 0 0 M ⟨by omega, by exact bMx_0 _ _, by intro c _ _; rfl⟩ (Nat.lt_succ_self _)
abbrev q_X9_breach (M : jM)  (h d o : Int) : Int → jM → Prop := fun r N => (((0 ≤ h ∧ h < M 74 8 ∧ 0 ≤ d ∧ d ≤ 359 ∧ 0 ≤ o ∧ o ≤ 5) ∧ bMx (rHit M h d o 1) (rHit M h d o 0) (M 74 27) r) ∨ (¬ (0 ≤ h ∧ h < M 74 8 ∧ 0 ≤ d ∧ d ≤ 359 ∧ 0 ≤ o ∧ o ≤ 5) ∧ r = -1)) ∧ nK M N
set_option maxHeartbeats 4000000 in
set_option maxRecDepth 20000 in
theorem c_X9_breach {X : jX} (M : jM)  (h d o : Int) (h_rhands : 0 ≤ M 74 8 ∧ M 74 8 ≤ 24) (h_rlines : 0 ≤ M 74 27 ∧ M 74 27 ≤ 60) (h_rlhand : ∀ i, 0 ≤ M 89 i ∧ M 89 i ≤ 23) (h_rlday : ∀ i, 0 ≤ M 90 i ∧ M 90 i ≤ 359) (h_rlwhere : ∀ i, M 91 i = -9 ∨ (0 ≤ M 91 i ∧ M 91 i < 6)) (h_rpapers : ∀ i, 0 ≤ M 82 i ∧ M 82 i ≤ 3) (h_rchecks : ∀ i, 0 ≤ M 94 i ∧ M 94 i ≤ 4) (h_rcerr : ∀ i, -90 ≤ M 96 i ∧ M 96 i ≤ 90) (h_rlin : ∀ i, 0 ≤ M 92 i ∧ M 92 i ≤ 1439) (h_rlout : ∀ i, 0 ≤ M 93 i ∧ M 93 i ≤ 1440) (h_rkind : ∀ i, 0 ≤ M 80 i ∧ M 80 i ≤ 5) (h_rgrade : ∀ i, 0 ≤ M 81 i ∧ M 81 i ≤ 3) (h_rtrade : ∀ i, 0 ≤ M 76 i ∧ M 76 i ≤ 3) (h_rpaper : pOk (M 83)) (hA : rAct M) : jC yX9_breach D_X9_breach X FJ shJ [jR 74, jI h, jI d, jI o] M (jqI (q_X9_breach M h d o)) := by
  refine jC_of (by decide) rfl (fun ad => Nat.le_of_ble_eq_true rfl) (by decide) ?_
  show jG D_X9_breach X FJ shJ 0 0 (jqI (q_X9_breach M h d o)) 0 [(0, jR 74), (1, jI h), (2, jI d), (3, jI o)] [] M
  refine j_aload_n 0 dX9_breach_0 rfl rfl ?_
  refine j_iconst dX9_breach_1 (by decide) ?_
  refine j_puti (k' := 0) f_X9_124 o_74_0 dX9_breach_2 rfl ?_
  refine j_nmM (fun M_1 eM_1 => ?_)
  have k1 : nK M M_1 := by rw [eM_1]; exact nK_jup M
  have hA1 : rAct M_1 := rAct_cg k1 hA
  refine j_aload_n 0 dX9_breach_5 rfl rfl ?_
  refine j_iload_n 1 dX9_breach_6 rfl rfl ?_
  refine j_callVi l_X9_144 ⟨Nat.le_of_ble_eq_true rfl, Nat.le_of_ble_eq_true rfl⟩ ⟨rfl, rfl⟩ dX9_breach_7 ob_74 (c_X9_isHand M_1 h (by rw [((congrFun (congrFun eM_1 74) 8).trans (jup_ne (by decide)))]; exact h_rhands)) rfl rfl (Nat.le_of_ble_eq_true rfl) (fun r_2 M_3 h_4 => ?_)
  obtain ⟨er_2, nh_4⟩ := h_4
  refine j_eqM nh_4 ?_
  clear nh_4
  simp only [((congrFun (congrFun eM_1 74) 8).trans (jup_ne (by decide)))] at er_2
  refine j_if_eq (tgt := 39) dX9_breach_10 (by decide) (fun c10_5 => ?_) (fun c10_5 => ?_)
  · skip
    refine j_iconst dX9_breach_39 (by decide) ?_
    refine j_iret rfl rfl rfl rfl dX9_breach_40 ?_
    first | (rw [rHit_nK k1, rHit_nK k1, k1.2 27 (by decide)] at eq; exact ⟨Or.inl ⟨by omega, eq⟩, nK_tr k1 jup_zz⟩) | exact ⟨Or.inr ⟨by omega, rfl⟩, k1⟩
  · skip
    refine j_iload_n 2 dX9_breach_13 rfl rfl ?_
    refine j_callSi l_X9_166 ⟨Nat.le_of_ble_eq_true rfl, Nat.le_of_ble_eq_true rfl⟩ ⟨rfl, rfl⟩ dX9_breach_14 (c_X9_isDay M_1 d) rfl rfl (Nat.le_of_ble_eq_true rfl) (fun r_6 M_7 h_8 => ?_)
    obtain ⟨er_6, nh_8⟩ := h_8
    refine j_eqM nh_8 ?_
    clear nh_8
    refine j_if_eq (tgt := 39) dX9_breach_17 (by decide) (fun c17_9 => ?_) (fun c17_9 => ?_)
    · skip
      refine j_iconst dX9_breach_39 (by decide) ?_
      refine j_iret rfl rfl rfl rfl dX9_breach_40 ?_
      first | (rw [rHit_nK k1, rHit_nK k1, k1.2 27 (by decide)] at eq; exact ⟨Or.inl ⟨by omega, eq⟩, nK_tr k1 jup_zz⟩) | exact ⟨Or.inr ⟨by omega, rfl⟩, k1⟩
    · skip
      refine j_iload_n 3 dX9_breach_20 rfl rfl ?_
      refine j_iconst dX9_breach_21 (by decide) ?_
      refine j_iconst dX9_breach_22 (by decide) ?_
      refine j_callSi l_X9_137 ⟨Nat.le_of_ble_eq_true rfl, Nat.le_of_ble_eq_true rfl⟩ ⟨rfl, rfl⟩ dX9_breach_23 (c_X9_in M_1 o 0 5) rfl rfl (Nat.le_of_ble_eq_true rfl) (fun r_10 M_11 h_12 => ?_)
      obtain ⟨er_10, nh_12⟩ := h_12
      refine j_eqM nh_12 ?_
      clear nh_12
      refine j_if_eq (tgt := 39) dX9_breach_26 (by decide) (fun c26_13 => ?_) (fun c26_13 => ?_)
      · skip
        refine j_iconst dX9_breach_39 (by decide) ?_
        refine j_iret rfl rfl rfl rfl dX9_breach_40 ?_
        first | (rw [rHit_nK k1, rHit_nK k1, k1.2 27 (by decide)] at eq; exact ⟨Or.inl ⟨by omega, eq⟩, nK_tr k1 jup_zz⟩) | exact ⟨Or.inr ⟨by omega, rfl⟩, k1⟩
      · skip
        refine j_aload_n 0 dX9_breach_29 rfl rfl ?_
        refine j_iload_n 1 dX9_breach_30 rfl rfl ?_
        refine j_iload_n 2 dX9_breach_31 rfl rfl ?_
        refine j_iload_n 3 dX9_breach_32 rfl rfl ?_
        refine j_callVi l_X9_299 ⟨Nat.le_of_ble_eq_true rfl, Nat.le_of_ble_eq_true rfl⟩ ⟨rfl, rfl⟩ dX9_breach_33 ob_74 (c_X9_breachOf M_1 h d o (by rw [((congrFun (congrFun eM_1 74) 27).trans (jup_ne (by decide)))]; exact h_rlines) (by rw [((congrFun eM_1 89).trans (jup_cell (by decide)))]; exact h_rlhand) (by rw [((congrFun eM_1 90).trans (jup_cell (by decide)))]; exact h_rlday) (by rw [((congrFun eM_1 91).trans (jup_cell (by decide)))]; exact h_rlwhere) (by rw [((congrFun eM_1 82).trans (jup_cell (by decide)))]; exact h_rpapers) (by rw [((congrFun eM_1 94).trans (jup_cell (by decide)))]; exact h_rchecks) (by rw [((congrFun eM_1 96).trans (jup_cell (by decide)))]; exact h_rcerr) (by rw [((congrFun eM_1 92).trans (jup_cell (by decide)))]; exact h_rlin) (by rw [((congrFun eM_1 93).trans (jup_cell (by decide)))]; exact h_rlout) (by rw [((congrFun eM_1 80).trans (jup_cell (by decide)))]; exact h_rkind) (by rw [((congrFun eM_1 81).trans (jup_cell (by decide)))]; exact h_rgrade) (by rw [((congrFun eM_1 76).trans (jup_cell (by decide)))]; exact h_rtrade) (by rw [((congrFun eM_1 83).trans (jup_cell (by decide)))]; exact h_rpaper) hA1) rfl rfl (Nat.le_of_ble_eq_true rfl) (fun r_14 M_15 h_16 => ?_)
        obtain ⟨eq, frh_16⟩ := h_16
        refine j_goto (tgt := 40) dX9_breach_36 (by decide) ?_
        refine j_iret rfl rfl rfl rfl dX9_breach_40 ?_
        first | (rw [rHit_nK k1, rHit_nK k1, k1.2 27 (by decide)] at eq; exact ⟨Or.inl ⟨by omega, eq⟩, nK_tr k1 frh_16⟩) | exact ⟨Or.inr ⟨by omega, rfl⟩, k1⟩
abbrev q_X8_breaks (M : jM) (f : Int) (hf : jA f) (h m o l : Int) : Int → jM → Prop := fun r N => ((r = 1 ∧ (cBk f M h m o l)) ∨ (r = 0 ∧ ¬ (cBk f M h m o l))) ∧ N = M
set_option maxHeartbeats 4000000 in
set_option maxRecDepth 20000 in
theorem c_X8_breaks {X : jX} (M : jM) (f : Int) (hf : jA f) (h m o l : Int) (h_pk : pRg M) (h_cpapers : ∀ i, 0 ≤ M 11 i ∧ M 11 i ≤ 3) (hif : M 0 7 = f) (h0 : 0 ≤ h ∧ h < 24) (hr : 0 ≤ M f 0 ∧ M f 0 ≤ 16) (ho : 0 ≤ o ∧ o ≤ 5) : jC yX8_breaks D_X8_breaks X FJ shJ [jR 0, jI h, jI m, jI o, jI l] M (jqI (q_X8_breaks M f hf h m o l)) := by
  refine jC_of (by decide) rfl (fun ad => Nat.le_of_ble_eq_true rfl) (by decide) ?_
  show jG D_X8_breaks X FJ shJ 0 0 (jqI (q_X8_breaks M f hf h m o l)) 0 [(0, jR 0), (1, jI h), (2, jI m), (3, jI o), (4, jI l)] [] M
  have hpk := h_pk.1
  refine j_iload_n 3 dX8_breaks_0 rfl rfl ?_
  rcases (show o = 0 ∨ o = 1 ∨ o = 2 ∨ o = 3 ∨ o = 4 ∨ o = 5 ∨ o < 0 ∨ 5 < o from by omega) with s_1 | s_1 | s_1 | s_1 | s_1 | s_1 | s_1 | s_1
  · refine j_tswIn (tgt := 40) 0 s_1 dX8_breaks_1 (by decide) (by decide) rfl (by decide) ?_
    refine j_aload_n 0 dX8_breaks_40 rfl rfl ?_
    refine j_getr f_X8_28 r_0_3 dX8_breaks_41 ?_
    refine j_iload 4 dX8_breaks_44 rfl ?_
    refine j_callVi l_X8_196 ⟨Nat.le_of_ble_eq_true rfl, Nat.le_of_ble_eq_true rfl⟩ ⟨rfl, rfl⟩ dX8_breaks_46 ob_16 (c_X1_worked M l h_pk) rfl rfl (Nat.le_of_ble_eq_true rfl) (fun r_2 M_3 h_4 => ?_)
    obtain ⟨er_2, nh_4⟩ := h_4
    refine j_eqM nh_4 ?_
    clear nh_4
    refine j_aload_n 0 dX8_breaks_49 rfl rfl ?_
    refine j_getd (k' := 7) f_X8_58 o_0_7 dX8_breaks_50 rfl ?_
    refine j_eqR (y := f) (by exact hif) ?_
    refine j_iconst dX8_breaks_53 (by decide) ?_
    refine j_iload 4 dX8_breaks_54 rfl ?_
    refine j_callVi l_X8_154 ⟨Nat.le_of_ble_eq_true rfl, Nat.le_of_ble_eq_true rfl⟩ ⟨rfl, rfl⟩ dX8_breaks_56 (oba hf) (c_X0_asked M f hf 0 l hr (by omega)) rfl rfl (Nat.le_of_ble_eq_true rfl) (fun r_5 M_6 h_7 => ?_)
    obtain ⟨er_5, nh_7⟩ := h_7
    refine j_eqM nh_7 ?_
    clear nh_7
    have a0 : cA M f l 0 = r_5 := er_5.symm
    have hJ_8 : ∀ zz : Int, (r_2 ≤ r_5 ∧ zz = 0) ∨ (¬ (r_2 ≤ r_5) ∧ zz = 1) → jG D_X8_breaks X FJ shJ 0 0 (jqI (q_X8_breaks M f hf h m o l)) 67 [(0, jR 0), (1, jI h), (2, jI m), (3, jI o), (4, jI l)] (jI zz :: []) M := by
      intro t_9 et_9
      refine j_zret rfl rfl rfl rfl dX8_breaks_67 (by omega) ?_
      refine ⟨?_, rfl⟩
      unfold cBk cBrG
      (first | (rw [if_pos (by omega)]) | (rw [if_neg (by omega), if_pos (by omega)]) | (rw [if_neg (by omega), if_neg (by omega), if_pos (by omega)]) | (rw [if_neg (by omega), if_neg (by omega), if_neg (by omega), if_pos (by omega)]) | (rw [if_neg (by omega), if_neg (by omega), if_neg (by omega), if_neg (by omega), if_pos (by omega)]) | (rw [if_neg (by omega), if_neg (by omega), if_neg (by omega), if_neg (by omega), if_neg (by omega)])) <;> first | exact lv | omega
    refine j_icmp_le (tgt := 66) dX8_breaks_59 (by decide) (fun c59_10 => ?_) (fun c59_10 => ?_)
    · skip
      refine j_iconst dX8_breaks_66 (by decide) ?_
      exact hJ_8 _ (Or.inl ⟨c59_10, rfl⟩)
    · skip
      refine j_iconst dX8_breaks_62 (by decide) ?_
      refine j_goto (tgt := 67) dX8_breaks_63 (by decide) ?_
      exact hJ_8 _ (Or.inr (⟨c59_10, rfl⟩))
  · refine j_tswIn (tgt := 68) 1 s_1 dX8_breaks_1 (by decide) (by decide) rfl (by decide) ?_
    refine j_aload_n 0 dX8_breaks_68 rfl rfl ?_
    refine j_getr f_X8_28 r_0_3 dX8_breaks_69 ?_
    refine j_iload_n 2 dX8_breaks_72 rfl rfl ?_
    refine j_aload_n 0 dX8_breaks_73 rfl rfl ?_
    refine j_getd (k' := 7) f_X8_58 o_0_7 dX8_breaks_74 rfl ?_
    refine j_eqR (y := f) (by exact hif) ?_
    refine j_iconst dX8_breaks_77 (by decide) ?_
    refine j_iload 4 dX8_breaks_78 rfl ?_
    refine j_callVi l_X8_154 ⟨Nat.le_of_ble_eq_true rfl, Nat.le_of_ble_eq_true rfl⟩ ⟨rfl, rfl⟩ dX8_breaks_80 (oba hf) (c_X0_asked M f hf 1 l hr (by omega)) rfl rfl (Nat.le_of_ble_eq_true rfl) (fun r_11 M_12 h_13 => ?_)
    obtain ⟨er_11, nh_13⟩ := h_13
    refine j_eqM nh_13 ?_
    clear nh_13
    have a1 : cA M f l 1 = r_11 := er_11.symm
    refine j_aload_n 0 dX8_breaks_83 rfl rfl ?_
    refine j_getd (k' := 7) f_X8_58 o_0_7 dX8_breaks_84 rfl ?_
    refine j_eqR (y := f) (by exact hif) ?_
    refine j_iconst dX8_breaks_87 (by decide) ?_
    refine j_iload 4 dX8_breaks_88 rfl ?_
    refine j_callVi l_X8_154 ⟨Nat.le_of_ble_eq_true rfl, Nat.le_of_ble_eq_true rfl⟩ ⟨rfl, rfl⟩ dX8_breaks_90 (oba hf) (c_X0_asked M f hf 2 l hr (by omega)) rfl rfl (Nat.le_of_ble_eq_true rfl) (fun r_14 M_15 h_16 => ?_)
    obtain ⟨er_14, nh_16⟩ := h_16
    refine j_eqM nh_16 ?_
    clear nh_16
    have a2 : cA M f l 2 = r_14 := er_14.symm
    refine j_iload 4 dX8_breaks_93 rfl ?_
    refine j_callVi l_X8_314 ⟨Nat.le_of_ble_eq_true rfl, Nat.le_of_ble_eq_true rfl⟩ ⟨rfl, rfl⟩ dX8_breaks_95 ob_16 (c_X1_leaves M m r_11 r_14 l h_pk) rfl rfl (Nat.le_of_ble_eq_true rfl) (fun r_17 M_18 h_19 => ?_)
    obtain ⟨er_17, nh_19⟩ := h_19
    refine j_eqM nh_19 ?_
    clear nh_19
    have z98 : r_17 = 0 ∨ r_17 = 1 := by rcases er_17 with ⟨y, _⟩ | ⟨y, _⟩; (· exact Or.inr y); (· exact Or.inl y)
    have lv : lvAt M m l (cA M f l 1) (cA M f l 2) r_17 := by rw [a1, a2]; exact er_17
    clear er_17
    refine j_zret rfl rfl rfl rfl dX8_breaks_98 (by exact z98) ?_
    refine ⟨?_, rfl⟩
    unfold cBk cBrG
    (first | (rw [if_pos (by omega)]) | (rw [if_neg (by omega), if_pos (by omega)]) | (rw [if_neg (by omega), if_neg (by omega), if_pos (by omega)]) | (rw [if_neg (by omega), if_neg (by omega), if_neg (by omega), if_pos (by omega)]) | (rw [if_neg (by omega), if_neg (by omega), if_neg (by omega), if_neg (by omega), if_pos (by omega)]) | (rw [if_neg (by omega), if_neg (by omega), if_neg (by omega), if_neg (by omega), if_neg (by omega)])) <;> first | exact lv | omega
  · refine j_tswIn (tgt := 99) 2 s_1 dX8_breaks_1 (by decide) (by decide) rfl (by decide) ?_
    refine j_aload_n 0 dX8_breaks_99 rfl rfl ?_
    refine j_getr f_X8_28 r_0_3 dX8_breaks_100 ?_
    refine j_callVi l_X8_193 ⟨Nat.le_of_ble_eq_true rfl, Nat.le_of_ble_eq_true rfl⟩ ⟨rfl, rfl⟩ dX8_breaks_103 ob_16 (c_X1_schooled M h_pk) rfl rfl (Nat.le_of_ble_eq_true rfl) (fun r_20 M_21 h_22 => ?_)
    obtain ⟨er_20, nh_22⟩ := h_22
    refine j_eqM nh_22 ?_
    clear nh_22
    refine j_aload_n 0 dX8_breaks_106 rfl rfl ?_
    refine j_getd (k' := 7) f_X8_58 o_0_7 dX8_breaks_107 rfl ?_
    refine j_eqR (y := f) (by exact hif) ?_
    refine j_iconst dX8_breaks_110 (by decide) ?_
    refine j_iload 4 dX8_breaks_111 rfl ?_
    refine j_callVi l_X8_154 ⟨Nat.le_of_ble_eq_true rfl, Nat.le_of_ble_eq_true rfl⟩ ⟨rfl, rfl⟩ dX8_breaks_113 (oba hf) (c_X0_asked M f hf 3 l hr (by omega)) rfl rfl (Nat.le_of_ble_eq_true rfl) (fun r_23 M_24 h_25 => ?_)
    obtain ⟨er_23, nh_25⟩ := h_25
    refine j_eqM nh_25 ?_
    clear nh_25
    have a3 : cA M f l 3 = r_23 := er_23.symm
    have hJ_26 : ∀ zz : Int, (r_23 ≤ r_20 ∧ zz = 0) ∨ (¬ (r_23 ≤ r_20) ∧ zz = 1) → jG D_X8_breaks X FJ shJ 0 0 (jqI (q_X8_breaks M f hf h m o l)) 124 [(0, jR 0), (1, jI h), (2, jI m), (3, jI o), (4, jI l)] (jI zz :: []) M := by
      intro t_27 et_27
      refine j_zret rfl rfl rfl rfl dX8_breaks_124 (by omega) ?_
      refine ⟨?_, rfl⟩
      unfold cBk cBrG
      (first | (rw [if_pos (by omega)]) | (rw [if_neg (by omega), if_pos (by omega)]) | (rw [if_neg (by omega), if_neg (by omega), if_pos (by omega)]) | (rw [if_neg (by omega), if_neg (by omega), if_neg (by omega), if_pos (by omega)]) | (rw [if_neg (by omega), if_neg (by omega), if_neg (by omega), if_neg (by omega), if_pos (by omega)]) | (rw [if_neg (by omega), if_neg (by omega), if_neg (by omega), if_neg (by omega), if_neg (by omega)])) <;> first | exact lv | omega
    refine j_icmp_ge (tgt := 123) dX8_breaks_116 (by decide) (fun c116_28 => ?_) (fun c116_28 => ?_)
    · skip
      refine j_iconst dX8_breaks_123 (by decide) ?_
      exact hJ_26 _ (Or.inl ⟨c116_28, rfl⟩)
    · skip
      refine j_iconst dX8_breaks_119 (by decide) ?_
      refine j_goto (tgt := 124) dX8_breaks_120 (by decide) ?_
      exact hJ_26 _ (Or.inr (⟨c116_28, rfl⟩))
  · refine j_tswIn (tgt := 125) 3 s_1 dX8_breaks_1 (by decide) (by decide) rfl (by decide) ?_
    refine j_aload_n 0 dX8_breaks_125 rfl rfl ?_
    refine j_getr f_X8_28 r_0_3 dX8_breaks_126 ?_
    refine j_iload_n 2 dX8_breaks_129 rfl rfl ?_
    refine j_iload 4 dX8_breaks_130 rfl ?_
    refine j_callVi l_X8_317 ⟨Nat.le_of_ble_eq_true rfl, Nat.le_of_ble_eq_true rfl⟩ ⟨rfl, rfl⟩ dX8_breaks_132 ob_16 (c_X1_longestAt M m l h_pk) rfl rfl (Nat.le_of_ble_eq_true rfl) (fun r_29 M_30 h_31 => ?_)
    obtain ⟨er_29, nh_31⟩ := h_31
    refine j_eqM nh_31 ?_
    clear nh_31
    refine j_aload_n 0 dX8_breaks_135 rfl rfl ?_
    refine j_getd (k' := 7) f_X8_58 o_0_7 dX8_breaks_136 rfl ?_
    refine j_eqR (y := f) (by exact hif) ?_
    refine j_iconst dX8_breaks_139 (by decide) ?_
    refine j_iload 4 dX8_breaks_140 rfl ?_
    refine j_callVi l_X8_154 ⟨Nat.le_of_ble_eq_true rfl, Nat.le_of_ble_eq_true rfl⟩ ⟨rfl, rfl⟩ dX8_breaks_142 (oba hf) (c_X0_asked M f hf 4 l hr (by omega)) rfl rfl (Nat.le_of_ble_eq_true rfl) (fun r_32 M_33 h_34 => ?_)
    obtain ⟨er_32, nh_34⟩ := h_34
    refine j_eqM nh_34 ?_
    clear nh_34
    have a4 : cA M f l 4 = r_32 := er_32.symm
    have hJ_35 : ∀ zz : Int, (r_29 ≤ r_32 ∧ zz = 0) ∨ (¬ (r_29 ≤ r_32) ∧ zz = 1) → jG D_X8_breaks X FJ shJ 0 0 (jqI (q_X8_breaks M f hf h m o l)) 153 [(0, jR 0), (1, jI h), (2, jI m), (3, jI o), (4, jI l)] (jI zz :: []) M := by
      intro t_36 et_36
      refine j_zret rfl rfl rfl rfl dX8_breaks_153 (by omega) ?_
      refine ⟨?_, rfl⟩
      unfold cBk cBrG
      (first | (rw [if_pos (by omega)]) | (rw [if_neg (by omega), if_pos (by omega)]) | (rw [if_neg (by omega), if_neg (by omega), if_pos (by omega)]) | (rw [if_neg (by omega), if_neg (by omega), if_neg (by omega), if_pos (by omega)]) | (rw [if_neg (by omega), if_neg (by omega), if_neg (by omega), if_neg (by omega), if_pos (by omega)]) | (rw [if_neg (by omega), if_neg (by omega), if_neg (by omega), if_neg (by omega), if_neg (by omega)])) <;> first | exact lv | omega
    refine j_icmp_le (tgt := 152) dX8_breaks_145 (by decide) (fun c145_37 => ?_) (fun c145_37 => ?_)
    · skip
      refine j_iconst dX8_breaks_152 (by decide) ?_
      exact hJ_35 _ (Or.inl ⟨c145_37, rfl⟩)
    · skip
      refine j_iconst dX8_breaks_148 (by decide) ?_
      refine j_goto (tgt := 153) dX8_breaks_149 (by decide) ?_
      exact hJ_35 _ (Or.inr (⟨c145_37, rfl⟩))
  · refine j_tswIn (tgt := 154) 4 s_1 dX8_breaks_1 (by decide) (by decide) rfl (by decide) ?_
    refine j_aload_n 0 dX8_breaks_154 rfl rfl ?_
    refine j_getr f_X8_19 r_0_1 dX8_breaks_155 ?_
    refine j_getr f_X8_320 r_9_2 dX8_breaks_158 ?_
    refine j_iload_n 1 dX8_breaks_161 rfl rfl ?_
    refine j_iald a_11 dX8_breaks_162 (by omega) (by omega) ?_
    have g_38 := h_cpapers h
    refine j_if_ne (tgt := 184) dX8_breaks_163 (by decide) (fun c163_39 => ?_) (fun c163_39 => ?_)
    · skip
      refine j_iconst dX8_breaks_184 (by decide) ?_
      refine j_zret rfl rfl rfl rfl dX8_breaks_185 (by omega) ?_
      refine ⟨?_, rfl⟩
      unfold cBk cBrG
      (first | (rw [if_pos (by omega)]) | (rw [if_neg (by omega), if_pos (by omega)]) | (rw [if_neg (by omega), if_neg (by omega), if_pos (by omega)]) | (rw [if_neg (by omega), if_neg (by omega), if_neg (by omega), if_pos (by omega)]) | (rw [if_neg (by omega), if_neg (by omega), if_neg (by omega), if_neg (by omega), if_pos (by omega)]) | (rw [if_neg (by omega), if_neg (by omega), if_neg (by omega), if_neg (by omega), if_neg (by omega)])) <;> first | exact lv | omega
    · skip
      refine j_aload_n 0 dX8_breaks_166 rfl rfl ?_
      refine j_getd (k' := 7) f_X8_58 o_0_7 dX8_breaks_167 rfl ?_
      refine j_eqR (y := f) (by exact hif) ?_
      refine j_iconst dX8_breaks_170 (by decide) ?_
      refine j_iload 4 dX8_breaks_171 rfl ?_
      refine j_callVi l_X8_154 ⟨Nat.le_of_ble_eq_true rfl, Nat.le_of_ble_eq_true rfl⟩ ⟨rfl, rfl⟩ dX8_breaks_173 (oba hf) (c_X0_asked M f hf 5 l hr (by omega)) rfl rfl (Nat.le_of_ble_eq_true rfl) (fun r_40 M_41 h_42 => ?_)
      obtain ⟨er_40, nh_42⟩ := h_42
      refine j_eqM nh_42 ?_
      clear nh_42
      have a5 : cA M f l 5 = r_40 := er_40.symm
      refine j_iconst dX8_breaks_176 (by decide) ?_
      have hJ_43 : ∀ zz : Int, (¬ r_40 = 1 ∧ zz = 0) ∨ (r_40 = 1 ∧ zz = 1) → jG D_X8_breaks X FJ shJ 0 0 (jqI (q_X8_breaks M f hf h m o l)) 185 [(0, jR 0), (1, jI h), (2, jI m), (3, jI o), (4, jI l)] (jI zz :: []) M := by
        intro t_44 et_44
        refine j_zret rfl rfl rfl rfl dX8_breaks_185 (by omega) ?_
        refine ⟨?_, rfl⟩
        unfold cBk cBrG
        (first | (rw [if_pos (by omega)]) | (rw [if_neg (by omega), if_pos (by omega)]) | (rw [if_neg (by omega), if_neg (by omega), if_pos (by omega)]) | (rw [if_neg (by omega), if_neg (by omega), if_neg (by omega), if_pos (by omega)]) | (rw [if_neg (by omega), if_neg (by omega), if_neg (by omega), if_neg (by omega), if_pos (by omega)]) | (rw [if_neg (by omega), if_neg (by omega), if_neg (by omega), if_neg (by omega), if_neg (by omega)])) <;> first | exact lv | omega
      refine j_icmp_ne (tgt := 184) dX8_breaks_177 (by decide) (fun c177_45 => ?_) (fun c177_45 => ?_)
      · skip
        refine j_iconst dX8_breaks_184 (by decide) ?_
        exact hJ_43 _ (Or.inl ⟨c177_45, rfl⟩)
      · skip
        refine j_iconst dX8_breaks_180 (by decide) ?_
        refine j_goto (tgt := 185) dX8_breaks_181 (by decide) ?_
        exact hJ_43 _ (Or.inr (⟨c177_45, rfl⟩))
  · refine j_tswIn (tgt := 186) 5 s_1 dX8_breaks_1 (by decide) (by decide) rfl (by decide) ?_
    refine j_aload_n 0 dX8_breaks_186 rfl rfl ?_
    refine j_getd (k' := 7) f_X8_58 o_0_7 dX8_breaks_187 rfl ?_
    refine j_eqR (y := f) (by exact hif) ?_
    refine j_bipush dX8_breaks_190 (by decide) ?_
    refine j_iload 4 dX8_breaks_192 rfl ?_
    refine j_callVi l_X8_154 ⟨Nat.le_of_ble_eq_true rfl, Nat.le_of_ble_eq_true rfl⟩ ⟨rfl, rfl⟩ dX8_breaks_194 (oba hf) (c_X0_asked M f hf 6 l hr (by omega)) rfl rfl (Nat.le_of_ble_eq_true rfl) (fun r_46 M_47 h_48 => ?_)
    obtain ⟨er_46, nh_48⟩ := h_48
    refine j_eqM nh_48 ?_
    clear nh_48
    have a6 : cA M f l 6 = r_46 := er_46.symm
    refine j_iconst dX8_breaks_197 (by decide) ?_
    have hJ_49 : ∀ zz : Int, (¬ r_46 = 1 ∧ zz = 0) ∨ (r_46 = 1 ∧ zz = 1) → jG D_X8_breaks X FJ shJ 0 0 (jqI (q_X8_breaks M f hf h m o l)) 206 [(0, jR 0), (1, jI h), (2, jI m), (3, jI o), (4, jI l)] (jI zz :: []) M := by
      intro t_50 et_50
      refine j_zret rfl rfl rfl rfl dX8_breaks_206 (by omega) ?_
      refine ⟨?_, rfl⟩
      unfold cBk cBrG
      (first | (rw [if_pos (by omega)]) | (rw [if_neg (by omega), if_pos (by omega)]) | (rw [if_neg (by omega), if_neg (by omega), if_pos (by omega)]) | (rw [if_neg (by omega), if_neg (by omega), if_neg (by omega), if_pos (by omega)]) | (rw [if_neg (by omega), if_neg (by omega), if_neg (by omega), if_neg (by omega), if_pos (by omega)]) | (rw [if_neg (by omega), if_neg (by omega), if_neg (by omega), if_neg (by omega), if_neg (by omega)])) <;> first | exact lv | omega
    refine j_icmp_ne (tgt := 205) dX8_breaks_198 (by decide) (fun c198_51 => ?_) (fun c198_51 => ?_)
    · skip
      refine j_iconst dX8_breaks_205 (by decide) ?_
      exact hJ_49 _ (Or.inl ⟨c198_51, rfl⟩)
    · skip
      refine j_iconst dX8_breaks_201 (by decide) ?_
      refine j_goto (tgt := 206) dX8_breaks_202 (by decide) ?_
      exact hJ_49 _ (Or.inr (⟨c198_51, rfl⟩))
  · refine j_tswOut (tgt := 207) dX8_breaks_1 (Or.inl s_1) (by decide) ?_
    refine j_iconst dX8_breaks_207 (by decide) ?_
    refine j_zret rfl rfl rfl rfl dX8_breaks_208 (by omega) ?_
    refine ⟨?_, rfl⟩
    unfold cBk cBrG
    (first | (rw [if_pos (by omega)]) | (rw [if_neg (by omega), if_pos (by omega)]) | (rw [if_neg (by omega), if_neg (by omega), if_pos (by omega)]) | (rw [if_neg (by omega), if_neg (by omega), if_neg (by omega), if_pos (by omega)]) | (rw [if_neg (by omega), if_neg (by omega), if_neg (by omega), if_neg (by omega), if_pos (by omega)]) | (rw [if_neg (by omega), if_neg (by omega), if_neg (by omega), if_neg (by omega), if_neg (by omega)])) <;> first | exact lv | omega
  · refine j_tswOut (tgt := 207) dX8_breaks_1 (Or.inr s_1) (by decide) ?_
    refine j_iconst dX8_breaks_207 (by decide) ?_
    refine j_zret rfl rfl rfl rfl dX8_breaks_208 (by omega) ?_
    refine ⟨?_, rfl⟩
    unfold cBk cBrG
    (first | (rw [if_pos (by omega)]) | (rw [if_neg (by omega), if_pos (by omega)]) | (rw [if_neg (by omega), if_neg (by omega), if_pos (by omega)]) | (rw [if_neg (by omega), if_neg (by omega), if_neg (by omega), if_pos (by omega)]) | (rw [if_neg (by omega), if_neg (by omega), if_neg (by omega), if_neg (by omega), if_pos (by omega)]) | (rw [if_neg (by omega), if_neg (by omega), if_neg (by omega), if_neg (by omega), if_neg (by omega)])) <;> first | exact lv | omega
abbrev q_X8_worstBreach (M : jM) (f : Int) (hf : jA f) (h d o : Int) : Int → jM → Prop := fun r N => wB M N f h d o r
set_option maxHeartbeats 4000000 in
set_option maxRecDepth 20000 in
theorem c_X8_worstBreach {X : jX} (M : jM) (f : Int) (hf : jA f) (h d o : Int) (h_cmills : 0 ≤ M 1 0 ∧ M 1 0 ≤ 6) (h_clines : 0 ≤ M 16 0 ∧ M 16 0 ≤ 60) (h_cchecks : ∀ i, 0 ≤ M 6 i ∧ M 6 i ≤ 4) (h_ccerr : ∀ i, -90 ≤ M 8 i ∧ M 8 i ≤ 90) (h_clwhere : ∀ i, M 19 i = -9 ∨ (0 ≤ M 19 i ∧ M 19 i < 6)) (h_clin : ∀ i, 0 ≤ M 20 i ∧ M 20 i ≤ 1439) (h_clout : ∀ i, 0 ≤ M 21 i ∧ M 21 i ≤ 1440) (h_cgrade : ∀ i, 0 ≤ M 15 i ∧ M 15 i ≤ 3) (h_cpapers : ∀ i, 0 ≤ M 11 i ∧ M 11 i ≤ 3) (h_cfrom : ∀ i, 0 ≤ M 12 i ∧ M 12 i ≤ 99999) (h_cto : ∀ i, 0 ≤ M 13 i ∧ M 13 i ≤ 10799) (h_ckind : ∀ i, 0 ≤ M 10 i ∧ M 10 i ≤ 5) (h_ctrade : ∀ i, 0 ≤ M 2 i ∧ M 2 i ≤ 3) (hif : M 0 7 = f) (hA : cAct M f) (h0 : 0 ≤ h ∧ h < 24) (hd0 : 0 ≤ d ∧ d ≤ 359) (ho : 0 ≤ o ∧ o ≤ 5) : jC yX8_worstBreach D_X8_worstBreach X FJ shJ [jR 0, jI h, jI d, jI o] M (jqI (q_X8_worstBreach M f hf h d o)) := by
  refine jC_of (by decide) rfl (fun ad => Nat.le_of_ble_eq_true rfl) (by decide) ?_
  show jG D_X8_worstBreach X FJ shJ 0 0 (jqI (q_X8_worstBreach M f hf h d o)) 0 [(0, jR 0), (1, jI h), (2, jI d), (3, jI o)] [] M
  have hf2 : f = 47 ∨ f = 59 := hf
  have hr := hA.1
  refine j_aload_n 0 dX8_worstBreach_0 rfl rfl ?_
  refine j_getr f_X8_28 r_0_3 dX8_worstBreach_1 ?_
  refine j_iload_n 1 dX8_worstBreach_4 rfl rfl ?_
  refine j_iload_n 2 dX8_worstBreach_5 rfl rfl ?_
  refine j_callVv l_X8_189 ⟨Nat.le_of_ble_eq_true rfl, Nat.le_of_ble_eq_true rfl⟩ ⟨rfl, rfl⟩ dX8_worstBreach_6 ob_16 (c_X1_pick M h d h_clines h_cchecks h_ccerr h_clwhere h_clin h_clout) rfl rfl (Nat.le_of_ble_eq_true rfl) (fun M_2 h_3 => ?_)
  have ph_3 := h_3
  unfold q_X1_pick at ph_3
  have rgh_3 := ph_3.rg (by omega) h_clwhere h_ccerr h_clin h_clout
  have frh_3 := ph_3.2.2.2.2.2.2.1
  have fkh_3 := ph_3.2.2.2.2.2.2.2
  have f0 : M_2 f = M f := frh_3 (f) (by omega) (by omega) (by omega) (by omega) (by omega) (by omega)
  have hAP : cAct M_2 f := cAct_fr (by rw [f0]) (frh_3 (f + 1) (by omega) (by omega) (by omega) (by omega) (by omega) (by omega)) (frh_3 (f + 7) (by omega) (by omega) (by omega) (by omega) (by omega) (by omega)) (frh_3 (f + 8) (by omega) (by omega) (by omega) (by omega) (by omega) (by omega)) (frh_3 (f + 9) (by omega) (by omega) (by omega) (by omega) (by omega) (by omega)) hA
  have hrP := hAP.1
  refine j_iconst dX8_worstBreach_9 (by decide) ?_
  refine j_istore (ls' := [(0, jR 0), (1, jI h), (2, jI d), (3, jI o), (4, jI 0)]) dX8_worstBreach_10 (by decide) rfl ?_
  refine j_iconst dX8_worstBreach_12 (by decide) ?_
  refine j_istore (ls' := [(0, jR 0), (1, jI h), (2, jI d), (3, jI o), (4, jI 0), (5, jI 0)]) dX8_worstBreach_13 (by decide) rfl ?_
  have lp15_4 : ∀ n15 : Nat, ∀ (v4 v5 : Int), ∀ N15 : jM, (0 ≤ v5 ∧ v5 ≤ M 1 0) ∧ (bMx (cHit M_2 f h d o 2) (cHit M_2 f h d o 1) v5 v4) ∧ (v4 ≤ 1) ∧ (kA f M_2 N15) → (M 1 0 - v5).toNat < n15 → jG D_X8_worstBreach X FJ shJ 0 0 (jqI (q_X8_worstBreach M f hf h d o)) 15 [(0, jR 0), (1, jI h), (2, jI d), (3, jI o), (4, jI v4), (5, jI v5)] ([]) N15 := by
    intro n15
    induction n15 with
    | zero => intro v4 v5 N15 _ hz; exact absurd hz (Nat.not_lt_zero _)
    | succ n15 ih15 =>
      intro v4 v5 N15 hinv hm
      obtain ⟨h1, hb, hv, hk⟩ := hinv
      have hv0 := bMx_in hb
      have rgN : pRg N15 := pRg_kA hf2 hk rgh_3
      have hAN : cAct N15 f := cAct_kA hk hAP
      refine j_iload 5 dX8_worstBreach_15 rfl ?_
      refine j_aload_n 0 dX8_worstBreach_17 rfl rfl ?_
      refine j_getr f_X8_10 r_0_0 dX8_worstBreach_18 ?_
      refine j_geti (k' := 0) f_X8_293 o_1_0 dX8_worstBreach_21 rfl ?_
      refine j_eq (Eq.trans (congrFun (hk.1 1 (by omega) (by omega) (by omega)) 0) (congrFun (frh_3 1 (by decide) (by decide) (by decide) (by decide) (by decide) (by decide)) 0)) ?_
      refine j_icmp_ge (tgt := 88) dX8_worstBreach_24 (by decide) (fun c24_5 => ?_) (fun c24_5 => ?_)
      · skip
        refine j_iload 4 dX8_worstBreach_88 rfl ?_
        refine j_iret rfl rfl rfl rfl dX8_worstBreach_90 ?_
        have e6 : v5 = M 1 0 := by omega
        rw [e6] at hb
        exact ⟨M_2, ph_3, hk, hb⟩
      · skip
        refine j_aload_n 0 dX8_worstBreach_27 rfl rfl ?_
        refine j_getr f_X8_28 r_0_3 dX8_worstBreach_28 ?_
        refine j_iload 5 dX8_worstBreach_31 rfl ?_
        refine j_callVi l_X8_246 ⟨Nat.le_of_ble_eq_true rfl, Nat.le_of_ble_eq_true rfl⟩ ⟨rfl, rfl⟩ dX8_worstBreach_33 ob_16 (c_X1_pickedAt N15 v5 (by assumption)) rfl rfl (Nat.le_of_ble_eq_true rfl) (fun r_6 M_7 h_8 => ?_)
        obtain ⟨er_6, nh_8⟩ := h_8
        refine j_eqM nh_8 ?_
        clear nh_8
        simp only [(congrFun (hk.1 16 (by omega) (by omega) (by omega)) 6), (hk.1 22 (by omega) (by omega) (by omega))] at er_6
        have hp : pkAt M_2 v5 r_6 := er_6
        clear er_6
        have hp2 := pkAt_in hp
        refine j_if_ne (tgt := 42) dX8_worstBreach_36 (by decide) (fun c36_9 => ?_) (fun c36_9 => ?_)
        · skip
          refine j_aload_n 0 dX8_worstBreach_42 rfl rfl ?_
          refine j_getd (k' := 7) f_X8_58 o_0_7 dX8_worstBreach_43 rfl ?_
          refine j_eqR (y := f) (by rw [hk.1 0 (by omega) (by omega) (by omega), frh_3 0 (by decide) (by decide) (by decide) (by decide) (by decide) (by decide)]; exact hif) ?_
          refine j_iload_n 1 dX8_worstBreach_46 rfl rfl ?_
          refine j_iload 5 dX8_worstBreach_47 rfl ?_
          refine j_iload_n 2 dX8_worstBreach_49 rfl rfl ?_
          refine j_callVv l_X8_150 ⟨Nat.le_of_ble_eq_true rfl, Nat.le_of_ble_eq_true rfl⟩ ⟨rfl, rfl⟩ dX8_worstBreach_50 (oba hf) (c_X0_ask N15 f hf h v5 d (by rw [(Eq.trans (hk.1 15 (by omega) (by omega) (by omega)) (frh_3 15 (by decide) (by decide) (by decide) (by decide) (by decide) (by decide)))]; exact h_cgrade) (by rw [(Eq.trans (hk.1 11 (by omega) (by omega) (by omega)) (frh_3 11 (by decide) (by decide) (by decide) (by decide) (by decide) (by decide)))]; exact h_cpapers) (by rw [(Eq.trans (hk.1 12 (by omega) (by omega) (by omega)) (frh_3 12 (by decide) (by decide) (by decide) (by decide) (by decide) (by decide)))]; exact h_cfrom) (by rw [(Eq.trans (hk.1 13 (by omega) (by omega) (by omega)) (frh_3 13 (by decide) (by decide) (by decide) (by decide) (by decide) (by decide)))]; exact h_cto) (by rw [(Eq.trans (hk.1 10 (by omega) (by omega) (by omega)) (frh_3 10 (by decide) (by decide) (by decide) (by decide) (by decide) (by decide)))]; exact h_ckind) (by rw [(Eq.trans (hk.1 2 (by omega) (by omega) (by omega)) (frh_3 2 (by decide) (by decide) (by decide) (by decide) (by decide) (by decide)))]; exact h_ctrade) (by rw [hk.2 0 (by decide)]; exact hrP) h0 (by omega) hd0 (fun r0 a b => hAN.2.1 r0 a b)) rfl rfl (Nat.le_of_ble_eq_true rfl) (fun M_11 h_12 => ?_)
          obtain ⟨ea1, ea2, frh_12, ea4⟩ := h_12
          have ka : kA f N15 M_11 := ⟨frh_12, ea4⟩
          have kt := kA_tr hk ka
          have rgM : pRg M_11 := pRg_kA hf2 kt rgh_3
          have e1 : M_11 f 13 = fCustom (M_2 10 h) (M_2 15 h) (M_2 11 h) := by rw [ea1, hk.1 10 (by omega) (by omega) (by omega), hk.1 15 (by omega) (by omega) (by omega), hk.1 11 (by omega) (by omega) (by omega)]
          have e2 : ∀ k, 0 ≤ k → k < M_2 f 0 → M_11 (f + 11) k = cB M_2 f k h v5 d := fun k a b => by rw [← cB_kA hf2 hk]; exact ea2 k a (by rw [hk.2 0 (by decide)]; exact b)
          have cb := fun l => cBr_of (m := v5) (d := d) hf2 hrP.1 e1 e2 kt o l
          refine j_aload_n 0 dX8_worstBreach_53 rfl rfl ?_
          refine j_iload_n 1 dX8_worstBreach_54 rfl rfl ?_
          refine j_iload 5 dX8_worstBreach_55 rfl ?_
          refine j_iload_n 3 dX8_worstBreach_57 rfl rfl ?_
          refine j_iconst dX8_worstBreach_58 (by decide) ?_
          refine j_callVi l_X8_310 ⟨Nat.le_of_ble_eq_true rfl, Nat.le_of_ble_eq_true rfl⟩ ⟨rfl, rfl⟩ dX8_worstBreach_59 ob_0 (c_X8_breaks M_11 f hf h v5 o 2 (by assumption) (by rw [(Eq.trans (frh_12 11 (by omega) (by omega) (by omega)) (Eq.trans (hk.1 11 (by omega) (by omega) (by omega)) (frh_3 11 (by decide) (by decide) (by decide) (by decide) (by decide) (by decide))))]; exact h_cpapers) (by rw [kt.1 0 (by omega) (by omega) (by omega), frh_3 0 (by decide) (by decide) (by decide) (by decide) (by decide) (by decide)]; exact hif) h0 (by rw [kt.2 0 (by decide)]; exact hrP) ho) rfl rfl (Nat.le_of_ble_eq_true rfl) (fun r_13 M_14 h_15 => ?_)
          obtain ⟨er_13, nh_15⟩ := h_15
          refine j_eqM nh_15 ?_
          clear nh_15
          have b2 : (r_13 = 1 ∧ cBr M_2 f h d v5 o 2) ∨ (r_13 = 0 ∧ ¬ cBr M_2 f h d v5 o 2) := by rw [← cb 2]; exact er_13
          refine j_if_eq (tgt := 67) dX8_worstBreach_62 (by decide) (fun c62_16 => ?_) (fun c62_16 => ?_)
          · skip
            refine j_aload_n 0 dX8_worstBreach_67 rfl rfl ?_
            refine j_iload_n 1 dX8_worstBreach_68 rfl rfl ?_
            refine j_iload 5 dX8_worstBreach_69 rfl ?_
            refine j_iload_n 3 dX8_worstBreach_71 rfl rfl ?_
            refine j_iconst dX8_worstBreach_72 (by decide) ?_
            refine j_callVi l_X8_310 ⟨Nat.le_of_ble_eq_true rfl, Nat.le_of_ble_eq_true rfl⟩ ⟨rfl, rfl⟩ dX8_worstBreach_73 ob_0 (c_X8_breaks M_11 f hf h v5 o 1 (by assumption) (by rw [(Eq.trans (frh_12 11 (by omega) (by omega) (by omega)) (Eq.trans (hk.1 11 (by omega) (by omega) (by omega)) (frh_3 11 (by decide) (by decide) (by decide) (by decide) (by decide) (by decide))))]; exact h_cpapers) (by rw [kt.1 0 (by omega) (by omega) (by omega), frh_3 0 (by decide) (by decide) (by decide) (by decide) (by decide) (by decide)]; exact hif) h0 (by rw [kt.2 0 (by decide)]; exact hrP) ho) rfl rfl (Nat.le_of_ble_eq_true rfl) (fun r_17 M_18 h_19 => ?_)
            obtain ⟨er_17, nh_19⟩ := h_19
            refine j_eqM nh_19 ?_
            clear nh_19
            have b1 : (r_17 = 1 ∧ cBr M_2 f h d v5 o 1) ∨ (r_17 = 0 ∧ ¬ cBr M_2 f h d v5 o 1) := by rw [← cb 1]; exact er_17
            refine j_if_eq (tgt := 82) dX8_worstBreach_76 (by decide) (fun c76_20 => ?_) (fun c76_20 => ?_)
            · skip
              obtain ⟨v5_21, ev5_21⟩ : ∃ y : Int, y = v5 + 1 := ⟨_, rfl⟩
              refine j_iinc (y := v5_21) (ls' := [(0, jR 0), (1, jI h), (2, jI d), (3, jI o), (4, jI v4), (5, jI v5_21)]) 5 dX8_worstBreach_82 rfl ev5_21 (by omega) (by decide) rfl ?_
              refine j_goto (tgt := 15) dX8_worstBreach_85 (by decide) ?_
              exact ih15 v4 v5_21 M_11 ⟨by omega, by rw [ev5_21]; first | exact bMx_no hb (fun z => pkAt_no hp (by omega) z.1) (fun z => pkAt_no hp (by omega) z.1) | exact bMx_one h1.1 hb (fun z => by (rcases b2 with ⟨y, _⟩ | ⟨_, y⟩; (· omega); (· exact y z.2))) ⟨pkAt_yes hp (by omega), (by rcases b1 with ⟨_, y⟩ | ⟨y, _⟩; (· exact y); (· omega))⟩ (by omega) | exact bMx_no hb (fun z => by (rcases b2 with ⟨y, _⟩ | ⟨_, y⟩; (· omega); (· exact y z.2))) (fun z => by (rcases b1 with ⟨y, _⟩ | ⟨_, y⟩; (· omega); (· exact y z.2))), by omega, by first | exact hk | exact kt⟩ (by omega)
            · skip
              refine j_iconst dX8_worstBreach_79 (by decide) ?_
              refine j_istore (ls' := [(0, jR 0), (1, jI h), (2, jI d), (3, jI o), (4, jI 1), (5, jI v5)]) dX8_worstBreach_80 (by decide) rfl ?_
              obtain ⟨v5_22, ev5_22⟩ : ∃ y : Int, y = v5 + 1 := ⟨_, rfl⟩
              refine j_iinc (y := v5_22) (ls' := [(0, jR 0), (1, jI h), (2, jI d), (3, jI o), (4, jI 1), (5, jI v5_22)]) 5 dX8_worstBreach_82 rfl ev5_22 (by omega) (by decide) rfl ?_
              refine j_goto (tgt := 15) dX8_worstBreach_85 (by decide) ?_
              exact ih15 1 v5_22 M_11 ⟨by omega, by rw [ev5_22]; first | exact bMx_no hb (fun z => pkAt_no hp (by omega) z.1) (fun z => pkAt_no hp (by omega) z.1) | exact bMx_one h1.1 hb (fun z => by (rcases b2 with ⟨y, _⟩ | ⟨_, y⟩; (· omega); (· exact y z.2))) ⟨pkAt_yes hp (by omega), (by rcases b1 with ⟨_, y⟩ | ⟨y, _⟩; (· exact y); (· omega))⟩ (by omega) | exact bMx_no hb (fun z => by (rcases b2 with ⟨y, _⟩ | ⟨_, y⟩; (· omega); (· exact y z.2))) (fun z => by (rcases b1 with ⟨y, _⟩ | ⟨_, y⟩; (· omega); (· exact y z.2))), by omega, by first | exact hk | exact kt⟩ (by omega)
          · skip
            refine j_iconst dX8_worstBreach_65 (by decide) ?_
            refine j_iret rfl rfl rfl rfl dX8_worstBreach_66 ?_
            exact ⟨M_2, ph_3, kt, bMx_two (x := v5) ⟨by omega, by omega⟩ ⟨pkAt_yes hp (by omega), (by rcases b2 with ⟨_, y⟩ | ⟨y, _⟩; (· exact y); (· omega))⟩⟩
        · skip
          refine j_goto (tgt := 82) dX8_worstBreach_39 (by decide) ?_
          obtain ⟨v5_23, ev5_23⟩ : ∃ y : Int, y = v5 + 1 := ⟨_, rfl⟩
          refine j_iinc (y := v5_23) (ls' := [(0, jR 0), (1, jI h), (2, jI d), (3, jI o), (4, jI v4), (5, jI v5_23)]) 5 dX8_worstBreach_82 rfl ev5_23 (by omega) (by decide) rfl ?_
          refine j_goto (tgt := 15) dX8_worstBreach_85 (by decide) ?_
          exact ih15 v4 v5_23 N15 ⟨by omega, by rw [ev5_23]; first | exact bMx_no hb (fun z => pkAt_no hp (by omega) z.1) (fun z => pkAt_no hp (by omega) z.1) | exact bMx_one h1.1 hb (fun z => by (rcases b2 with ⟨y, _⟩ | ⟨_, y⟩; (· omega); (· exact y z.2))) ⟨pkAt_yes hp (by omega), (by rcases b1 with ⟨_, y⟩ | ⟨y, _⟩; (· exact y); (· omega))⟩ (by omega) | exact bMx_no hb (fun z => by (rcases b2 with ⟨y, _⟩ | ⟨_, y⟩; (· omega); (· exact y z.2))) (fun z => by (rcases b1 with ⟨y, _⟩ | ⟨_, y⟩; (· omega); (· exact y z.2))), by omega, by first | exact hk | exact kt⟩ (by omega)
  exact lp15_4 _ 0 0 M_2 ⟨by omega, by exact bMx_0 _ _, by omega, by exact kA_rf f _⟩ (Nat.lt_succ_self _)
