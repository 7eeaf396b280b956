abbrev q_X9_dutyOf (M : jM)  (h m d w s : Int) : Int → jM → Prop := fun r N => r = rD M h m d w s (M 74 20).toNat ∧ ∀ c, c ≠ 87 → c ≠ 88 → N c = M c
set_option maxHeartbeats 4000000 in
set_option maxRecDepth 20000 in
theorem c_X9_dutyOf {X : jX} (M : jM)  (h m d w s : Int) (h_rkind : ∀ i, 0 ≤ M 80 i ∧ M 80 i ≤ 5) (h_rgrade : ∀ i, 0 ≤ M 81 i ∧ M 81 i ≤ 3) (h_rpapers : ∀ i, 0 ≤ M 82 i ∧ M 82 i ≤ 3) (h_rtrade : ∀ i, 0 ≤ M 76 i ∧ M 76 i ≤ 3) (h_rpaper : pOk (M 83)) (h0 : 0 ≤ h ∧ h < 24) (hm0 : 0 ≤ m ∧ m < 6) (hd0 : 0 ≤ d ∧ d ≤ 359) (hw : 0 ≤ w ∧ w ≤ 6) (hA : rAct M) : jC yX9_dutyOf D_X9_dutyOf X FJ shJ [jR 74, jI h, jI m, jI d, jI w, jI s] M (jqI (q_X9_dutyOf M h m d w s)) := by
  refine jC_of (by decide) rfl (fun ad => Nat.le_of_ble_eq_true rfl) (by decide) ?_
  show jG D_X9_dutyOf X FJ shJ 0 0 (jqI (q_X9_dutyOf M h m d w s)) 0 [(0, jR 74), (1, jI h), (2, jI m), (3, jI d), (4, jI w), (5, jI s)] [] M
  have hkd := h_rkind h
  have hr := hA.1
  refine j_iload 4 dX9_dutyOf_0 rfl ?_
  refine j_if_ne (tgt := 19) dX9_dutyOf_2 (by decide) (fun c2_1 => ?_) (fun c2_1 => ?_)
  · skip
    refine j_iload 4 dX9_dutyOf_19 rfl ?_
    refine j_iconst dX9_dutyOf_21 (by decide) ?_
    have hJ_2 : ∀ zz : Int, (w = 2 ∧ zz = 1440) ∨ (¬ w = 2 ∧ ¬ w = 4 ∧ zz = 0) ∨ (¬ w = 2 ∧ w = 4 ∧ zz = 1440) → jG D_X9_dutyOf X FJ shJ 0 0 (jqI (q_X9_dutyOf M h m d w s)) 38 [(0, jR 74), (1, jI h), (2, jI m), (3, jI d), (4, jI w), (5, jI s)] (jI zz :: []) M := by
      intro t_3 et_3
      refine j_istore (ls' := [(0, jR 74), (1, jI h), (2, jI m), (3, jI d), (4, jI w), (5, jI s), (6, jI t_3)]) dX9_dutyOf_38 (by decide) rfl ?_
      have e4 : t_3 = (if w = 0 then fCustom (M 80 h) (M 81 h) (M 82 h) else if w = 2 ∨ w = 4 then 1440 else 0) := by (repeat' split) <;> omega
      refine j_iconst dX9_dutyOf_40 (by decide) ?_
      refine j_istore (ls' := [(0, jR 74), (1, jI h), (2, jI m), (3, jI d), (4, jI w), (5, jI s), (6, jI t_3), (7, jI 0)]) dX9_dutyOf_41 (by decide) rfl ?_
      have lp43_4 : ∀ n43 : Nat, ∀ (v6 v7 : Int), ∀ N43 : jM, (0 ≤ v7 ∧ v7 ≤ M 74 20) ∧ (v6 = rD M h m d w s v7.toNat) ∧ (∀ c, c ≠ 87 → c ≠ 88 → N43 c = M c) → (M 74 20 - v7).toNat < n43 → jG D_X9_dutyOf X FJ shJ 0 0 (jqI (q_X9_dutyOf M h m d w s)) 43 [(0, jR 74), (1, jI h), (2, jI m), (3, jI d), (4, jI w), (5, jI s), (6, jI v6), (7, jI v7)] ([]) N43 := by
        intro n43
        induction n43 with
        | zero => intro v6 v7 N43 _ hz; exact absurd hz (Nat.not_lt_zero _)
        | succ n43 ih43 =>
          intro v6 v7 N43 hinv hm
          obtain ⟨h1, h2, hk⟩ := hinv
          refine j_iload 7 dX9_dutyOf_43 rfl ?_
          refine j_aload_n 0 dX9_dutyOf_45 rfl rfl ?_
          refine j_geti (k' := 20) f_X9_252 o_74_20 dX9_dutyOf_46 rfl ?_
          refine j_eq (congrFun (hk 74 (by decide) (by decide)) 20) ?_
          refine j_icmp_ge (tgt := 159) dX9_dutyOf_49 (by decide) (fun c49_5 => ?_) (fun c49_5 => ?_)
          · skip
            refine j_iload 6 dX9_dutyOf_159 rfl ?_
            refine j_iret rfl rfl rfl rfl dX9_dutyOf_161 ?_
            have e6 : v7 = M 74 20 := by omega
            rw [e6] at h2
            exact ⟨h2, hk⟩
          · skip
            refine j_aload_n 0 dX9_dutyOf_52 rfl rfl ?_
            refine j_getr f_X9_41 r_74_22 dX9_dutyOf_53 ?_
            refine j_bipush dX9_dutyOf_56 (by decide) ?_
            refine j_iload 7 dX9_dutyOf_58 rfl ?_
            refine j_imul dX9_dutyOf_60 (by omega) ?_
            refine j_bipush dX9_dutyOf_61 (by decide) ?_
            refine j_iadd dX9_dutyOf_63 (by omega) ?_
            refine j_iload 4 dX9_dutyOf_64 rfl ?_
            refine j_iadd dX9_dutyOf_66 (by omega) ?_
            refine j_iald a_85 dX9_dutyOf_67 (by omega) (by omega) ?_
            refine j_eq (congrFun (hk 85 (by decide) (by decide)) (((20 * v7) + 6) + w)) ?_
            refine j_nm (fun v8_6 ev8_6 => ?_)
            refine j_istore (ls' := [(0, jR 74), (1, jI h), (2, jI m), (3, jI d), (4, jI w), (5, jI s), (6, jI v6), (7, jI v7), (8, jI v8_6)]) dX9_dutyOf_68 (by decide) rfl ?_
            refine j_iload 8 dX9_dutyOf_70 rfl ?_
            refine j_bipush dX9_dutyOf_72 (by decide) ?_
            refine j_icmp_eq (tgt := 153) dX9_dutyOf_74 (by decide) (fun c74_7 => ?_) (fun c74_7 => ?_)
            · skip
              obtain ⟨v7_8, ev7_8⟩ : ∃ y : Int, y = v7 + 1 := ⟨_, rfl⟩
              refine j_iinc (y := v7_8) (ls' := [(0, jR 74), (1, jI h), (2, jI m), (3, jI d), (4, jI w), (5, jI s), (6, jI v6), (7, jI v7_8), (8, jI v8_6)]) 7 dX9_dutyOf_153 rfl ev7_8 (by omega) (by decide) rfl ?_
              refine j_goto (tgt := 43) dX9_dutyOf_156 (by decide) ?_
              refine j_sub (ls' := [(0, jR 74), (1, jI h), (2, jI m), (3, jI d), (4, jI w), (5, jI s), (6, jI v6), (7, jI v7_8)]) [0, 1, 2, 3, 4, 5, 6, 7] rfl ?_
              exact ih43 v6 v7_8 N43 ⟨by omega, by rw [ev7_8, toNat_s h1.1]; unfold rD eFold; rw [toNat_c h1.1]; rw [show eFold _ _ _ _ v7.toNat = v6 from h2.symm]; first | (rw [if_neg (by rw [decide_eq_true_iff]; omega)]; done) | (rw [if_pos (decide_eq_true (by omega))]; by_cases hq : w = 0 ∨ w = 2 ∨ w = 4; (· rw [if_pos (decide_eq_true hq)]; omega); (· rw [if_neg (by rw [decide_eq_true_iff]; exact hq)]; omega)), by intro c z1 z2; first | exact hk c z1 z2 | (rw [jup_zz c z1 z2]; exact hk c z1 z2)⟩ (by omega)
            · skip
              refine j_aload_n 0 dX9_dutyOf_77 rfl rfl ?_
              refine j_iload 7 dX9_dutyOf_78 rfl ?_
              refine j_iload_n 1 dX9_dutyOf_80 rfl rfl ?_
              refine j_iload_n 2 dX9_dutyOf_81 rfl rfl ?_
              refine j_iload_n 3 dX9_dutyOf_82 rfl rfl ?_
              refine j_callVi l_X9_268 ⟨Nat.le_of_ble_eq_true rfl, Nat.le_of_ble_eq_true rfl⟩ ⟨rfl, rfl⟩ dX9_dutyOf_83 ob_74 (c_X9_bindsOf N43 v7 h m d (by rw [(hk 80 (by decide) (by decide))]; exact h_rkind) (by rw [(hk 76 (by decide) (by decide))]; exact h_rtrade) (by rw [(hk 82 (by decide) (by decide))]; exact h_rpapers) (by rw [(hk 83 (by decide) (by decide))]; exact h_rpaper) (by omega) h0 hm0 hd0 (by rw [hk 85 (by decide) (by decide)]; exact gAll_cg (hk 85 (by decide) (by decide)) (hk 86 (by decide) (by decide)) (hA.2 v7 (by omega) (by omega)).1)) rfl rfl (Nat.le_of_ble_eq_true rfl) (fun r_9 M_10 h_11 => ?_)
              obtain ⟨eb, frh_11⟩ := h_11
              rw [rB_cg hk] at eb
              refine j_iload 5 dX9_dutyOf_86 rfl ?_
              refine j_icmp_le (tgt := 153) dX9_dutyOf_88 (by decide) (fun c88_12 => ?_) (fun c88_12 => ?_)
              · skip
                obtain ⟨v7_13, ev7_13⟩ : ∃ y : Int, y = v7 + 1 := ⟨_, rfl⟩
                refine j_iinc (y := v7_13) (ls' := [(0, jR 74), (1, jI h), (2, jI m), (3, jI d), (4, jI w), (5, jI s), (6, jI v6), (7, jI v7_13), (8, jI v8_6)]) 7 dX9_dutyOf_153 rfl ev7_13 (by omega) (by decide) rfl ?_
                refine j_goto (tgt := 43) dX9_dutyOf_156 (by decide) ?_
                refine j_sub (ls' := [(0, jR 74), (1, jI h), (2, jI m), (3, jI d), (4, jI w), (5, jI s), (6, jI v6), (7, jI v7_13)]) [0, 1, 2, 3, 4, 5, 6, 7] rfl ?_
                exact ih43 v6 v7_13 M_10 ⟨by omega, by rw [ev7_13, toNat_s h1.1]; unfold rD eFold; rw [toNat_c h1.1]; rw [show eFold _ _ _ _ v7.toNat = v6 from h2.symm]; first | (rw [if_neg (by rw [decide_eq_true_iff]; omega)]; done) | (rw [if_pos (decide_eq_true (by omega))]; by_cases hq : w = 0 ∨ w = 2 ∨ w = 4; (· rw [if_pos (decide_eq_true hq)]; omega); (· rw [if_neg (by rw [decide_eq_true_iff]; exact hq)]; omega)), by intro c z1 z2; first | exact hk c z1 z2 | (rw [frh_11 c z1 z2]; exact hk c z1 z2)⟩ (by omega)
              · skip
                refine j_iload 4 dX9_dutyOf_91 rfl ?_
                have hJ_14 : ∀ zz : Int, (w = 0 ∧ zz = 1) ∨ (¬ w = 0 ∧ w = 2 ∧ zz = 1) ∨ (¬ w = 0 ∧ ¬ w = 2 ∧ ¬ w = 4 ∧ zz = 0) ∨ (¬ w = 0 ∧ ¬ w = 2 ∧ w = 4 ∧ zz = 1) → jG D_X9_dutyOf X FJ shJ 0 0 (jqI (q_X9_dutyOf M h m d w s)) 113 [(0, jR 74), (1, jI h), (2, jI m), (3, jI d), (4, jI w), (5, jI s), (6, jI v6), (7, jI v7), (8, jI v8_6)] (jI zz :: []) M_10 := by
                  intro t_15 et_15
                  refine j_istore (ls' := [(0, jR 74), (1, jI h), (2, jI m), (3, jI d), (4, jI w), (5, jI s), (6, jI v6), (7, jI v7), (8, jI v8_6), (9, jI t_15)]) dX9_dutyOf_113 (by decide) rfl ?_
                  refine j_iload 9 dX9_dutyOf_115 rfl ?_
                  have hJ_16 : ∀ zz : Int, (t_15 = 0 ∧ v8_6 ≤ v6 ∧ zz = v6) ∨ (t_15 = 0 ∧ ¬ (v8_6 ≤ v6) ∧ zz = v8_6) ∨ (¬ t_15 = 0 ∧ v6 ≤ v8_6 ∧ zz = v6) ∨ (¬ t_15 = 0 ∧ ¬ (v6 ≤ v8_6) ∧ zz = v8_6) → jG D_X9_dutyOf X FJ shJ 0 0 (jqI (q_X9_dutyOf M h m d w s)) 151 [(0, jR 74), (1, jI h), (2, jI m), (3, jI d), (4, jI w), (5, jI s), (6, jI v6), (7, jI v7), (8, jI v8_6), (9, jI t_15)] (jI zz :: []) M_10 := by
                    intro t_17 et_17
                    refine j_istore (ls' := [(0, jR 74), (1, jI h), (2, jI m), (3, jI d), (4, jI w), (5, jI s), (6, jI t_17), (7, jI v7), (8, jI v8_6), (9, jI t_15)]) dX9_dutyOf_151 (by decide) rfl ?_
                    obtain ⟨v7_18, ev7_18⟩ : ∃ y : Int, y = v7 + 1 := ⟨_, rfl⟩
                    refine j_iinc (y := v7_18) (ls' := [(0, jR 74), (1, jI h), (2, jI m), (3, jI d), (4, jI w), (5, jI s), (6, jI t_17), (7, jI v7_18), (8, jI v8_6), (9, jI t_15)]) 7 dX9_dutyOf_153 rfl ev7_18 (by omega) (by decide) rfl ?_
                    refine j_goto (tgt := 43) dX9_dutyOf_156 (by decide) ?_
                    refine j_sub (ls' := [(0, jR 74), (1, jI h), (2, jI m), (3, jI d), (4, jI w), (5, jI s), (6, jI t_17), (7, jI v7_18)]) [0, 1, 2, 3, 4, 5, 6, 7] rfl ?_
                    exact ih43 t_17 v7_18 M_10 ⟨by omega, by rw [ev7_18, toNat_s h1.1]; unfold rD eFold; rw [toNat_c h1.1]; rw [show eFold _ _ _ _ v7.toNat = v6 from h2.symm]; first | (rw [if_neg (by rw [decide_eq_true_iff]; omega)]; done) | (rw [if_pos (decide_eq_true (by omega))]; by_cases hq : w = 0 ∨ w = 2 ∨ w = 4; (· rw [if_pos (decide_eq_true hq)]; omega); (· rw [if_neg (by rw [decide_eq_true_iff]; exact hq)]; omega)), by intro c z1 z2; first | exact hk c z1 z2 | (rw [frh_11 c z1 z2]; exact hk c z1 z2)⟩ (by omega)
                  refine j_if_eq (tgt := 137) dX9_dutyOf_117 (by decide) (fun c117_19 => ?_) (fun c117_19 => ?_)
                  · skip
                    refine j_iload 8 dX9_dutyOf_137 rfl ?_
                    refine j_iload 6 dX9_dutyOf_139 rfl ?_
                    refine j_icmp_le (tgt := 149) dX9_dutyOf_141 (by decide) (fun c141_20 => ?_) (fun c141_20 => ?_)
                    · skip
                      refine j_iload 6 dX9_dutyOf_149 rfl ?_
                      exact hJ_16 _ (Or.inl ⟨c117_19, c141_20, rfl⟩)
                    · skip
                      refine j_iload 8 dX9_dutyOf_144 rfl ?_
                      refine j_goto (tgt := 151) dX9_dutyOf_146 (by decide) ?_
                      exact hJ_16 _ (Or.inr (Or.inl ⟨c117_19, c141_20, rfl⟩))
                  · skip
                    refine j_iload 8 dX9_dutyOf_120 rfl ?_
                    refine j_iload 6 dX9_dutyOf_122 rfl ?_
                    refine j_icmp_ge (tgt := 132) dX9_dutyOf_124 (by decide) (fun c124_21 => ?_) (fun c124_21 => ?_)
                    · skip
                      refine j_iload 6 dX9_dutyOf_132 rfl ?_
                      refine j_goto (tgt := 151) dX9_dutyOf_134 (by decide) ?_
                      exact hJ_16 _ (Or.inr (Or.inr (Or.inl ⟨c117_19, c124_21, rfl⟩)))
                    · skip
                      refine j_iload 8 dX9_dutyOf_127 rfl ?_
                      refine j_goto (tgt := 151) dX9_dutyOf_129 (by decide) ?_
                      exact hJ_16 _ (Or.inr (Or.inr (Or.inr (⟨c117_19, c124_21, rfl⟩))))
                refine j_if_eq (tgt := 108) dX9_dutyOf_93 (by decide) (fun c93_22 => ?_) (fun c93_22 => ?_)
                · skip
                  refine j_iconst dX9_dutyOf_108 (by decide) ?_
                  refine j_goto (tgt := 113) dX9_dutyOf_109 (by decide) ?_
                  exact hJ_14 _ (Or.inl ⟨c93_22, rfl⟩)
                · skip
                  refine j_iload 4 dX9_dutyOf_96 rfl ?_
                  refine j_iconst dX9_dutyOf_98 (by decide) ?_
                  refine j_icmp_eq (tgt := 108) dX9_dutyOf_99 (by decide) (fun c99_23 => ?_) (fun c99_23 => ?_)
                  · skip
                    refine j_iconst dX9_dutyOf_108 (by decide) ?_
                    refine j_goto (tgt := 113) dX9_dutyOf_109 (by decide) ?_
                    exact hJ_14 _ (Or.inr (Or.inl ⟨c93_22, c99_23, rfl⟩))
                  · skip
                    refine j_iload 4 dX9_dutyOf_102 rfl ?_
                    refine j_iconst dX9_dutyOf_104 (by decide) ?_
                    refine j_icmp_ne (tgt := 112) dX9_dutyOf_105 (by decide) (fun c105_24 => ?_) (fun c105_24 => ?_)
                    · skip
                      refine j_iconst dX9_dutyOf_112 (by decide) ?_
                      exact hJ_14 _ (Or.inr (Or.inr (Or.inl ⟨c93_22, c99_23, c105_24, rfl⟩)))
                    · skip
                      refine j_iconst dX9_dutyOf_108 (by decide) ?_
                      refine j_goto (tgt := 113) dX9_dutyOf_109 (by decide) ?_
                      exact hJ_14 _ (Or.inr (Or.inr (Or.inr (⟨c93_22, c99_23, c105_24, rfl⟩))))
      exact lp43_4 _ t_3 0 M ⟨by omega, by exact e4, by intro c _ _; rfl⟩ (Nat.lt_succ_self _)
    refine j_icmp_eq (tgt := 31) dX9_dutyOf_22 (by decide) (fun c22_25 => ?_) (fun c22_25 => ?_)
    · skip
      refine j_sipush dX9_dutyOf_31 (by decide) ?_
      refine j_goto (tgt := 38) dX9_dutyOf_34 (by decide) ?_
      exact hJ_2 _ (Or.inl ⟨c22_25, rfl⟩)
    · skip
      refine j_iload 4 dX9_dutyOf_25 rfl ?_
      refine j_iconst dX9_dutyOf_27 (by decide) ?_
      refine j_icmp_ne (tgt := 37) dX9_dutyOf_28 (by decide) (fun c28_26 => ?_) (fun c28_26 => ?_)
      · skip
        refine j_iconst dX9_dutyOf_37 (by decide) ?_
        exact hJ_2 _ (Or.inr (Or.inl ⟨c22_25, c28_26, rfl⟩))
      · skip
        refine j_sipush dX9_dutyOf_31 (by decide) ?_
        refine j_goto (tgt := 38) dX9_dutyOf_34 (by decide) ?_
        exact hJ_2 _ (Or.inr (Or.inr (⟨c22_25, c28_26, rfl⟩)))
  · skip
    refine j_aload_n 0 dX9_dutyOf_5 rfl rfl ?_
    refine j_aload_n 0 dX9_dutyOf_6 rfl rfl ?_
    refine j_getr f_X9_26 r_74_9 dX9_dutyOf_7 ?_
    refine j_iload_n 1 dX9_dutyOf_10 rfl rfl ?_
    refine j_iald a_80 dX9_dutyOf_11 (by omega) (by omega) ?_
    have g_27 := h_rkind h
    refine j_iload_n 1 dX9_dutyOf_12 rfl rfl ?_
    refine j_callVi l_X9_162 ⟨Nat.le_of_ble_eq_true rfl, Nat.le_of_ble_eq_true rfl⟩ ⟨rfl, rfl⟩ dX9_dutyOf_13 ob_74 (c_X9_customOf M ((M 80 h)) h h_rgrade h_rpapers (by omega) (by omega)) rfl rfl (Nat.le_of_ble_eq_true rfl) (fun r_28 M_29 h_30 => ?_)
    obtain ⟨er_28, nh_30⟩ := h_30
    refine j_eqM nh_30 ?_
    clear nh_30
    refine j_goto (tgt := 38) dX9_dutyOf_16 (by decide) ?_
    refine j_istore (ls' := [(0, jR 74), (1, jI h), (2, jI m), (3, jI d), (4, jI w), (5, jI s), (6, jI r_28)]) dX9_dutyOf_38 (by decide) rfl ?_
    have e4 : r_28 = (if w = 0 then fCustom (M 80 h) (M 81 h) (M 82 h) else if w = 2 ∨ w = 4 then 1440 else 0) := by (repeat' split) <;> omega
    refine j_iconst dX9_dutyOf_40 (by decide) ?_
    refine j_istore (ls' := [(0, jR 74), (1, jI h), (2, jI m), (3, jI d), (4, jI w), (5, jI s), (6, jI r_28), (7, jI 0)]) dX9_dutyOf_41 (by decide) rfl ?_
    have lp43_31 : ∀ n43 : Nat, ∀ (v6 v7 : Int), ∀ N43 : jM, (0 ≤ v7 ∧ v7 ≤ M 74 20) ∧ (v6 = rD M h m d w s v7.toNat) ∧ (∀ c, c ≠ 87 → c ≠ 88 → N43 c = M c) → (M 74 20 - v7).toNat < n43 → jG D_X9_dutyOf X FJ shJ 0 0 (jqI (q_X9_dutyOf M h m d w s)) 43 [(0, jR 74), (1, jI h), (2, jI m), (3, jI d), (4, jI w), (5, jI s), (6, jI v6), (7, jI v7)] ([]) N43 := by
      intro n43
      induction n43 with
      | zero => intro v6 v7 N43 _ hz; exact absurd hz (Nat.not_lt_zero _)
      | succ n43 ih43 =>
        intro v6 v7 N43 hinv hm
        obtain ⟨h1, h2, hk⟩ := hinv
        refine j_iload 7 dX9_dutyOf_43 rfl ?_
        refine j_aload_n 0 dX9_dutyOf_45 rfl rfl ?_
        refine j_geti (k' := 20) f_X9_252 o_74_20 dX9_dutyOf_46 rfl ?_
        refine j_eq (congrFun (hk 74 (by decide) (by decide)) 20) ?_
        refine j_icmp_ge (tgt := 159) dX9_dutyOf_49 (by decide) (fun c49_32 => ?_) (fun c49_32 => ?_)
        · skip
          refine j_iload 6 dX9_dutyOf_159 rfl ?_
          refine j_iret rfl rfl rfl rfl dX9_dutyOf_161 ?_
          have e6 : v7 = M 74 20 := by omega
          rw [e6] at h2
          exact ⟨h2, hk⟩
        · skip
          refine j_aload_n 0 dX9_dutyOf_52 rfl rfl ?_
          refine j_getr f_X9_41 r_74_22 dX9_dutyOf_53 ?_
          refine j_bipush dX9_dutyOf_56 (by decide) ?_
          refine j_iload 7 dX9_dutyOf_58 rfl ?_
          refine j_imul dX9_dutyOf_60 (by omega) ?_
          refine j_bipush dX9_dutyOf_61 (by decide) ?_
          refine j_iadd dX9_dutyOf_63 (by omega) ?_
          refine j_iload 4 dX9_dutyOf_64 rfl ?_
          refine j_iadd dX9_dutyOf_66 (by omega) ?_
          refine j_iald a_85 dX9_dutyOf_67 (by omega) (by omega) ?_
          refine j_eq (congrFun (hk 85 (by decide) (by decide)) (((20 * v7) + 6) + w)) ?_
          refine j_nm (fun v8_33 ev8_33 => ?_)
          refine j_istore (ls' := [(0, jR 74), (1, jI h), (2, jI m), (3, jI d), (4, jI w), (5, jI s), (6, jI v6), (7, jI v7), (8, jI v8_33)]) dX9_dutyOf_68 (by decide) rfl ?_
          refine j_iload 8 dX9_dutyOf_70 rfl ?_
          refine j_bipush dX9_dutyOf_72 (by decide) ?_
          refine j_icmp_eq (tgt := 153) dX9_dutyOf_74 (by decide) (fun c74_34 => ?_) (fun c74_34 => ?_)
          · skip
            obtain ⟨v7_35, ev7_35⟩ : ∃ y : Int, y = v7 + 1 := ⟨_, rfl⟩
            refine j_iinc (y := v7_35) (ls' := [(0, jR 74), (1, jI h), (2, jI m), (3, jI d), (4, jI w), (5, jI s), (6, jI v6), (7, jI v7_35), (8, jI v8_33)]) 7 dX9_dutyOf_153 rfl ev7_35 (by omega) (by decide) rfl ?_
            refine j_goto (tgt := 43) dX9_dutyOf_156 (by decide) ?_
            refine j_sub (ls' := [(0, jR 74), (1, jI h), (2, jI m), (3, jI d), (4, jI w), (5, jI s), (6, jI v6), (7, jI v7_35)]) [0, 1, 2, 3, 4, 5, 6, 7] rfl ?_
            exact ih43 v6 v7_35 N43 ⟨by omega, by rw [ev7_35, toNat_s h1.1]; unfold rD eFold; rw [toNat_c h1.1]; rw [show eFold _ _ _ _ v7.toNat = v6 from h2.symm]; first | (rw [if_neg (by rw [decide_eq_true_iff]; omega)]; done) | (rw [if_pos (decide_eq_true (by omega))]; by_cases hq : w = 0 ∨ w = 2 ∨ w = 4; (· rw [if_pos (decide_eq_true hq)]; omega); (· rw [if_neg (by rw [decide_eq_true_iff]; exact hq)]; omega)), by intro c z1 z2; first | exact hk c z1 z2 | (rw [frh_11 c z1 z2]; exact hk c z1 z2)⟩ (by omega)
          · skip
            refine j_aload_n 0 dX9_dutyOf_77 rfl rfl ?_
            refine j_iload 7 dX9_dutyOf_78 rfl ?_
            refine j_iload_n 1 dX9_dutyOf_80 rfl rfl ?_
            refine j_iload_n 2 dX9_dutyOf_81 rfl rfl ?_
            refine j_iload_n 3 dX9_dutyOf_82 rfl rfl ?_
            refine j_callVi l_X9_268 ⟨Nat.le_of_ble_eq_true rfl, Nat.le_of_ble_eq_true rfl⟩ ⟨rfl, rfl⟩ dX9_dutyOf_83 ob_74 (c_X9_bindsOf N43 v7 h m d (by rw [(hk 80 (by decide) (by decide))]; exact h_rkind) (by rw [(hk 76 (by decide) (by decide))]; exact h_rtrade) (by rw [(hk 82 (by decide) (by decide))]; exact h_rpapers) (by rw [(hk 83 (by decide) (by decide))]; exact h_rpaper) (by omega) h0 hm0 hd0 (by rw [hk 85 (by decide) (by decide)]; exact gAll_cg (hk 85 (by decide) (by decide)) (hk 86 (by decide) (by decide)) (hA.2 v7 (by omega) (by omega)).1)) rfl rfl (Nat.le_of_ble_eq_true rfl) (fun r_36 M_37 h_38 => ?_)
            obtain ⟨eb, frh_38⟩ := h_38
            rw [rB_cg hk] at eb
            refine j_iload 5 dX9_dutyOf_86 rfl ?_
            refine j_icmp_le (tgt := 153) dX9_dutyOf_88 (by decide) (fun c88_39 => ?_) (fun c88_39 => ?_)
            · skip
              obtain ⟨v7_40, ev7_40⟩ : ∃ y : Int, y = v7 + 1 := ⟨_, rfl⟩
              refine j_iinc (y := v7_40) (ls' := [(0, jR 74), (1, jI h), (2, jI m), (3, jI d), (4, jI w), (5, jI s), (6, jI v6), (7, jI v7_40), (8, jI v8_33)]) 7 dX9_dutyOf_153 rfl ev7_40 (by omega) (by decide) rfl ?_
              refine j_goto (tgt := 43) dX9_dutyOf_156 (by decide) ?_
              refine j_sub (ls' := [(0, jR 74), (1, jI h), (2, jI m), (3, jI d), (4, jI w), (5, jI s), (6, jI v6), (7, jI v7_40)]) [0, 1, 2, 3, 4, 5, 6, 7] rfl ?_
              exact ih43 v6 v7_40 M_37 ⟨by omega, by rw [ev7_40, toNat_s h1.1]; unfold rD eFold; rw [toNat_c h1.1]; rw [show eFold _ _ _ _ v7.toNat = v6 from h2.symm]; first | (rw [if_neg (by rw [decide_eq_true_iff]; omega)]; done) | (rw [if_pos (decide_eq_true (by omega))]; by_cases hq : w = 0 ∨ w = 2 ∨ w = 4; (· rw [if_pos (decide_eq_true hq)]; omega); (· rw [if_neg (by rw [decide_eq_true_iff]; exact hq)]; omega)), by intro c z1 z2; first | exact hk c z1 z2 | (rw [frh_38 c z1 z2]; exact hk c z1 z2)⟩ (by omega)
            · skip
              refine j_iload 4 dX9_dutyOf_91 rfl ?_
              have hJ_41 : ∀ zz : Int, (w = 0 ∧ zz = 1) ∨ (¬ w = 0 ∧ w = 2 ∧ zz = 1) ∨ (¬ w = 0 ∧ ¬ w = 2 ∧ ¬ w = 4 ∧ zz = 0) ∨ (¬ w = 0 ∧ ¬ w = 2 ∧ w = 4 ∧ zz = 1) → jG D_X9_dutyOf X FJ shJ 0 0 (jqI (q_X9_dutyOf M h m d w s)) 113 [(0, jR 74), (1, jI h), (2, jI m), (3, jI d), (4, jI w), (5, jI s), (6, jI v6), (7, jI v7), (8, jI v8_33)] (jI zz :: []) M_37 := by
                intro t_42 et_42
                refine j_istore (ls' := [(0, jR 74), (1, jI h), (2, jI m), (3, jI d), (4, jI w), (5, jI s), (6, jI v6), (7, jI v7), (8, jI v8_33), (9, jI t_42)]) dX9_dutyOf_113 (by decide) rfl ?_
                refine j_iload 9 dX9_dutyOf_115 rfl ?_
                have hJ_43 : ∀ zz : Int, (t_42 = 0 ∧ v8_33 ≤ v6 ∧ zz = v6) ∨ (t_42 = 0 ∧ ¬ (v8_33 ≤ v6) ∧ zz = v8_33) ∨ (¬ t_42 = 0 ∧ v6 ≤ v8_33 ∧ zz = v6) ∨ (¬ t_42 = 0 ∧ ¬ (v6 ≤ v8_33) ∧ zz = v8_33) → jG D_X9_dutyOf X FJ shJ 0 0 (jqI (q_X9_dutyOf M h m d w s)) 151 [(0, jR 74), (1, jI h), (2, jI m), (3, jI d), (4, jI w), (5, jI s), (6, jI v6), (7, jI v7), (8, jI v8_33), (9, jI t_42)] (jI zz :: []) M_37 := by
                  intro t_44 et_44
                  refine j_istore (ls' := [(0, jR 74), (1, jI h), (2, jI m), (3, jI d), (4, jI w), (5, jI s), (6, jI t_44), (7, jI v7), (8, jI v8_33), (9, jI t_42)]) dX9_dutyOf_151 (by decide) rfl ?_
                  obtain ⟨v7_45, ev7_45⟩ : ∃ y : Int, y = v7 + 1 := ⟨_, rfl⟩
                  refine j_iinc (y := v7_45) (ls' := [(0, jR 74), (1, jI h), (2, jI m), (3, jI d), (4, jI w), (5, jI s), (6, jI t_44), (7, jI v7_45), (8, jI v8_33), (9, jI t_42)]) 7 dX9_dutyOf_153 rfl ev7_45 (by omega) (by decide) rfl ?_
                  refine j_goto (tgt := 43) dX9_dutyOf_156 (by decide) ?_
                  refine j_sub (ls' := [(0, jR 74), (1, jI h), (2, jI m), (3, jI d), (4, jI w), (5, jI s), (6, jI t_44), (7, jI v7_45)]) [0, 1, 2, 3, 4, 5, 6, 7] rfl ?_
                  exact ih43 t_44 v7_45 M_37 ⟨by omega, by rw [ev7_45, toNat_s h1.1]; unfold rD eFold; rw [toNat_c h1.1]; rw [show eFold _ _ _ _ v7.toNat = v6 from h2.symm]; first | (rw [if_neg (by rw [decide_eq_true_iff]; omega)]; done) | (rw [if_pos (decide_eq_true (by omega))]; by_cases hq : w = 0 ∨ w = 2 ∨ w = 4; (· rw [if_pos (decide_eq_true hq)]; omega); (· rw [if_neg (by rw [decide_eq_true_iff]; exact hq)]; omega)), by intro c z1 z2; first | exact hk c z1 z2 | (rw [frh_38 c z1 z2]; exact hk c z1 z2)⟩ (by omega)
                refine j_if_eq (tgt := 137) dX9_dutyOf_117 (by decide) (fun c117_46 => ?_) (fun c117_46 => ?_)
                · skip
                  refine j_iload 8 dX9_dutyOf_137 rfl ?_
                  refine j_iload 6 dX9_dutyOf_139 rfl ?_
                  refine j_icmp_le (tgt := 149) dX9_dutyOf_141 (by decide) (fun c141_47 => ?_) (fun c141_47 => ?_)
                  · skip
                    refine j_iload 6 dX9_dutyOf_149 rfl ?_
                    exact hJ_43 _ (Or.inl ⟨c117_46, c141_47, rfl⟩)
                  · skip
                    refine j_iload 8 dX9_dutyOf_144 rfl ?_
                    refine j_goto (tgt := 151) dX9_dutyOf_146 (by decide) ?_
                    exact hJ_43 _ (Or.inr (Or.inl ⟨c117_46, c141_47, rfl⟩))
                · skip
                  refine j_iload 8 dX9_dutyOf_120 rfl ?_
                  refine j_iload 6 dX9_dutyOf_122 rfl ?_
                  refine j_icmp_ge (tgt := 132) dX9_dutyOf_124 (by decide) (fun c124_48 => ?_) (fun c124_48 => ?_)
                  · skip
                    refine j_iload 6 dX9_dutyOf_132 rfl ?_
                    refine j_goto (tgt := 151) dX9_dutyOf_134 (by decide) ?_
                    exact hJ_43 _ (Or.inr (Or.inr (Or.inl ⟨c117_46, c124_48, rfl⟩)))
                  · skip
                    refine j_iload 8 dX9_dutyOf_127 rfl ?_
                    refine j_goto (tgt := 151) dX9_dutyOf_129 (by decide) ?_
                    exact hJ_43 _ (Or.inr (Or.inr (Or.inr (⟨c117_46, c124_48, rfl⟩))))
              refine j_if_eq (tgt := 108) dX9_dutyOf_93 (by decide) (fun c93_49 => ?_) (fun c93_49 => ?_)
              · skip
                refine j_iconst dX9_dutyOf_108 (by decide) ?_
                refine j_goto (tgt := 113) dX9_dutyOf_109 (by decide) ?_
                exact hJ_41 _ (Or.inl ⟨c93_49, rfl⟩)
              · skip
                refine j_iload 4 dX9_dutyOf_96 rfl ?_
                refine j_iconst dX9_dutyOf_98 (by decide) ?_
                refine j_icmp_eq (tgt := 108) dX9_dutyOf_99 (by decide) (fun c99_50 => ?_) (fun c99_50 => ?_)
                · skip
                  refine j_iconst dX9_dutyOf_108 (by decide) ?_
                  refine j_goto (tgt := 113) dX9_dutyOf_109 (by decide) ?_
                  exact hJ_41 _ (Or.inr (Or.inl ⟨c93_49, c99_50, rfl⟩))
                · skip
                  refine j_iload 4 dX9_dutyOf_102 rfl ?_
                  refine j_iconst dX9_dutyOf_104 (by decide) ?_
                  refine j_icmp_ne (tgt := 112) dX9_dutyOf_105 (by decide) (fun c105_51 => ?_) (fun c105_51 => ?_)
                  · skip
                    refine j_iconst dX9_dutyOf_112 (by decide) ?_
                    exact hJ_41 _ (Or.inr (Or.inr (Or.inl ⟨c93_49, c99_50, c105_51, rfl⟩)))
                  · skip
                    refine j_iconst dX9_dutyOf_108 (by decide) ?_
                    refine j_goto (tgt := 113) dX9_dutyOf_109 (by decide) ?_
                    exact hJ_41 _ (Or.inr (Or.inr (Or.inr (⟨c93_49, c99_50, c105_51, rfl⟩))))
    exact lp43_31 _ r_28 0 M ⟨by omega, by exact e4, by intro c _ _; rfl⟩ (Nat.lt_succ_self _)
abbrev q_X9_binds (M : jM)  (i h m d : Int) : Int → jM → Prop := fun r N => r = (if 0 ≤ i ∧ i < M 74 20 ∧ (0 ≤ h ∧ h < M 74 8 ∧ 0 ≤ m ∧ m < M 74 3 ∧ 0 ≤ d ∧ d ≤ 359) then rB M i h m d else -1) ∧ nK M N
set_option maxHeartbeats 4000000 in
set_option maxRecDepth 20000 in
theorem c_X9_binds {X : jX} (M : jM)  (i h m d : Int) (h_rrules : 0 ≤ M 74 20 ∧ M 74 20 ≤ 16) (h_rhands : 0 ≤ M 74 8 ∧ M 74 8 ≤ 24) (h_rmills : 0 ≤ M 74 3 ∧ M 74 3 ≤ 6) (h_rkind : ∀ i, 0 ≤ M 80 i ∧ M 80 i ≤ 5) (h_rtrade : ∀ i, 0 ≤ M 76 i ∧ M 76 i ≤ 3) (h_rpapers : ∀ i, 0 ≤ M 82 i ∧ M 82 i ≤ 3) (h_rpaper : pOk (M 83)) (hA : rAct M) : jC yX9_binds D_X9_binds X FJ shJ [jR 74, jI i, jI h, jI m, jI d] M (jqI (q_X9_binds M i h m d)) := by
  refine jC_of (by decide) rfl (fun ad => Nat.le_of_ble_eq_true rfl) (by decide) ?_
  show jG D_X9_binds X FJ shJ 0 0 (jqI (q_X9_binds M i h m d)) 0 [(0, jR 74), (1, jI i), (2, jI h), (3, jI m), (4, jI d)] [] M
  refine j_aload_n 0 dX9_binds_0 rfl rfl ?_
  refine j_iconst dX9_binds_1 (by decide) ?_
  refine j_puti (k' := 0) f_X9_124 o_74_0 dX9_binds_2 rfl ?_
  refine j_nmM (fun M_1 eM_1 => ?_)
  have k1 : nK M M_1 := by rw [eM_1]; exact nK_jup M
  have hA1 : rAct M_1 := rAct_cg k1 hA
  refine j_iload_n 1 dX9_binds_5 rfl rfl ?_
  refine j_iconst dX9_binds_6 (by decide) ?_
  refine j_aload_n 0 dX9_binds_7 rfl rfl ?_
  refine j_geti (k' := 20) f_X9_252 o_74_20 dX9_binds_8 rfl ?_
  refine j_eq ((congrFun (congrFun eM_1 74) 20).trans (jup_ne (by decide))) ?_
  refine j_iconst dX9_binds_11 (by decide) ?_
  refine j_isub dX9_binds_12 (by omega) ?_
  refine j_callSi l_X9_137 ⟨Nat.le_of_ble_eq_true rfl, Nat.le_of_ble_eq_true rfl⟩ ⟨rfl, rfl⟩ dX9_binds_13 (c_X9_in M_1 i 0 (((M 74 20) - 1))) rfl rfl (Nat.le_of_ble_eq_true rfl) (fun r_2 M_3 h_4 => ?_)
  obtain ⟨er_2, nh_4⟩ := h_4
  refine j_eqM nh_4 ?_
  clear nh_4
  refine j_if_eq (tgt := 42) dX9_binds_16 (by decide) (fun c16_5 => ?_) (fun c16_5 => ?_)
  · skip
    refine j_iconst dX9_binds_42 (by decide) ?_
    refine j_iret rfl rfl rfl rfl dX9_binds_43 ?_
    first | (refine ⟨by rw [if_neg (by omega)], ?_⟩; rw [eM_1]; exact nK_jup M) | (rw [rB_nK k1] at eb; exact ⟨by rw [if_pos (by omega)]; exact eb, nK_tr k1 jup_zz⟩)
  · skip
    refine j_aload_n 0 dX9_binds_19 rfl rfl ?_
    refine j_iload_n 2 dX9_binds_20 rfl rfl ?_
    refine j_iload_n 3 dX9_binds_21 rfl rfl ?_
    refine j_iload 4 dX9_binds_22 rfl ?_
    refine j_callVi l_X9_265 ⟨Nat.le_of_ble_eq_true rfl, Nat.le_of_ble_eq_true rfl⟩ ⟨rfl, rfl⟩ dX9_binds_24 ob_74 (c_X9_isPlace M_1 h m d (by rw [((congrFun (congrFun eM_1 74) 8).trans (jup_ne (by decide)))]; exact h_rhands) (by rw [((congrFun (congrFun eM_1 74) 3).trans (jup_ne (by decide)))]; exact h_rmills)) rfl rfl (Nat.le_of_ble_eq_true rfl) (fun r_6 M_7 h_8 => ?_)
    obtain ⟨er_6, nh_8⟩ := h_8
    refine j_eqM nh_8 ?_
    clear nh_8
    simp only [((congrFun (congrFun eM_1 74) 8).trans (jup_ne (by decide))), ((congrFun (congrFun eM_1 74) 3).trans (jup_ne (by decide)))] at er_6
    refine j_if_eq (tgt := 42) dX9_binds_27 (by decide) (fun c27_9 => ?_) (fun c27_9 => ?_)
    · skip
      refine j_iconst dX9_binds_42 (by decide) ?_
      refine j_iret rfl rfl rfl rfl dX9_binds_43 ?_
      first | (refine ⟨by rw [if_neg (by omega)], ?_⟩; rw [eM_1]; exact nK_jup M) | (rw [rB_nK k1] at eb; exact ⟨by rw [if_pos (by omega)]; exact eb, nK_tr k1 jup_zz⟩)
    · skip
      refine j_aload_n 0 dX9_binds_30 rfl rfl ?_
      refine j_iload_n 1 dX9_binds_31 rfl rfl ?_
      refine j_iload_n 2 dX9_binds_32 rfl rfl ?_
      refine j_iload_n 3 dX9_binds_33 rfl rfl ?_
      refine j_iload 4 dX9_binds_34 rfl ?_
      refine j_callVi l_X9_268 ⟨Nat.le_of_ble_eq_true rfl, Nat.le_of_ble_eq_true rfl⟩ ⟨rfl, rfl⟩ dX9_binds_36 ob_74 (c_X9_bindsOf M_1 i h m d (by rw [((congrFun eM_1 80).trans (jup_cell (by decide)))]; exact h_rkind) (by rw [((congrFun eM_1 76).trans (jup_cell (by decide)))]; exact h_rtrade) (by rw [((congrFun eM_1 82).trans (jup_cell (by decide)))]; exact h_rpapers) (by rw [((congrFun eM_1 83).trans (jup_cell (by decide)))]; exact h_rpaper) (by omega) (by omega) (by omega) (by omega) (by rw [k1.1 85 (by decide) (by decide) (by decide)]; exact gAll_cg (k1.1 85 (by decide) (by decide) (by decide)) (k1.1 86 (by decide) (by decide) (by decide)) (hA.2 i (by omega) (by omega)).1)) rfl rfl (Nat.le_of_ble_eq_true rfl) (fun r_10 M_11 h_12 => ?_)
      obtain ⟨eb, frh_12⟩ := h_12
      refine j_goto (tgt := 43) dX9_binds_39 (by decide) ?_
      refine j_iret rfl rfl rfl rfl dX9_binds_43 ?_
      first | (refine ⟨by rw [if_neg (by omega)], ?_⟩; rw [jup_zz]; exact nK_jup M) | (rw [rB_nK k1] at eb; exact ⟨by rw [if_pos (by omega)]; exact eb, nK_tr k1 frh_12⟩)
abbrev q_X9_duty (M : jM)  (h m d w s : Int) : Int → jM → Prop := fun r N => r = (if (0 ≤ h ∧ h < M 74 8 ∧ 0 ≤ m ∧ m < M 74 3 ∧ 0 ≤ d ∧ d ≤ 359) ∧ 0 ≤ w ∧ w ≤ 6 ∧ 0 ≤ s ∧ s ≤ 1 then rD M h m d w s (M 74 20).toNat else -1) ∧ nK M N
set_option maxHeartbeats 4000000 in
set_option maxRecDepth 20000 in
theorem c_X9_duty {X : jX} (M : jM)  (h m d w s : Int) (h_rrules : 0 ≤ M 74 20 ∧ M 74 20 ≤ 16) (h_rhands : 0 ≤ M 74 8 ∧ M 74 8 ≤ 24) (h_rmills : 0 ≤ M 74 3 ∧ M 74 3 ≤ 6) (h_rkind : ∀ i, 0 ≤ M 80 i ∧ M 80 i ≤ 5) (h_rgrade : ∀ i, 0 ≤ M 81 i ∧ M 81 i ≤ 3) (h_rpapers : ∀ i, 0 ≤ M 82 i ∧ M 82 i ≤ 3) (h_rtrade : ∀ i, 0 ≤ M 76 i ∧ M 76 i ≤ 3) (h_rpaper : pOk (M 83)) (hA : rAct M) : jC yX9_duty D_X9_duty X FJ shJ [jR 74, jI h, jI m, jI d, jI w, jI s] M (jqI (q_X9_duty M h m d w s)) := by
  refine jC_of (by decide) rfl (fun ad => Nat.le_of_ble_eq_true rfl) (by decide) ?_
  show jG D_X9_duty X FJ shJ 0 0 (jqI (q_X9_duty M h m d w s)) 0 [(0, jR 74), (1, jI h), (2, jI m), (3, jI d), (4, jI w), (5, jI s)] [] M
  refine j_aload_n 0 dX9_duty_0 rfl rfl ?_
  refine j_iconst dX9_duty_1 (by decide) ?_
  refine j_puti (k' := 0) f_X9_124 o_74_0 dX9_duty_2 rfl ?_
  refine j_nmM (fun M_1 eM_1 => ?_)
  have k1 : nK M M_1 := by rw [eM_1]; exact nK_jup M
  have hA1 : rAct M_1 := rAct_cg k1 hA
  refine j_aload_n 0 dX9_duty_5 rfl rfl ?_
  refine j_iload_n 1 dX9_duty_6 rfl rfl ?_
  refine j_iload_n 2 dX9_duty_7 rfl rfl ?_
  refine j_iload_n 3 dX9_duty_8 rfl rfl ?_
  refine j_callVi l_X9_265 ⟨Nat.le_of_ble_eq_true rfl, Nat.le_of_ble_eq_true rfl⟩ ⟨rfl, rfl⟩ dX9_duty_9 ob_74 (c_X9_isPlace M_1 h m d (by rw [((congrFun (congrFun eM_1 74) 8).trans (jup_ne (by decide)))]; exact h_rhands) (by rw [((congrFun (congrFun eM_1 74) 3).trans (jup_ne (by decide)))]; exact h_rmills)) rfl rfl (Nat.le_of_ble_eq_true rfl) (fun r_2 M_3 h_4 => ?_)
  obtain ⟨er_2, nh_4⟩ := h_4
  refine j_eqM nh_4 ?_
  clear nh_4
  simp only [((congrFun (congrFun eM_1 74) 8).trans (jup_ne (by decide))), ((congrFun (congrFun eM_1 74) 3).trans (jup_ne (by decide)))] at er_2
  refine j_if_eq (tgt := 50) dX9_duty_12 (by decide) (fun c12_5 => ?_) (fun c12_5 => ?_)
  · skip
    refine j_iconst dX9_duty_50 (by decide) ?_
    refine j_iret rfl rfl rfl rfl dX9_duty_51 ?_
    first | (refine ⟨by rw [if_neg (by omega)], ?_⟩; rw [eM_1]; exact nK_jup M) | (rw [rD_nK k1, k1.2 20 (by decide)] at ed; exact ⟨by rw [if_pos (by omega)]; exact ed, nK_tr k1 jup_zz⟩)
  · skip
    refine j_iload 4 dX9_duty_15 rfl ?_
    refine j_iconst dX9_duty_17 (by decide) ?_
    refine j_bipush dX9_duty_18 (by decide) ?_
    refine j_callSi l_X9_137 ⟨Nat.le_of_ble_eq_true rfl, Nat.le_of_ble_eq_true rfl⟩ ⟨rfl, rfl⟩ dX9_duty_20 (c_X9_in M_1 w 0 6) rfl rfl (Nat.le_of_ble_eq_true rfl) (fun r_6 M_7 h_8 => ?_)
    obtain ⟨er_6, nh_8⟩ := h_8
    refine j_eqM nh_8 ?_
    clear nh_8
    refine j_if_eq (tgt := 50) dX9_duty_23 (by decide) (fun c23_9 => ?_) (fun c23_9 => ?_)
    · skip
      refine j_iconst dX9_duty_50 (by decide) ?_
      refine j_iret rfl rfl rfl rfl dX9_duty_51 ?_
      first | (refine ⟨by rw [if_neg (by omega)], ?_⟩; rw [eM_1]; exact nK_jup M) | (rw [rD_nK k1, k1.2 20 (by decide)] at ed; exact ⟨by rw [if_pos (by omega)]; exact ed, nK_tr k1 jup_zz⟩)
    · skip
      refine j_iload 5 dX9_duty_26 rfl ?_
      refine j_iconst dX9_duty_28 (by decide) ?_
      refine j_iconst dX9_duty_29 (by decide) ?_
      refine j_callSi l_X9_137 ⟨Nat.le_of_ble_eq_true rfl, Nat.le_of_ble_eq_true rfl⟩ ⟨rfl, rfl⟩ dX9_duty_30 (c_X9_in M_1 s 0 1) rfl rfl (Nat.le_of_ble_eq_true rfl) (fun r_10 M_11 h_12 => ?_)
      obtain ⟨er_10, nh_12⟩ := h_12
      refine j_eqM nh_12 ?_
      clear nh_12
      refine j_if_eq (tgt := 50) dX9_duty_33 (by decide) (fun c33_13 => ?_) (fun c33_13 => ?_)
      · skip
        refine j_iconst dX9_duty_50 (by decide) ?_
        refine j_iret rfl rfl rfl rfl dX9_duty_51 ?_
        first | (refine ⟨by rw [if_neg (by omega)], ?_⟩; rw [eM_1]; exact nK_jup M) | (rw [rD_nK k1, k1.2 20 (by decide)] at ed; exact ⟨by rw [if_pos (by omega)]; exact ed, nK_tr k1 jup_zz⟩)
      · skip
        refine j_aload_n 0 dX9_duty_36 rfl rfl ?_
        refine j_iload_n 1 dX9_duty_37 rfl rfl ?_
        refine j_iload_n 2 dX9_duty_38 rfl rfl ?_
        refine j_iload_n 3 dX9_duty_39 rfl rfl ?_
        refine j_iload 4 dX9_duty_40 rfl ?_
        refine j_iload 5 dX9_duty_42 rfl ?_
        refine j_callVi l_X9_272 ⟨Nat.le_of_ble_eq_true rfl, Nat.le_of_ble_eq_true rfl⟩ ⟨rfl, rfl⟩ dX9_duty_44 ob_74 (c_X9_dutyOf M_1 h m d w s (by rw [((congrFun eM_1 80).trans (jup_cell (by decide)))]; exact h_rkind) (by rw [((congrFun eM_1 81).trans (jup_cell (by decide)))]; exact h_rgrade) (by rw [((congrFun eM_1 82).trans (jup_cell (by decide)))]; exact h_rpapers) (by rw [((congrFun eM_1 76).trans (jup_cell (by decide)))]; exact h_rtrade) (by rw [((congrFun eM_1 83).trans (jup_cell (by decide)))]; exact h_rpaper) (by omega) (by omega) (by omega) (by omega) hA1) rfl rfl (Nat.le_of_ble_eq_true rfl) (fun r_14 M_15 h_16 => ?_)
        obtain ⟨ed, frh_16⟩ := h_16
        refine j_goto (tgt := 51) dX9_duty_47 (by decide) ?_
        refine j_iret rfl rfl rfl rfl dX9_duty_51 ?_
        first | (refine ⟨by rw [if_neg (by omega)], ?_⟩; rw [jup_zz]; exact nK_jup M) | (rw [rD_nK k1, k1.2 20 (by decide)] at ed; exact ⟨by rw [if_pos (by omega)]; exact ed, nK_tr k1 frh_16⟩)
abbrev q_X9_why (M : jM)  (h m d w s : Int) : Int → jM → Prop := fun r N => r = (if (0 ≤ h ∧ h < M 74 8 ∧ 0 ≤ m ∧ m < M 74 3 ∧ 0 ≤ d ∧ d ≤ 359) ∧ 0 ≤ w ∧ w ≤ 6 ∧ 0 ≤ s ∧ s ≤ 1 then rWhy M h m d w s (rD M h m d w s (M 74 20).toNat) (M 74 20).toNat else -1) ∧ nK M N
set_option maxHeartbeats 4000000 in
set_option maxRecDepth 20000 in
theorem c_X9_why {X : jX} (M : jM)  (h m d w s : Int) (h_rrules : 0 ≤ M 74 20 ∧ M 74 20 ≤ 16) (h_rhands : 0 ≤ M 74 8 ∧ M 74 8 ≤ 24) (h_rmills : 0 ≤ M 74 3 ∧ M 74 3 ≤ 6) (h_rkind : ∀ i, 0 ≤ M 80 i ∧ M 80 i ≤ 5) (h_rgrade : ∀ i, 0 ≤ M 81 i ∧ M 81 i ≤ 3) (h_rpapers : ∀ i, 0 ≤ M 82 i ∧ M 82 i ≤ 3) (h_rtrade : ∀ i, 0 ≤ M 76 i ∧ M 76 i ≤ 3) (h_rpaper : pOk (M 83)) (hA : rAct M) : jC yX9_why D_X9_why X FJ shJ [jR 74, jI h, jI m, jI d, jI w, jI s] M (jqI (q_X9_why M h m d w s)) := by
  refine jC_of (by decide) rfl (fun ad => Nat.le_of_ble_eq_true rfl) (by decide) ?_
  show jG D_X9_why X FJ shJ 0 0 (jqI (q_X9_why M h m d w s)) 0 [(0, jR 74), (1, jI h), (2, jI m), (3, jI d), (4, jI w), (5, jI s)] [] M
  refine j_aload_n 0 dX9_why_0 rfl rfl ?_
  refine j_iconst dX9_why_1 (by decide) ?_
  refine j_puti (k' := 0) f_X9_124 o_74_0 dX9_why_2 rfl ?_
  refine j_nmM (fun M_1 eM_1 => ?_)
  have k1 : nK M M_1 := by rw [eM_1]; exact nK_jup M
  have hA1 : rAct M_1 := rAct_cg k1 hA
  refine j_aload_n 0 dX9_why_5 rfl rfl ?_
  refine j_iload_n 1 dX9_why_6 rfl rfl ?_
  refine j_iload_n 2 dX9_why_7 rfl rfl ?_
  refine j_iload_n 3 dX9_why_8 rfl rfl ?_
  refine j_callVi l_X9_265 ⟨Nat.le_of_ble_eq_true rfl, Nat.le_of_ble_eq_true rfl⟩ ⟨rfl, rfl⟩ dX9_why_9 ob_74 (c_X9_isPlace M_1 h m d (by rw [((congrFun (congrFun eM_1 74) 8).trans (jup_ne (by decide)))]; exact h_rhands) (by rw [((congrFun (congrFun eM_1 74) 3).trans (jup_ne (by decide)))]; exact h_rmills)) rfl rfl (Nat.le_of_ble_eq_true rfl) (fun r_2 M_3 h_4 => ?_)
  obtain ⟨er_2, nh_4⟩ := h_4
  refine j_eqM nh_4 ?_
  clear nh_4
  simp only [((congrFun (congrFun eM_1 74) 8).trans (jup_ne (by decide))), ((congrFun (congrFun eM_1 74) 3).trans (jup_ne (by decide)))] at er_2
  refine j_if_eq (tgt := 36) dX9_why_12 (by decide) (fun c12_5 => ?_) (fun c12_5 => ?_)
  · skip
    refine j_iconst dX9_why_36 (by decide) ?_
    refine j_iret rfl rfl rfl rfl dX9_why_37 ?_
    first | (refine ⟨by rw [if_neg (by omega)], ?_⟩; rw [eM_1]; exact nK_jup M) | (have e6 : v8 = M 74 20 := (by omega); rw [e6] at h2; exact ⟨by rw [if_pos (by omega)]; exact h2, hk⟩)
  · skip
    refine j_iload 4 dX9_why_15 rfl ?_
    refine j_iconst dX9_why_17 (by decide) ?_
    refine j_bipush dX9_why_18 (by decide) ?_
    refine j_callSi l_X9_137 ⟨Nat.le_of_ble_eq_true rfl, Nat.le_of_ble_eq_true rfl⟩ ⟨rfl, rfl⟩ dX9_why_20 (c_X9_in M_1 w 0 6) rfl rfl (Nat.le_of_ble_eq_true rfl) (fun r_6 M_7 h_8 => ?_)
    obtain ⟨er_6, nh_8⟩ := h_8
    refine j_eqM nh_8 ?_
    clear nh_8
    refine j_if_eq (tgt := 36) dX9_why_23 (by decide) (fun c23_9 => ?_) (fun c23_9 => ?_)
    · skip
      refine j_iconst dX9_why_36 (by decide) ?_
      refine j_iret rfl rfl rfl rfl dX9_why_37 ?_
      first | (refine ⟨by rw [if_neg (by omega)], ?_⟩; rw [eM_1]; exact nK_jup M) | (have e6 : v8 = M 74 20 := (by omega); rw [e6] at h2; exact ⟨by rw [if_pos (by omega)]; exact h2, hk⟩)
    · skip
      refine j_iload 5 dX9_why_26 rfl ?_
      refine j_iconst dX9_why_28 (by decide) ?_
      refine j_iconst dX9_why_29 (by decide) ?_
      refine j_callSi l_X9_137 ⟨Nat.le_of_ble_eq_true rfl, Nat.le_of_ble_eq_true rfl⟩ ⟨rfl, rfl⟩ dX9_why_30 (c_X9_in M_1 s 0 1) rfl rfl (Nat.le_of_ble_eq_true rfl) (fun r_10 M_11 h_12 => ?_)
      obtain ⟨er_10, nh_12⟩ := h_12
      refine j_eqM nh_12 ?_
      clear nh_12
      refine j_if_ne (tgt := 38) dX9_why_33 (by decide) (fun c33_13 => ?_) (fun c33_13 => ?_)
      · skip
        refine j_aload_n 0 dX9_why_38 rfl rfl ?_
        refine j_iload_n 1 dX9_why_39 rfl rfl ?_
        refine j_iload_n 2 dX9_why_40 rfl rfl ?_
        refine j_iload_n 3 dX9_why_41 rfl rfl ?_
        refine j_iload 4 dX9_why_42 rfl ?_
        refine j_iload 5 dX9_why_44 rfl ?_
        refine j_callVi l_X9_272 ⟨Nat.le_of_ble_eq_true rfl, Nat.le_of_ble_eq_true rfl⟩ ⟨rfl, rfl⟩ dX9_why_46 ob_74 (c_X9_dutyOf M_1 h m d w s (by rw [((congrFun eM_1 80).trans (jup_cell (by decide)))]; exact h_rkind) (by rw [((congrFun eM_1 81).trans (jup_cell (by decide)))]; exact h_rgrade) (by rw [((congrFun eM_1 82).trans (jup_cell (by decide)))]; exact h_rpapers) (by rw [((congrFun eM_1 76).trans (jup_cell (by decide)))]; exact h_rtrade) (by rw [((congrFun eM_1 83).trans (jup_cell (by decide)))]; exact h_rpaper) (by omega) (by omega) (by omega) (by omega) hA1) rfl rfl (Nat.le_of_ble_eq_true rfl) (fun r_14 M_15 h_16 => ?_)
        obtain ⟨ed, frh_16⟩ := h_16
        rw [rD_nK k1, k1.2 20 (by decide)] at ed
        have k2 := nK_tr k1 frh_16
        refine j_istore (ls' := [(0, jR 74), (1, jI h), (2, jI m), (3, jI d), (4, jI w), (5, jI s), (6, jI r_14)]) dX9_why_49 (by decide) rfl ?_
        refine j_bipush dX9_why_51 (by decide) ?_
        refine j_istore (ls' := [(0, jR 74), (1, jI h), (2, jI m), (3, jI d), (4, jI w), (5, jI s), (6, jI r_14), (7, jI (-9))]) dX9_why_53 (by decide) rfl ?_
        refine j_iconst dX9_why_55 (by decide) ?_
        refine j_istore (ls' := [(0, jR 74), (1, jI h), (2, jI m), (3, jI d), (4, jI w), (5, jI s), (6, jI r_14), (7, jI (-9)), (8, jI 0)]) dX9_why_56 (by decide) rfl ?_
        have lp58_17 : ∀ n58 : Nat, ∀ (v7 v8 : Int), ∀ N58 : jM, (0 ≤ v8 ∧ v8 ≤ M 74 20) ∧ (v7 = rWhy M h m d w s (rD M h m d w s (M 74 20).toNat) v8.toNat) ∧ (nK M N58) → (M 74 20 - v8).toNat < n58 → jG D_X9_why X FJ shJ 0 0 (jqI (q_X9_why M h m d w s)) 58 [(0, jR 74), (1, jI h), (2, jI m), (3, jI d), (4, jI w), (5, jI s), (6, jI r_14), (7, jI v7), (8, jI v8)] ([]) N58 := by
          intro n58
          induction n58 with
          | zero => intro v7 v8 N58 _ hz; exact absurd hz (Nat.not_lt_zero _)
          | succ n58 ih58 =>
            intro v7 v8 N58 hinv hm
            obtain ⟨h1, h2, hk⟩ := hinv
            refine j_iload 8 dX9_why_58 rfl ?_
            refine j_aload_n 0 dX9_why_60 rfl rfl ?_
            refine j_geti (k' := 20) f_X9_252 o_74_20 dX9_why_61 rfl ?_
            refine j_eq (hk.2 20 (by decide)) ?_
            refine j_icmp_ge (tgt := 159) dX9_why_64 (by decide) (fun c64_18 => ?_) (fun c64_18 => ?_)
            · skip
              refine j_iload 7 dX9_why_159 rfl ?_
              refine j_iret rfl rfl rfl rfl dX9_why_161 ?_
              first | (refine ⟨by rw [if_neg (by omega)], ?_⟩; rw [jup_zz]; exact nK_jup M) | (have e6 : v8 = M 74 20 := (by omega); rw [e6] at h2; exact ⟨by rw [if_pos (by omega)]; exact h2, hk⟩)
            · skip
              refine j_aload_n 0 dX9_why_67 rfl rfl ?_
              refine j_getr f_X9_41 r_74_22 dX9_why_68 ?_
              refine j_bipush dX9_why_71 (by decide) ?_
              refine j_iload 8 dX9_why_73 rfl ?_
              refine j_imul dX9_why_75 (by omega) ?_
              refine j_bipush dX9_why_76 (by decide) ?_
              refine j_iadd dX9_why_78 (by omega) ?_
              refine j_iload 4 dX9_why_79 rfl ?_
              refine j_iadd dX9_why_81 (by omega) ?_
              refine j_iald a_85 dX9_why_82 (by omega) (by omega) ?_
              refine j_eq (congrFun (hk.1 85 (by decide) (by decide) (by decide)) (((20 * v8) + 6) + w)) ?_
              refine j_iload 6 dX9_why_83 rfl ?_
              refine j_icmp_ne (tgt := 106) dX9_why_85 (by decide) (fun c85_19 => ?_) (fun c85_19 => ?_)
              · skip
                refine j_iconst dX9_why_106 (by decide) ?_
                refine j_istore (ls' := [(0, jR 74), (1, jI h), (2, jI m), (3, jI d), (4, jI w), (5, jI s), (6, jI r_14), (7, jI v7), (8, jI v8), (9, jI 0)]) dX9_why_107 (by decide) rfl ?_
                refine j_iload 9 dX9_why_109 rfl ?_
                have hJ_20 : ∀ zz : Int, ((0 : Int) = 0 ∧ zz = v7) ∨ (¬ (0 : Int) = 0 ∧ v7 = (-9) ∧ zz = (M 85 (20 * v8))) ∨ (¬ (0 : Int) = 0 ∧ ¬ v7 = (-9) ∧ v7 ≤ (M 85 (20 * v8)) ∧ zz = v7) ∨ (¬ (0 : Int) = 0 ∧ ¬ v7 = (-9) ∧ ¬ (v7 ≤ (M 85 (20 * v8))) ∧ zz = (M 85 (20 * v8))) → jG D_X9_why X FJ shJ 0 0 (jqI (q_X9_why M h m d w s)) 151 [(0, jR 74), (1, jI h), (2, jI m), (3, jI d), (4, jI w), (5, jI s), (6, jI r_14), (7, jI v7), (8, jI v8), (9, jI 0)] (jI zz :: []) N58 := by
                  intro t_21 et_21
                  refine j_istore (ls' := [(0, jR 74), (1, jI h), (2, jI m), (3, jI d), (4, jI w), (5, jI s), (6, jI r_14), (7, jI t_21), (8, jI v8), (9, jI 0)]) dX9_why_151 (by decide) rfl ?_
                  obtain ⟨v8_22, ev8_22⟩ : ∃ y : Int, y = v8 + 1 := ⟨_, rfl⟩
                  refine j_iinc (y := v8_22) (ls' := [(0, jR 74), (1, jI h), (2, jI m), (3, jI d), (4, jI w), (5, jI s), (6, jI r_14), (7, jI t_21), (8, jI v8_22), (9, jI 0)]) 8 dX9_why_153 rfl ev8_22 (by omega) (by decide) rfl ?_
                  refine j_goto (tgt := 58) dX9_why_156 (by decide) ?_
                  refine j_sub (ls' := [(0, jR 74), (1, jI h), (2, jI m), (3, jI d), (4, jI w), (5, jI s), (6, jI r_14), (7, jI t_21), (8, jI v8_22)]) [0, 1, 2, 3, 4, 5, 6, 7, 8] rfl ?_
                  exact ih58 t_21 v8_22 N58 ⟨by omega, by rw [ev8_22, toNat_s h1.1]; unfold rWhy eWhy; rw [toNat_c h1.1]; rw [show eWhy _ _ _ _ v8.toNat = v7 from h2.symm]; by_cases hq : s < rB M v8 h m d ∧ M 85 (20 * v8 + 6 + w) = rD M h m d w s (M 74 20).toNat ∧ (v7 = -9 ∨ M 85 (20 * v8) < v7); (· rw [if_pos ⟨decide_eq_true hq.1, hq.2.1, hq.2.2⟩]; omega); (· rw [if_neg (fun z => hq ⟨of_decide_eq_true z.1, z.2.1, z.2.2⟩)]; omega), by first | exact hk | exact nK_tr hk frh_16⟩ (by omega)
                refine j_if_eq (tgt := 149) dX9_why_111 (by decide) (fun c111_23 => ?_) (fun c111_23 => ?_)
                · skip
                  refine j_iload 7 dX9_why_149 rfl ?_
                  exact hJ_20 _ (Or.inl ⟨c111_23, rfl⟩)
                · skip
                  refine j_iload 7 dX9_why_114 rfl ?_
                  refine j_bipush dX9_why_116 (by decide) ?_
                  refine j_icmp_eq (tgt := 136) dX9_why_118 (by decide) (fun c118_24 => ?_) (fun c118_24 => ?_)
                  · skip
                    refine j_aload_n 0 dX9_why_136 rfl rfl ?_
                    refine j_getr f_X9_41 r_74_22 dX9_why_137 ?_
                    refine j_bipush dX9_why_140 (by decide) ?_
                    refine j_iload 8 dX9_why_142 rfl ?_
                    refine j_imul dX9_why_144 (by omega) ?_
                    refine j_iald a_85 dX9_why_145 (by omega) (by omega) ?_
                    refine j_eq (congrFun (hk.1 85 (by decide) (by decide) (by decide)) (20 * v8)) ?_
                    refine j_goto (tgt := 151) dX9_why_146 (by decide) ?_
                    exact hJ_20 _ (Or.inr (Or.inl ⟨c111_23, c118_24, rfl⟩))
                  · skip
                    refine j_aload_n 0 dX9_why_121 rfl rfl ?_
                    refine j_getr f_X9_41 r_74_22 dX9_why_122 ?_
                    refine j_bipush dX9_why_125 (by decide) ?_
                    refine j_iload 8 dX9_why_127 rfl ?_
                    refine j_imul dX9_why_129 (by omega) ?_
                    refine j_iald a_85 dX9_why_130 (by omega) (by omega) ?_
                    refine j_eq (congrFun (hk.1 85 (by decide) (by decide) (by decide)) (20 * v8)) ?_
                    refine j_iload 7 dX9_why_131 rfl ?_
                    refine j_icmp_ge (tgt := 149) dX9_why_133 (by decide) (fun c133_25 => ?_) (fun c133_25 => ?_)
                    · skip
                      refine j_iload 7 dX9_why_149 rfl ?_
                      exact hJ_20 _ (Or.inr (Or.inr (Or.inl ⟨c111_23, c118_24, c133_25, rfl⟩)))
                    · skip
                      refine j_aload_n 0 dX9_why_136 rfl rfl ?_
                      refine j_getr f_X9_41 r_74_22 dX9_why_137 ?_
                      refine j_bipush dX9_why_140 (by decide) ?_
                      refine j_iload 8 dX9_why_142 rfl ?_
                      refine j_imul dX9_why_144 (by omega) ?_
                      refine j_iald a_85 dX9_why_145 (by omega) (by omega) ?_
                      refine j_eq (congrFun (hk.1 85 (by decide) (by decide) (by decide)) (20 * v8)) ?_
                      refine j_goto (tgt := 151) dX9_why_146 (by decide) ?_
                      exact hJ_20 _ (Or.inr (Or.inr (Or.inr (⟨c111_23, c118_24, c133_25, rfl⟩))))
              · skip
                refine j_aload_n 0 dX9_why_88 rfl rfl ?_
                refine j_iload 8 dX9_why_89 rfl ?_
                refine j_iload_n 1 dX9_why_91 rfl rfl ?_
                refine j_iload_n 2 dX9_why_92 rfl rfl ?_
                refine j_iload_n 3 dX9_why_93 rfl rfl ?_
                refine j_callVi l_X9_268 ⟨Nat.le_of_ble_eq_true rfl, Nat.le_of_ble_eq_true rfl⟩ ⟨rfl, rfl⟩ dX9_why_94 ob_74 (c_X9_bindsOf N58 v8 h m d (by rw [(hk.1 80 (by decide) (by decide) (by decide))]; exact h_rkind) (by rw [(hk.1 76 (by decide) (by decide) (by decide))]; exact h_rtrade) (by rw [(hk.1 82 (by decide) (by decide) (by decide))]; exact h_rpapers) (by rw [(hk.1 83 (by decide) (by decide) (by decide))]; exact h_rpaper) (by omega) (by omega) (by omega) (by omega) (by rw [hk.1 85 (by decide) (by decide) (by decide)]; exact gAll_cg (hk.1 85 (by decide) (by decide) (by decide)) (hk.1 86 (by decide) (by decide) (by decide)) (hA.2 v8 (by omega) (by omega)).1)) rfl rfl (Nat.le_of_ble_eq_true rfl) (fun r_26 M_27 h_28 => ?_)
                obtain ⟨eb, frh_28⟩ := h_28
                rw [rB_nK hk] at eb
                refine j_iload 5 dX9_why_97 rfl ?_
                have hJ_29 : ∀ zz : Int, (r_26 ≤ s ∧ zz = 0) ∨ (¬ (r_26 ≤ s) ∧ zz = 1) → jG D_X9_why X FJ shJ 0 0 (jqI (q_X9_why M h m d w s)) 107 [(0, jR 74), (1, jI h), (2, jI m), (3, jI d), (4, jI w), (5, jI s), (6, jI r_14), (7, jI v7), (8, jI v8)] (jI zz :: []) M_27 := by
                  intro t_30 et_30
                  refine j_istore (ls' := [(0, jR 74), (1, jI h), (2, jI m), (3, jI d), (4, jI w), (5, jI s), (6, jI r_14), (7, jI v7), (8, jI v8), (9, jI t_30)]) dX9_why_107 (by decide) rfl ?_
                  refine j_iload 9 dX9_why_109 rfl ?_
                  have hJ_31 : ∀ zz : Int, (t_30 = 0 ∧ zz = v7) ∨ (¬ t_30 = 0 ∧ v7 = (-9) ∧ zz = (M 85 (20 * v8))) ∨ (¬ t_30 = 0 ∧ ¬ v7 = (-9) ∧ v7 ≤ (M 85 (20 * v8)) ∧ zz = v7) ∨ (¬ t_30 = 0 ∧ ¬ v7 = (-9) ∧ ¬ (v7 ≤ (M 85 (20 * v8))) ∧ zz = (M 85 (20 * v8))) → jG D_X9_why X FJ shJ 0 0 (jqI (q_X9_why M h m d w s)) 151 [(0, jR 74), (1, jI h), (2, jI m), (3, jI d), (4, jI w), (5, jI s), (6, jI r_14), (7, jI v7), (8, jI v8), (9, jI t_30)] (jI zz :: []) M_27 := by
                    intro t_32 et_32
                    refine j_istore (ls' := [(0, jR 74), (1, jI h), (2, jI m), (3, jI d), (4, jI w), (5, jI s), (6, jI r_14), (7, jI t_32), (8, jI v8), (9, jI t_30)]) dX9_why_151 (by decide) rfl ?_
                    obtain ⟨v8_33, ev8_33⟩ : ∃ y : Int, y = v8 + 1 := ⟨_, rfl⟩
                    refine j_iinc (y := v8_33) (ls' := [(0, jR 74), (1, jI h), (2, jI m), (3, jI d), (4, jI w), (5, jI s), (6, jI r_14), (7, jI t_32), (8, jI v8_33), (9, jI t_30)]) 8 dX9_why_153 rfl ev8_33 (by omega) (by decide) rfl ?_
                    refine j_goto (tgt := 58) dX9_why_156 (by decide) ?_
                    refine j_sub (ls' := [(0, jR 74), (1, jI h), (2, jI m), (3, jI d), (4, jI w), (5, jI s), (6, jI r_14), (7, jI t_32), (8, jI v8_33)]) [0, 1, 2, 3, 4, 5, 6, 7, 8] rfl ?_
                    exact ih58 t_32 v8_33 M_27 ⟨by omega, by rw [ev8_33, toNat_s h1.1]; unfold rWhy eWhy; rw [toNat_c h1.1]; rw [show eWhy _ _ _ _ v8.toNat = v7 from h2.symm]; by_cases hq : s < rB M v8 h m d ∧ M 85 (20 * v8 + 6 + w) = rD M h m d w s (M 74 20).toNat ∧ (v7 = -9 ∨ M 85 (20 * v8) < v7); (· rw [if_pos ⟨decide_eq_true hq.1, hq.2.1, hq.2.2⟩]; omega); (· rw [if_neg (fun z => hq ⟨of_decide_eq_true z.1, z.2.1, z.2.2⟩)]; omega), by first | exact hk | exact nK_tr hk frh_28⟩ (by omega)
                  refine j_if_eq (tgt := 149) dX9_why_111 (by decide) (fun c111_34 => ?_) (fun c111_34 => ?_)
                  · skip
                    refine j_iload 7 dX9_why_149 rfl ?_
                    exact hJ_31 _ (Or.inl ⟨c111_34, rfl⟩)
                  · skip
                    refine j_iload 7 dX9_why_114 rfl ?_
                    refine j_bipush dX9_why_116 (by decide) ?_
                    refine j_icmp_eq (tgt := 136) dX9_why_118 (by decide) (fun c118_35 => ?_) (fun c118_35 => ?_)
                    · skip
                      refine j_aload_n 0 dX9_why_136 rfl rfl ?_
                      refine j_getr f_X9_41 r_74_22 dX9_why_137 ?_
                      refine j_bipush dX9_why_140 (by decide) ?_
                      refine j_iload 8 dX9_why_142 rfl ?_
                      refine j_imul dX9_why_144 (by omega) ?_
                      refine j_iald a_85 dX9_why_145 (by omega) (by omega) ?_
                      refine j_eq (Eq.trans (congrFun (frh_28 85 (by decide) (by decide)) (20 * v8)) (congrFun (hk.1 85 (by decide) (by decide) (by decide)) (20 * v8))) ?_
                      refine j_goto (tgt := 151) dX9_why_146 (by decide) ?_
                      exact hJ_31 _ (Or.inr (Or.inl ⟨c111_34, c118_35, rfl⟩))
                    · skip
                      refine j_aload_n 0 dX9_why_121 rfl rfl ?_
                      refine j_getr f_X9_41 r_74_22 dX9_why_122 ?_
                      refine j_bipush dX9_why_125 (by decide) ?_
                      refine j_iload 8 dX9_why_127 rfl ?_
                      refine j_imul dX9_why_129 (by omega) ?_
                      refine j_iald a_85 dX9_why_130 (by omega) (by omega) ?_
                      refine j_eq (Eq.trans (congrFun (frh_28 85 (by decide) (by decide)) (20 * v8)) (congrFun (hk.1 85 (by decide) (by decide) (by decide)) (20 * v8))) ?_
                      refine j_iload 7 dX9_why_131 rfl ?_
                      refine j_icmp_ge (tgt := 149) dX9_why_133 (by decide) (fun c133_36 => ?_) (fun c133_36 => ?_)
                      · skip
                        refine j_iload 7 dX9_why_149 rfl ?_
                        exact hJ_31 _ (Or.inr (Or.inr (Or.inl ⟨c111_34, c118_35, c133_36, rfl⟩)))
                      · skip
                        refine j_aload_n 0 dX9_why_136 rfl rfl ?_
                        refine j_getr f_X9_41 r_74_22 dX9_why_137 ?_
                        refine j_bipush dX9_why_140 (by decide) ?_
                        refine j_iload 8 dX9_why_142 rfl ?_
                        refine j_imul dX9_why_144 (by omega) ?_
                        refine j_iald a_85 dX9_why_145 (by omega) (by omega) ?_
                        refine j_eq (Eq.trans (congrFun (frh_28 85 (by decide) (by decide)) (20 * v8)) (congrFun (hk.1 85 (by decide) (by decide) (by decide)) (20 * v8))) ?_
                        refine j_goto (tgt := 151) dX9_why_146 (by decide) ?_
                        exact hJ_31 _ (Or.inr (Or.inr (Or.inr (⟨c111_34, c118_35, c133_36, rfl⟩))))
                refine j_icmp_le (tgt := 106) dX9_why_99 (by decide) (fun c99_37 => ?_) (fun c99_37 => ?_)
                · skip
                  refine j_iconst dX9_why_106 (by decide) ?_
                  exact hJ_29 _ (Or.inl ⟨c99_37, rfl⟩)
                · skip
                  refine j_iconst dX9_why_102 (by decide) ?_
                  refine j_goto (tgt := 107) dX9_why_103 (by decide) ?_
                  exact hJ_29 _ (Or.inr (⟨c99_37, rfl⟩))
        exact lp58_17 _ (-9) 0 M_15 ⟨by omega, by rfl, by exact k2⟩ (Nat.lt_succ_self _)
      · skip
        refine j_iconst dX9_why_36 (by decide) ?_
        refine j_iret rfl rfl rfl rfl dX9_why_37 ?_
        first | (refine ⟨by rw [if_neg (by omega)], ?_⟩; rw [eM_1]; exact nK_jup M) | (have e6 : v8 = M 74 20 := (by omega); rw [e6] at h2; exact ⟨by rw [if_pos (by omega)]; exact h2, hk⟩)
abbrev q_X9_quarrel (M : jM)  (h m d : Int) : Int → jM → Prop := fun r N => (((0 ≤ h ∧ h < M 74 8 ∧ 0 ≤ m ∧ m < M 74 3 ∧ 0 ≤ d ∧ d ≤ 359) ∧ qF (rQ M h m d) (fun k => M 85 (20 * k)) (M 74 20) r) ∨ (¬ (0 ≤ h ∧ h < M 74 8 ∧ 0 ≤ m ∧ m < M 74 3 ∧ 0 ≤ d ∧ d ≤ 359) ∧ r = -1)) ∧ nK M N
set_option maxHeartbeats 4000000 in
set_option maxRecDepth 20000 in
theorem c_X9_quarrel {X : jX} (M : jM)  (h m d : Int) (h_rrules : 0 ≤ M 74 20 ∧ M 74 20 ≤ 16) (h_rhands : 0 ≤ M 74 8 ∧ M 74 8 ≤ 24) (h_rmills : 0 ≤ M 74 3 ∧ M 74 3 ≤ 6) (h_rkind : ∀ i, 0 ≤ M 80 i ∧ M 80 i ≤ 5) (h_rtrade : ∀ i, 0 ≤ M 76 i ∧ M 76 i ≤ 3) (h_rpapers : ∀ i, 0 ≤ M 82 i ∧ M 82 i ≤ 3) (h_rpaper : pOk (M 83)) (hA : rAct M) : jC yX9_quarrel D_X9_quarrel X FJ shJ [jR 74, jI h, jI m, jI d] M (jqI (q_X9_quarrel M h m d)) := by
  refine jC_of (by decide) rfl (fun ad => Nat.le_of_ble_eq_true rfl) (by decide) ?_
  show jG D_X9_quarrel X FJ shJ 0 0 (jqI (q_X9_quarrel M h m d)) 0 [(0, jR 74), (1, jI h), (2, jI m), (3, jI d)] [] M
  refine j_aload_n 0 dX9_quarrel_0 rfl rfl ?_
  refine j_iconst dX9_quarrel_1 (by decide) ?_
  refine j_puti (k' := 0) f_X9_124 o_74_0 dX9_quarrel_2 rfl ?_
  refine j_nmM (fun M_1 eM_1 => ?_)
  have k1 : nK M M_1 := by rw [eM_1]; exact nK_jup M
  have hA1 : rAct M_1 := rAct_cg k1 hA
  refine j_aload_n 0 dX9_quarrel_5 rfl rfl ?_
  refine j_iload_n 1 dX9_quarrel_6 rfl rfl ?_
  refine j_iload_n 2 dX9_quarrel_7 rfl rfl ?_
  refine j_iload_n 3 dX9_quarrel_8 rfl rfl ?_
  refine j_callVi l_X9_265 ⟨Nat.le_of_ble_eq_true rfl, Nat.le_of_ble_eq_true rfl⟩ ⟨rfl, rfl⟩ dX9_quarrel_9 ob_74 (c_X9_isPlace M_1 h m d (by rw [((congrFun (congrFun eM_1 74) 8).trans (jup_ne (by decide)))]; exact h_rhands) (by rw [((congrFun (congrFun eM_1 74) 3).trans (jup_ne (by decide)))]; exact h_rmills)) rfl rfl (Nat.le_of_ble_eq_true rfl) (fun r_2 M_3 h_4 => ?_)
  obtain ⟨er_2, nh_4⟩ := h_4
  refine j_eqM nh_4 ?_
  clear nh_4
  simp only [((congrFun (congrFun eM_1 74) 8).trans (jup_ne (by decide))), ((congrFun (congrFun eM_1 74) 3).trans (jup_ne (by decide)))] at er_2
  refine j_if_ne (tgt := 17) dX9_quarrel_12 (by decide) (fun c12_5 => ?_) (fun c12_5 => ?_)
  · skip
    refine j_iconst dX9_quarrel_17 (by decide) ?_
    refine j_istore (ls' := [(0, jR 74), (1, jI h), (2, jI m), (3, jI d), (4, jI 0)]) dX9_quarrel_18 (by decide) rfl ?_
    have lp20_6 : ∀ n20 : Nat, ∀ (v4 : Int), ∀ N20 : jM, (0 ≤ v4 ∧ v4 ≤ M 74 20) ∧ (∀ a b, 0 ≤ a → a < b → b < M 74 20 → rQ M h m d a b → v4 ≤ a) ∧ (nK M N20) → (M 74 20 - v4).toNat < n20 → jG D_X9_quarrel X FJ shJ 0 0 (jqI (q_X9_quarrel M h m d)) 20 [(0, jR 74), (1, jI h), (2, jI m), (3, jI d), (4, jI v4)] ([]) N20 := by
      intro n20
      induction n20 with
      | zero => intro v4 N20 _ hz; exact absurd hz (Nat.not_lt_zero _)
      | succ n20 ih20 =>
        intro v4 N20 hinv hm
        obtain ⟨h1, h2, hk⟩ := hinv
        refine j_iload 4 dX9_quarrel_20 rfl ?_
        refine j_aload_n 0 dX9_quarrel_22 rfl rfl ?_
        refine j_geti (k' := 20) f_X9_252 o_74_20 dX9_quarrel_23 rfl ?_
        refine j_eq (hk.2 20 (by decide)) ?_
        refine j_icmp_ge (tgt := 203) dX9_quarrel_26 (by decide) (fun c26_7 => ?_) (fun c26_7 => ?_)
        · skip
          refine j_bipush dX9_quarrel_203 (by decide) ?_
          refine j_iret rfl rfl rfl rfl dX9_quarrel_205 ?_
          exact ⟨Or.inl ⟨by omega, Or.inl ⟨rfl, fun a b a0 ab bn q => by have := h2 a b a0 ab bn q; omega⟩⟩, hk⟩
        · skip
          refine j_iload 4 dX9_quarrel_29 rfl ?_
          refine j_iconst dX9_quarrel_31 (by decide) ?_
          refine j_iadd dX9_quarrel_32 (by omega) ?_
          refine j_nm (fun v5_8 ev5_8 => ?_)
          refine j_istore (ls' := [(0, jR 74), (1, jI h), (2, jI m), (3, jI d), (4, jI v4), (5, jI v5_8)]) dX9_quarrel_33 (by decide) rfl ?_
          have lp35_9 : ∀ n35 : Nat, ∀ (v5 : Int), ∀ N35 : jM, (v4 < v5 ∧ v5 ≤ M 74 20) ∧ (∀ a b, 0 ≤ a → a < b → b < M 74 20 → rQ M h m d a b → v4 < a ∨ (v4 = a ∧ v5 ≤ b)) ∧ (nK M N35) → (M 74 20 - v5).toNat < n35 → jG D_X9_quarrel X FJ shJ 0 0 (jqI (q_X9_quarrel M h m d)) 35 [(0, jR 74), (1, jI h), (2, jI m), (3, jI d), (4, jI v4), (5, jI v5)] ([]) N35 := by
            intro n35
            induction n35 with
            | zero => intro v5 N35 _ hz; exact absurd hz (Nat.not_lt_zero _)
            | succ n35 ih35 =>
              intro v5 N35 hinv hm
              obtain ⟨g1, h3, hk1⟩ := hinv
              refine j_iload 5 dX9_quarrel_35 rfl ?_
              refine j_aload_n 0 dX9_quarrel_37 rfl rfl ?_
              refine j_geti (k' := 20) f_X9_252 o_74_20 dX9_quarrel_38 rfl ?_
              refine j_eq (hk1.2 20 (by decide)) ?_
              refine j_icmp_ge (tgt := 197) dX9_quarrel_41 (by decide) (fun c41_10 => ?_) (fun c41_10 => ?_)
              · skip
                obtain ⟨v4_11, ev4_11⟩ : ∃ y : Int, y = v4 + 1 := ⟨_, rfl⟩
                refine j_iinc (y := v4_11) (ls' := [(0, jR 74), (1, jI h), (2, jI m), (3, jI d), (4, jI v4_11), (5, jI v5)]) 4 dX9_quarrel_197 rfl ev4_11 (by omega) (by decide) rfl ?_
                refine j_goto (tgt := 20) dX9_quarrel_200 (by decide) ?_
                refine j_sub (ls' := [(0, jR 74), (1, jI h), (2, jI m), (3, jI d), (4, jI v4_11)]) [0, 1, 2, 3, 4] rfl ?_
                exact ih20 v4_11 N35 ⟨by omega, by intro a b a0 ab bn q; have := h3 a b a0 ab bn q; omega, by exact hk1⟩ (by omega)
              · skip
                refine j_bipush dX9_quarrel_44 (by decide) ?_
                refine j_iload 4 dX9_quarrel_46 rfl ?_
                refine j_imul dX9_quarrel_48 (by omega) ?_
                refine j_nm (fun v6_12 ev6_12 => ?_)
                refine j_istore (ls' := [(0, jR 74), (1, jI h), (2, jI m), (3, jI d), (4, jI v4), (5, jI v5), (6, jI v6_12)]) dX9_quarrel_49 (by decide) rfl ?_
                refine j_bipush dX9_quarrel_51 (by decide) ?_
                refine j_iload 5 dX9_quarrel_53 rfl ?_
                refine j_imul dX9_quarrel_55 (by omega) ?_
                refine j_nm (fun v7_13 ev7_13 => ?_)
                refine j_istore (ls' := [(0, jR 74), (1, jI h), (2, jI m), (3, jI d), (4, jI v4), (5, jI v5), (6, jI v6_12), (7, jI v7_13)]) dX9_quarrel_56 (by decide) rfl ?_
                have r7 : M 85 (v6_12 + 7) = M 85 (20 * v4 + 7) := by rw [ev6_12]
                have r8 : M 85 (v6_12 + 8) = M 85 (20 * v4 + 8) := by rw [ev6_12]
                have r0 : M 85 v6_12 = M 85 (20 * v4) := by rw [ev6_12]
                have s7 : M 85 (v7_13 + 7) = M 85 (20 * v5 + 7) := by rw [ev7_13]
                have s8 : M 85 (v7_13 + 8) = M 85 (20 * v5 + 8) := by rw [ev7_13]
                have s0 : M 85 v7_13 = M 85 (20 * v5) := by rw [ev7_13]
                have b1 := (hA.2 v4 (by omega) (by omega)).2.1
                have b2 := (hA.2 v5 (by omega) (by omega)).2.1
                refine j_aload_n 0 dX9_quarrel_58 rfl rfl ?_
                refine j_getr f_X9_41 r_74_22 dX9_quarrel_59 ?_
                refine j_iload 6 dX9_quarrel_62 rfl ?_
                refine j_bipush dX9_quarrel_64 (by decide) ?_
                refine j_iadd dX9_quarrel_66 (by omega) ?_
                refine j_iald a_85 dX9_quarrel_67 (by omega) (by omega) ?_
                refine j_eq (congrFun (hk1.1 85 (by decide) (by decide) (by decide)) (v6_12 + 7)) ?_
                refine j_bipush dX9_quarrel_68 (by decide) ?_
                have hJ_14 : ∀ zz : Int, ((M 85 (v6_12 + 7)) = (-9) ∧ zz = 0) ∨ (¬ (M 85 (v6_12 + 7)) = (-9) ∧ (M 85 (v7_13 + 7)) = (-9) ∧ zz = 0) ∨ (¬ (M 85 (v6_12 + 7)) = (-9) ∧ ¬ (M 85 (v7_13 + 7)) = (-9) ∧ (M 85 (v7_13 + 8)) ≤ (M 85 (v6_12 + 7)) ∧ zz = 1) ∨ (¬ (M 85 (v6_12 + 7)) = (-9) ∧ ¬ (M 85 (v7_13 + 7)) = (-9) ∧ ¬ ((M 85 (v7_13 + 8)) ≤ (M 85 (v6_12 + 7))) ∧ (M 85 (v7_13 + 7)) < (M 85 (v6_12 + 8)) ∧ zz = 0) ∨ (¬ (M 85 (v6_12 + 7)) = (-9) ∧ ¬ (M 85 (v7_13 + 7)) = (-9) ∧ ¬ ((M 85 (v7_13 + 8)) ≤ (M 85 (v6_12 + 7))) ∧ ¬ ((M 85 (v7_13 + 7)) < (M 85 (v6_12 + 8))) ∧ zz = 1) → jG D_X9_quarrel X FJ shJ 0 0 (jqI (q_X9_quarrel M h m d)) 139 [(0, jR 74), (1, jI h), (2, jI m), (3, jI d), (4, jI v4), (5, jI v5), (6, jI v6_12), (7, jI v7_13)] (jI zz :: []) N35 := by
                  intro t_15 et_15
                  refine j_istore (ls' := [(0, jR 74), (1, jI h), (2, jI m), (3, jI d), (4, jI v4), (5, jI v5), (6, jI v6_12), (7, jI v7_13), (8, jI t_15)]) dX9_quarrel_139 (by decide) rfl ?_
                  refine j_iload 8 dX9_quarrel_141 rfl ?_
                  refine j_if_eq (tgt := 191) dX9_quarrel_143 (by decide) (fun c143_16 => ?_) (fun c143_16 => ?_)
                  · skip
                    obtain ⟨v5_17, ev5_17⟩ : ∃ y : Int, y = v5 + 1 := ⟨_, rfl⟩
                    refine j_iinc (y := v5_17) (ls' := [(0, jR 74), (1, jI h), (2, jI m), (3, jI d), (4, jI v4), (5, jI v5_17), (6, jI v6_12), (7, jI v7_13), (8, jI t_15)]) 5 dX9_quarrel_191 rfl ev5_17 (by omega) (by decide) rfl ?_
                    refine j_goto (tgt := 35) dX9_quarrel_194 (by decide) ?_
                    refine j_sub (ls' := [(0, jR 74), (1, jI h), (2, jI m), (3, jI d), (4, jI v4), (5, jI v5_17)]) [0, 1, 2, 3, 4, 5] rfl ?_
                    exact ih35 v5_17 N35 ⟨by omega, by intro a b a0 ab bn q; have q1 := h3 a b a0 ab bn q; by_cases e : v4 = a ∧ v5 = b; (· rw [← e.1, ← e.2] at q; unfold rQ at q; exfalso; omega); (· omega), by first | exact hk1 | exact k4 | exact k3⟩ (by omega)
                  · skip
                    refine j_aload_n 0 dX9_quarrel_146 rfl rfl ?_
                    refine j_iload 4 dX9_quarrel_147 rfl ?_
                    refine j_iload_n 1 dX9_quarrel_149 rfl rfl ?_
                    refine j_iload_n 2 dX9_quarrel_150 rfl rfl ?_
                    refine j_iload_n 3 dX9_quarrel_151 rfl rfl ?_
                    refine j_callVi l_X9_268 ⟨Nat.le_of_ble_eq_true rfl, Nat.le_of_ble_eq_true rfl⟩ ⟨rfl, rfl⟩ dX9_quarrel_152 ob_74 (c_X9_bindsOf N35 v4 h m d (by rw [(hk1.1 80 (by decide) (by decide) (by decide))]; exact h_rkind) (by rw [(hk1.1 76 (by decide) (by decide) (by decide))]; exact h_rtrade) (by rw [(hk1.1 82 (by decide) (by decide) (by decide))]; exact h_rpapers) (by rw [(hk1.1 83 (by decide) (by decide) (by decide))]; exact h_rpaper) (by omega) (by omega) (by omega) (by omega) (by rw [hk1.1 85 (by decide) (by decide) (by decide)]; exact gAll_cg (hk1.1 85 (by decide) (by decide) (by decide)) (hk1.1 86 (by decide) (by decide) (by decide)) (hA.2 v4 (by omega) (by omega)).1)) rfl rfl (Nat.le_of_ble_eq_true rfl) (fun r_18 M_19 h_20 => ?_)
                    obtain ⟨eb, frh_20⟩ := h_20
                    rw [rB_nK hk1] at eb
                    have eb1 := eb
                    have k3 := nK_tr hk1 frh_20
                    refine j_iconst dX9_quarrel_155 (by decide) ?_
                    refine j_icmp_ne (tgt := 191) dX9_quarrel_156 (by decide) (fun c156_21 => ?_) (fun c156_21 => ?_)
                    · skip
                      obtain ⟨v5_22, ev5_22⟩ : ∃ y : Int, y = v5 + 1 := ⟨_, rfl⟩
                      refine j_iinc (y := v5_22) (ls' := [(0, jR 74), (1, jI h), (2, jI m), (3, jI d), (4, jI v4), (5, jI v5_22), (6, jI v6_12), (7, jI v7_13), (8, jI t_15)]) 5 dX9_quarrel_191 rfl ev5_22 (by omega) (by decide) rfl ?_
                      refine j_goto (tgt := 35) dX9_quarrel_194 (by decide) ?_
                      refine j_sub (ls' := [(0, jR 74), (1, jI h), (2, jI m), (3, jI d), (4, jI v4), (5, jI v5_22)]) [0, 1, 2, 3, 4, 5] rfl ?_
                      exact ih35 v5_22 M_19 ⟨by omega, by intro a b a0 ab bn q; have q1 := h3 a b a0 ab bn q; by_cases e : v4 = a ∧ v5 = b; (· rw [← e.1, ← e.2] at q; unfold rQ at q; exfalso; omega); (· omega), by first | exact hk1 | exact k4 | exact k3⟩ (by omega)
                    · skip
                      refine j_aload_n 0 dX9_quarrel_159 rfl rfl ?_
                      refine j_iload 5 dX9_quarrel_160 rfl ?_
                      refine j_iload_n 1 dX9_quarrel_162 rfl rfl ?_
                      refine j_iload_n 2 dX9_quarrel_163 rfl rfl ?_
                      refine j_iload_n 3 dX9_quarrel_164 rfl rfl ?_
                      refine j_callVi l_X9_268 ⟨Nat.le_of_ble_eq_true rfl, Nat.le_of_ble_eq_true rfl⟩ ⟨rfl, rfl⟩ dX9_quarrel_165 ob_74 (c_X9_bindsOf M_19 v5 h m d (by rw [(Eq.trans (frh_20 80 (by decide) (by decide)) (hk1.1 80 (by decide) (by decide) (by decide)))]; exact h_rkind) (by rw [(Eq.trans (frh_20 76 (by decide) (by decide)) (hk1.1 76 (by decide) (by decide) (by decide)))]; exact h_rtrade) (by rw [(Eq.trans (frh_20 82 (by decide) (by decide)) (hk1.1 82 (by decide) (by decide) (by decide)))]; exact h_rpapers) (by rw [(Eq.trans (frh_20 83 (by decide) (by decide)) (hk1.1 83 (by decide) (by decide) (by decide)))]; exact h_rpaper) (by omega) (by omega) (by omega) (by omega) (by rw [k3.1 85 (by decide) (by decide) (by decide)]; exact gAll_cg (k3.1 85 (by decide) (by decide) (by decide)) (k3.1 86 (by decide) (by decide) (by decide)) (hA.2 v5 (by omega) (by omega)).1)) rfl rfl (Nat.le_of_ble_eq_true rfl) (fun r_23 M_24 h_25 => ?_)
                      obtain ⟨eb, frh_25⟩ := h_25
                      rw [rB_nK k3] at eb
                      have k4 := nK_tr k3 frh_25
                      refine j_iconst dX9_quarrel_168 (by decide) ?_
                      refine j_icmp_ne (tgt := 191) dX9_quarrel_169 (by decide) (fun c169_26 => ?_) (fun c169_26 => ?_)
                      · skip
                        obtain ⟨v5_27, ev5_27⟩ : ∃ y : Int, y = v5 + 1 := ⟨_, rfl⟩
                        refine j_iinc (y := v5_27) (ls' := [(0, jR 74), (1, jI h), (2, jI m), (3, jI d), (4, jI v4), (5, jI v5_27), (6, jI v6_12), (7, jI v7_13), (8, jI t_15)]) 5 dX9_quarrel_191 rfl ev5_27 (by omega) (by decide) rfl ?_
                        refine j_goto (tgt := 35) dX9_quarrel_194 (by decide) ?_
                        refine j_sub (ls' := [(0, jR 74), (1, jI h), (2, jI m), (3, jI d), (4, jI v4), (5, jI v5_27)]) [0, 1, 2, 3, 4, 5] rfl ?_
                        exact ih35 v5_27 M_24 ⟨by omega, by intro a b a0 ab bn q; have q1 := h3 a b a0 ab bn q; by_cases e : v4 = a ∧ v5 = b; (· rw [← e.1, ← e.2] at q; unfold rQ at q; exfalso; omega); (· omega), by first | exact hk1 | exact k4 | exact k3⟩ (by omega)
                      · skip
                        refine j_bipush dX9_quarrel_172 (by decide) ?_
                        refine j_aload_n 0 dX9_quarrel_174 rfl rfl ?_
                        refine j_getr f_X9_41 r_74_22 dX9_quarrel_175 ?_
                        refine j_iload 6 dX9_quarrel_178 rfl ?_
                        refine j_iald a_85 dX9_quarrel_180 (by omega) (by omega) ?_
                        refine j_eq (Eq.trans (congrFun (frh_25 85 (by decide) (by decide)) v6_12) (Eq.trans (congrFun (frh_20 85 (by decide) (by decide)) v6_12) (congrFun (hk1.1 85 (by decide) (by decide) (by decide)) v6_12))) ?_
                        refine j_imul dX9_quarrel_181 (by omega) ?_
                        refine j_aload_n 0 dX9_quarrel_182 rfl rfl ?_
                        refine j_getr f_X9_41 r_74_22 dX9_quarrel_183 ?_
                        refine j_iload 7 dX9_quarrel_186 rfl ?_
                        refine j_iald a_85 dX9_quarrel_188 (by omega) (by omega) ?_
                        refine j_eq (Eq.trans (congrFun (frh_25 85 (by decide) (by decide)) v7_13) (Eq.trans (congrFun (frh_20 85 (by decide) (by decide)) v7_13) (congrFun (hk1.1 85 (by decide) (by decide) (by decide)) v7_13))) ?_
                        refine j_iadd dX9_quarrel_189 (by omega) ?_
                        refine j_iret rfl rfl rfl rfl dX9_quarrel_190 ?_
                        exact ⟨Or.inl ⟨by omega, Or.inr ⟨v4, v5, ⟨h1.1, by omega, by omega⟩, (by unfold rQ; omega), (by (show _ = 100 * M 85 (20 * v4) + M 85 (20 * v5)); omega), h3⟩⟩, k4⟩
                refine j_icmp_eq (tgt := 138) dX9_quarrel_70 (by decide) (fun c70_28 => ?_) (fun c70_28 => ?_)
                · skip
                  refine j_iconst dX9_quarrel_138 (by decide) ?_
                  exact hJ_14 _ (Or.inl ⟨c70_28, rfl⟩)
                · skip
                  refine j_aload_n 0 dX9_quarrel_73 rfl rfl ?_
                  refine j_getr f_X9_41 r_74_22 dX9_quarrel_74 ?_
                  refine j_iload 7 dX9_quarrel_77 rfl ?_
                  refine j_bipush dX9_quarrel_79 (by decide) ?_
                  refine j_iadd dX9_quarrel_81 (by omega) ?_
                  refine j_iald a_85 dX9_quarrel_82 (by omega) (by omega) ?_
                  refine j_eq (congrFun (hk1.1 85 (by decide) (by decide) (by decide)) (v7_13 + 7)) ?_
                  refine j_bipush dX9_quarrel_83 (by decide) ?_
                  refine j_icmp_eq (tgt := 138) dX9_quarrel_85 (by decide) (fun c85_29 => ?_) (fun c85_29 => ?_)
                  · skip
                    refine j_iconst dX9_quarrel_138 (by decide) ?_
                    exact hJ_14 _ (Or.inr (Or.inl ⟨c70_28, c85_29, rfl⟩))
                  · skip
                    refine j_aload_n 0 dX9_quarrel_88 rfl rfl ?_
                    refine j_getr f_X9_41 r_74_22 dX9_quarrel_89 ?_
                    refine j_iload 6 dX9_quarrel_92 rfl ?_
                    refine j_bipush dX9_quarrel_94 (by decide) ?_
                    refine j_iadd dX9_quarrel_96 (by omega) ?_
                    refine j_iald a_85 dX9_quarrel_97 (by omega) (by omega) ?_
                    refine j_eq (congrFun (hk1.1 85 (by decide) (by decide) (by decide)) (v6_12 + 7)) ?_
                    refine j_aload_n 0 dX9_quarrel_98 rfl rfl ?_
                    refine j_getr f_X9_41 r_74_22 dX9_quarrel_99 ?_
                    refine j_iload 7 dX9_quarrel_102 rfl ?_
                    refine j_bipush dX9_quarrel_104 (by decide) ?_
                    refine j_iadd dX9_quarrel_106 (by omega) ?_
                    refine j_iald a_85 dX9_quarrel_107 (by omega) (by omega) ?_
                    refine j_eq (congrFun (hk1.1 85 (by decide) (by decide) (by decide)) (v7_13 + 8)) ?_
                    refine j_icmp_ge (tgt := 134) dX9_quarrel_108 (by decide) (fun c108_30 => ?_) (fun c108_30 => ?_)
                    · skip
                      refine j_iconst dX9_quarrel_134 (by decide) ?_
                      refine j_goto (tgt := 139) dX9_quarrel_135 (by decide) ?_
                      exact hJ_14 _ (Or.inr (Or.inr (Or.inl ⟨c70_28, c85_29, c108_30, rfl⟩)))
                    · skip
                      refine j_aload_n 0 dX9_quarrel_111 rfl rfl ?_
                      refine j_getr f_X9_41 r_74_22 dX9_quarrel_112 ?_
                      refine j_iload 7 dX9_quarrel_115 rfl ?_
                      refine j_bipush dX9_quarrel_117 (by decide) ?_
                      refine j_iadd dX9_quarrel_119 (by omega) ?_
                      refine j_iald a_85 dX9_quarrel_120 (by omega) (by omega) ?_
                      refine j_eq (congrFun (hk1.1 85 (by decide) (by decide) (by decide)) (v7_13 + 7)) ?_
                      refine j_aload_n 0 dX9_quarrel_121 rfl rfl ?_
                      refine j_getr f_X9_41 r_74_22 dX9_quarrel_122 ?_
                      refine j_iload 6 dX9_quarrel_125 rfl ?_
                      refine j_bipush dX9_quarrel_127 (by decide) ?_
                      refine j_iadd dX9_quarrel_129 (by omega) ?_
                      refine j_iald a_85 dX9_quarrel_130 (by omega) (by omega) ?_
                      refine j_eq (congrFun (hk1.1 85 (by decide) (by decide) (by decide)) (v6_12 + 8)) ?_
                      refine j_icmp_lt (tgt := 138) dX9_quarrel_131 (by decide) (fun c131_31 => ?_) (fun c131_31 => ?_)
                      · skip
                        refine j_iconst dX9_quarrel_138 (by decide) ?_
                        exact hJ_14 _ (Or.inr (Or.inr (Or.inr (Or.inl ⟨c70_28, c85_29, c108_30, c131_31, rfl⟩))))
                      · skip
                        refine j_iconst dX9_quarrel_134 (by decide) ?_
                        refine j_goto (tgt := 139) dX9_quarrel_135 (by decide) ?_
                        exact hJ_14 _ (Or.inr (Or.inr (Or.inr (Or.inr (⟨c70_28, c85_29, c108_30, c131_31, rfl⟩)))))
          exact lp35_9 _ v5_8 N20 ⟨by omega, by intro a b a0 ab bn q; have := h2 a b a0 ab bn q; omega, by exact hk⟩ (Nat.lt_succ_self _)
    exact lp20_6 _ 0 M_1 ⟨by omega, by intro a b a0 _ _ _; exact a0, by exact k1⟩ (Nat.lt_succ_self _)
  · skip
    refine j_iconst dX9_quarrel_15 (by decide) ?_
    refine j_iret rfl rfl rfl rfl dX9_quarrel_16 ?_
    exact ⟨Or.inr ⟨by omega, rfl⟩, k1⟩
abbrev q_X9_rule (M : jM)  (i w : Int) : Int → jM → Prop := fun r N => r = (if 0 ≤ i ∧ i < M 74 20 ∧ 0 ≤ w ∧ w ≤ 4 then (if w = 4 then M 85 (20 * i + 5) else M 85 (20 * i + w)) else -1) ∧ N = jup M 74 0 0
set_option maxHeartbeats 4000000 in
set_option maxRecDepth 20000 in
theorem c_X9_rule {X : jX} (M : jM)  (i w : Int) (h_rrules : 0 ≤ M 74 20 ∧ M 74 20 ≤ 16) : jC yX9_rule D_X9_rule X FJ shJ [jR 74, jI i, jI w] M (jqI (q_X9_rule M i w)) := by
  refine jC_of (by decide) rfl (fun ad => Nat.le_of_ble_eq_true rfl) (by decide) ?_
  show jG D_X9_rule X FJ shJ 0 0 (jqI (q_X9_rule M i w)) 0 [(0, jR 74), (1, jI i), (2, jI w)] [] M
  refine j_aload_n 0 dX9_rule_0 rfl rfl ?_
  refine j_iconst dX9_rule_1 (by decide) ?_
  refine j_puti (k' := 0) f_X9_124 o_74_0 dX9_rule_2 rfl ?_
  refine j_nmM (fun M_1 eM_1 => ?_)
  refine j_iload_n 1 dX9_rule_5 rfl rfl ?_
  refine j_iconst dX9_rule_6 (by decide) ?_
  refine j_aload_n 0 dX9_rule_7 rfl rfl ?_
  refine j_geti (k' := 20) f_X9_252 o_74_20 dX9_rule_8 rfl ?_
  refine j_eq ((congrFun (congrFun eM_1 74) 20).trans (jup_ne (by decide))) ?_
  refine j_iconst dX9_rule_11 (by decide) ?_
  refine j_isub dX9_rule_12 (by omega) ?_
  refine j_callSi l_X9_137 ⟨Nat.le_of_ble_eq_true rfl, Nat.le_of_ble_eq_true rfl⟩ ⟨rfl, rfl⟩ dX9_rule_13 (c_X9_in M_1 i 0 (((M 74 20) - 1))) rfl rfl (Nat.le_of_ble_eq_true rfl) (fun r_2 M_3 h_4 => ?_)
  obtain ⟨er_2, nh_4⟩ := h_4
  refine j_eqM nh_4 ?_
  clear nh_4
  refine j_if_eq (tgt := 28) dX9_rule_16 (by decide) (fun c16_5 => ?_) (fun c16_5 => ?_)
  · skip
    refine j_iconst dX9_rule_28 (by decide) ?_
    refine j_goto (tgt := 62) dX9_rule_29 (by decide) ?_
    refine j_iret rfl rfl rfl rfl dX9_rule_62 ?_
    exact ⟨by (repeat' split) <;> first | omega | grind, by rw [eM_1]⟩
  · skip
    refine j_iload_n 2 dX9_rule_19 rfl rfl ?_
    refine j_iconst dX9_rule_20 (by decide) ?_
    refine j_iconst dX9_rule_21 (by decide) ?_
    refine j_callSi l_X9_137 ⟨Nat.le_of_ble_eq_true rfl, Nat.le_of_ble_eq_true rfl⟩ ⟨rfl, rfl⟩ dX9_rule_22 (c_X9_in M_1 w 0 4) rfl rfl (Nat.le_of_ble_eq_true rfl) (fun r_6 M_7 h_8 => ?_)
    obtain ⟨er_6, nh_8⟩ := h_8
    refine j_eqM nh_8 ?_
    clear nh_8
    have hJ_9 : ∀ zz : Int, (¬ r_6 = 0 ∧ ¬ w = 4 ∧ zz = (M 85 ((20 * i) + w))) ∨ (¬ r_6 = 0 ∧ w = 4 ∧ zz = (M 85 ((20 * i) + 5))) ∨ (r_6 = 0 ∧ zz = (-1)) → jG D_X9_rule X FJ shJ 0 0 (jqI (q_X9_rule M i w)) 62 [(0, jR 74), (1, jI i), (2, jI w)] (jI zz :: []) M_1 := by
      intro t_10 et_10
      refine j_iret rfl rfl rfl rfl dX9_rule_62 ?_
      exact ⟨by (repeat' split) <;> first | omega | grind, by rw [eM_1]⟩
    refine j_if_ne (tgt := 32) dX9_rule_25 (by decide) (fun c25_11 => ?_) (fun c25_11 => ?_)
    · skip
      refine j_iload_n 2 dX9_rule_32 rfl rfl ?_
      refine j_iconst dX9_rule_33 (by decide) ?_
      refine j_icmp_ne (tgt := 51) dX9_rule_34 (by decide) (fun c34_12 => ?_) (fun c34_12 => ?_)
      · skip
        refine j_aload_n 0 dX9_rule_51 rfl rfl ?_
        refine j_getr f_X9_41 r_74_22 dX9_rule_52 ?_
        refine j_bipush dX9_rule_55 (by decide) ?_
        refine j_iload_n 1 dX9_rule_57 rfl rfl ?_
        refine j_imul dX9_rule_58 (by omega) ?_
        refine j_iload_n 2 dX9_rule_59 rfl rfl ?_
        refine j_iadd dX9_rule_60 (by omega) ?_
        refine j_iald a_85 dX9_rule_61 (by omega) (by omega) ?_
        refine j_eq (congrFun ((congrFun eM_1 85).trans (jup_cell (by decide))) ((20 * i) + w)) ?_
        exact hJ_9 _ (Or.inl ⟨c25_11, c34_12, rfl⟩)
      · skip
        refine j_aload_n 0 dX9_rule_37 rfl rfl ?_
        refine j_getr f_X9_41 r_74_22 dX9_rule_38 ?_
        refine j_bipush dX9_rule_41 (by decide) ?_
        refine j_iload_n 1 dX9_rule_43 rfl rfl ?_
        refine j_imul dX9_rule_44 (by omega) ?_
        refine j_iconst dX9_rule_45 (by decide) ?_
        refine j_iadd dX9_rule_46 (by omega) ?_
        refine j_iald a_85 dX9_rule_47 (by omega) (by omega) ?_
        refine j_eq (congrFun ((congrFun eM_1 85).trans (jup_cell (by decide))) ((20 * i) + 5)) ?_
        refine j_goto (tgt := 62) dX9_rule_48 (by decide) ?_
        exact hJ_9 _ (Or.inr (Or.inl ⟨c25_11, c34_12, rfl⟩))
    · skip
      refine j_iconst dX9_rule_28 (by decide) ?_
      refine j_goto (tgt := 62) dX9_rule_29 (by decide) ?_
      exact hJ_9 _ (Or.inr (Or.inr (⟨c25_11, rfl⟩)))
