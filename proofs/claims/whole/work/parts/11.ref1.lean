abbrev q_X9_in (M : jM)  (v lo hi : Int) : Int → jM → Prop := fun r N => ((r = 1 ∧ (lo ≤ v ∧ v ≤ hi)) ∨ (r = 0 ∧ ¬ (lo ≤ v ∧ v ≤ hi))) ∧ N = M
set_option maxHeartbeats 4000000 in
set_option maxRecDepth 20000 in
theorem c_X9_in {X : jX} (M : jM)  (v lo hi : Int)  : jC yX9_in D_X9_in X FJ shJ [jI v, jI lo, jI hi] M (jqI (q_X9_in M v lo hi)) := by
  refine jC_of (by decide) rfl (fun ad => Nat.le_of_ble_eq_true rfl) (by decide) ?_
  show jG D_X9_in X FJ shJ 0 0 (jqI (q_X9_in M v lo hi)) 0 [(0, jI v), (1, jI lo), (2, jI hi)] [] M
  refine j_iload_n 0 dX9_in_0 rfl rfl ?_
  refine j_iload_n 1 dX9_in_1 rfl rfl ?_
  have hJ_1 : ∀ zz : Int, (v < lo ∧ zz = 0) ∨ (¬ (v < lo) ∧ hi < v ∧ zz = 0) ∨ (¬ (v < lo) ∧ ¬ (hi < v) ∧ zz = 1) → jG D_X9_in X FJ shJ 0 0 (jqI (q_X9_in M v lo hi)) 15 [(0, jI v), (1, jI lo), (2, jI hi)] (jI zz :: []) M := by
    intro t_2 et_2
    refine j_zret rfl rfl rfl rfl dX9_in_15 (by omega) ?_
    exact ⟨by omega, rfl⟩
  refine j_icmp_lt (tgt := 14) dX9_in_2 (by decide) (fun c2_3 => ?_) (fun c2_3 => ?_)
  · skip
    refine j_iconst dX9_in_14 (by decide) ?_
    exact hJ_1 _ (Or.inl ⟨c2_3, rfl⟩)
  · skip
    refine j_iload_n 0 dX9_in_5 rfl rfl ?_
    refine j_iload_n 2 dX9_in_6 rfl rfl ?_
    refine j_icmp_gt (tgt := 14) dX9_in_7 (by decide) (fun c7_4 => ?_) (fun c7_4 => ?_)
    · skip
      refine j_iconst dX9_in_14 (by decide) ?_
      exact hJ_1 _ (Or.inr (Or.inl ⟨c2_3, c7_4, rfl⟩))
    · skip
      refine j_iconst dX9_in_10 (by decide) ?_
      refine j_goto (tgt := 15) dX9_in_11 (by decide) ?_
      exact hJ_1 _ (Or.inr (Or.inr (⟨c2_3, c7_4, rfl⟩)))
abbrev q_X9_isMill (M : jM)  (m : Int) : Int → jM → Prop := fun r N => ((r = 1 ∧ (0 ≤ m ∧ m < M 74 3)) ∨ (r = 0 ∧ ¬ (0 ≤ m ∧ m < M 74 3))) ∧ N = M
set_option maxHeartbeats 4000000 in
set_option maxRecDepth 20000 in
theorem c_X9_isMill {X : jX} (M : jM)  (m : Int) (h_rmills : 0 ≤ M 74 3 ∧ M 74 3 ≤ 6) : jC yX9_isMill D_X9_isMill X FJ shJ [jR 74, jI m] M (jqI (q_X9_isMill M m)) := by
  refine jC_of (by decide) rfl (fun ad => Nat.le_of_ble_eq_true rfl) (by decide) ?_
  show jG D_X9_isMill X FJ shJ 0 0 (jqI (q_X9_isMill M m)) 0 [(0, jR 74), (1, jI m)] [] M
  refine j_iload_n 1 dX9_isMill_0 rfl rfl ?_
  refine j_iconst dX9_isMill_1 (by decide) ?_
  refine j_aload_n 0 dX9_isMill_2 rfl rfl ?_
  refine j_geti (k' := 3) f_X9_134 o_74_3 dX9_isMill_3 rfl ?_
  refine j_iconst dX9_isMill_6 (by decide) ?_
  refine j_isub dX9_isMill_7 (by omega) ?_
  refine j_callSi l_X9_137 ⟨Nat.le_of_ble_eq_true rfl, Nat.le_of_ble_eq_true rfl⟩ ⟨rfl, rfl⟩ dX9_isMill_8 (c_X9_in M m 0 (((M 74 3) - 1))) rfl rfl (Nat.le_of_ble_eq_true rfl) (fun r_1 M_2 h_3 => ?_)
  obtain ⟨er_1, nh_3⟩ := h_3
  refine j_eqM nh_3 ?_
  clear nh_3
  refine j_zret rfl rfl rfl rfl dX9_isMill_11 (by omega) ?_
  exact ⟨by omega, rfl⟩
abbrev q_X9_isHand (M : jM)  (h : Int) : Int → jM → Prop := fun r N => ((r = 1 ∧ (0 ≤ h ∧ h < M 74 8)) ∨ (r = 0 ∧ ¬ (0 ≤ h ∧ h < M 74 8))) ∧ N = M
set_option maxHeartbeats 4000000 in
set_option maxRecDepth 20000 in
theorem c_X9_isHand {X : jX} (M : jM)  (h : Int) (h_rhands : 0 ≤ M 74 8 ∧ M 74 8 ≤ 24) : jC yX9_isHand D_X9_isHand X FJ shJ [jR 74, jI h] M (jqI (q_X9_isHand M h)) := by
  refine jC_of (by decide) rfl (fun ad => Nat.le_of_ble_eq_true rfl) (by decide) ?_
  show jG D_X9_isHand X FJ shJ 0 0 (jqI (q_X9_isHand M h)) 0 [(0, jR 74), (1, jI h)] [] M
  refine j_iload_n 1 dX9_isHand_0 rfl rfl ?_
  refine j_iconst dX9_isHand_1 (by decide) ?_
  refine j_aload_n 0 dX9_isHand_2 rfl rfl ?_
  refine j_geti (k' := 8) f_X9_141 o_74_8 dX9_isHand_3 rfl ?_
  refine j_iconst dX9_isHand_6 (by decide) ?_
  refine j_isub dX9_isHand_7 (by omega) ?_
  refine j_callSi l_X9_137 ⟨Nat.le_of_ble_eq_true rfl, Nat.le_of_ble_eq_true rfl⟩ ⟨rfl, rfl⟩ dX9_isHand_8 (c_X9_in M h 0 (((M 74 8) - 1))) rfl rfl (Nat.le_of_ble_eq_true rfl) (fun r_1 M_2 h_3 => ?_)
  obtain ⟨er_1, nh_3⟩ := h_3
  refine j_eqM nh_3 ?_
  clear nh_3
  refine j_zret rfl rfl rfl rfl dX9_isHand_11 (by omega) ?_
  exact ⟨by omega, rfl⟩
abbrev q_X9_isDay (M : jM)  (day : Int) : Int → jM → Prop := fun r N => ((r = 1 ∧ (0 ≤ day ∧ day ≤ 359)) ∨ (r = 0 ∧ ¬ (0 ≤ day ∧ day ≤ 359))) ∧ N = M
set_option maxHeartbeats 4000000 in
set_option maxRecDepth 20000 in
theorem c_X9_isDay {X : jX} (M : jM)  (day : Int)  : jC yX9_isDay D_X9_isDay X FJ shJ [jI day] M (jqI (q_X9_isDay M day)) := by
  refine jC_of (by decide) rfl (fun ad => Nat.le_of_ble_eq_true rfl) (by decide) ?_
  show jG D_X9_isDay X FJ shJ 0 0 (jqI (q_X9_isDay M day)) 0 [(0, jI day)] [] M
  refine j_iload_n 0 dX9_isDay_0 rfl rfl ?_
  refine j_iconst dX9_isDay_1 (by decide) ?_
  refine j_sipush dX9_isDay_2 (by decide) ?_
  refine j_callSi l_X9_137 ⟨Nat.le_of_ble_eq_true rfl, Nat.le_of_ble_eq_true rfl⟩ ⟨rfl, rfl⟩ dX9_isDay_5 (c_X9_in M day 0 359) rfl rfl (Nat.le_of_ble_eq_true rfl) (fun r_1 M_2 h_3 => ?_)
  obtain ⟨er_1, nh_3⟩ := h_3
  refine j_eqM nh_3 ?_
  clear nh_3
  refine j_zret rfl rfl rfl rfl dX9_isDay_8 (by omega) ?_
  exact ⟨by omega, rfl⟩
abbrev q_X9_isPlace (M : jM)  (h m day : Int) : Int → jM → Prop := fun r N => ((r = 1 ∧ ((0 ≤ h ∧ h < M 74 8) ∧ (0 ≤ m ∧ m < M 74 3) ∧ (0 ≤ day ∧ day ≤ 359))) ∨ (r = 0 ∧ ¬ ((0 ≤ h ∧ h < M 74 8) ∧ (0 ≤ m ∧ m < M 74 3) ∧ (0 ≤ day ∧ day ≤ 359)))) ∧ N = M
set_option maxHeartbeats 4000000 in
set_option maxRecDepth 20000 in
theorem c_X9_isPlace {X : jX} (M : jM)  (h m day : Int) (h_rhands : 0 ≤ M 74 8 ∧ M 74 8 ≤ 24) (h_rmills : 0 ≤ M 74 3 ∧ M 74 3 ≤ 6) : jC yX9_isPlace D_X9_isPlace X FJ shJ [jR 74, jI h, jI m, jI day] M (jqI (q_X9_isPlace M h m day)) := by
  refine jC_of (by decide) rfl (fun ad => Nat.le_of_ble_eq_true rfl) (by decide) ?_
  show jG D_X9_isPlace X FJ shJ 0 0 (jqI (q_X9_isPlace M h m day)) 0 [(0, jR 74), (1, jI h), (2, jI m), (3, jI day)] [] M
  refine j_aload_n 0 dX9_isPlace_0 rfl rfl ?_
  refine j_iload_n 1 dX9_isPlace_1 rfl rfl ?_
  refine j_callVi l_X9_144 ⟨Nat.le_of_ble_eq_true rfl, Nat.le_of_ble_eq_true rfl⟩ ⟨rfl, rfl⟩ dX9_isPlace_2 ob_74 (c_X9_isHand M h h_rhands) rfl rfl (Nat.le_of_ble_eq_true rfl) (fun r_1 M_2 h_3 => ?_)
  obtain ⟨er_1, nh_3⟩ := h_3
  refine j_eqM nh_3 ?_
  clear nh_3
  refine j_if_eq (tgt := 27) dX9_isPlace_5 (by decide) (fun c5_4 => ?_) (fun c5_4 => ?_)
  · skip
    refine j_iconst dX9_isPlace_27 (by decide) ?_
    refine j_zret rfl rfl rfl rfl dX9_isPlace_28 (by omega) ?_
    exact ⟨by omega, rfl⟩
  · skip
    refine j_aload_n 0 dX9_isPlace_8 rfl rfl ?_
    refine j_iload_n 2 dX9_isPlace_9 rfl rfl ?_
    refine j_callVi l_X9_262 ⟨Nat.le_of_ble_eq_true rfl, Nat.le_of_ble_eq_true rfl⟩ ⟨rfl, rfl⟩ dX9_isPlace_10 ob_74 (c_X9_isMill M m h_rmills) rfl rfl (Nat.le_of_ble_eq_true rfl) (fun r_5 M_6 h_7 => ?_)
    obtain ⟨er_5, nh_7⟩ := h_7
    refine j_eqM nh_7 ?_
    clear nh_7
    refine j_if_eq (tgt := 27) dX9_isPlace_13 (by decide) (fun c13_8 => ?_) (fun c13_8 => ?_)
    · skip
      refine j_iconst dX9_isPlace_27 (by decide) ?_
      refine j_zret rfl rfl rfl rfl dX9_isPlace_28 (by omega) ?_
      exact ⟨by omega, rfl⟩
    · skip
      refine j_iload_n 3 dX9_isPlace_16 rfl rfl ?_
      refine j_callSi l_X9_166 ⟨Nat.le_of_ble_eq_true rfl, Nat.le_of_ble_eq_true rfl⟩ ⟨rfl, rfl⟩ dX9_isPlace_17 (c_X9_isDay M day) rfl rfl (Nat.le_of_ble_eq_true rfl) (fun r_9 M_10 h_11 => ?_)
      obtain ⟨er_9, nh_11⟩ := h_11
      refine j_eqM nh_11 ?_
      clear nh_11
      have hJ_12 : ∀ zz : Int, (r_9 = 0 ∧ zz = 0) ∨ (¬ r_9 = 0 ∧ zz = 1) → jG D_X9_isPlace X FJ shJ 0 0 (jqI (q_X9_isPlace M h m day)) 28 [(0, jR 74), (1, jI h), (2, jI m), (3, jI day)] (jI zz :: []) M := by
        intro t_13 et_13
        refine j_zret rfl rfl rfl rfl dX9_isPlace_28 (by omega) ?_
        exact ⟨by omega, rfl⟩
      refine j_if_eq (tgt := 27) dX9_isPlace_20 (by decide) (fun c20_14 => ?_) (fun c20_14 => ?_)
      · skip
        refine j_iconst dX9_isPlace_27 (by decide) ?_
        exact hJ_12 _ (Or.inl ⟨c20_14, rfl⟩)
      · skip
        refine j_iconst dX9_isPlace_23 (by decide) ?_
        refine j_goto (tgt := 28) dX9_isPlace_24 (by decide) ?_
        exact hJ_12 _ (Or.inr (⟨c20_14, rfl⟩))
abbrev q_X9_customOf (M : jM)  (k h : Int) : Int → jM → Prop := fun r N => r = fCustom k (M 81 h) (M 82 h) ∧ N = M
set_option maxHeartbeats 4000000 in
set_option maxRecDepth 20000 in
theorem c_X9_customOf {X : jX} (M : jM)  (k h : Int) (h_rgrade : ∀ i, 0 ≤ M 81 i ∧ M 81 i ≤ 3) (h_rpapers : ∀ i, 0 ≤ M 82 i ∧ M 82 i ≤ 3) (h0 : 0 ≤ h ∧ h < 24) (hk : 0 ≤ k ∧ k ≤ 5) : jC yX9_customOf D_X9_customOf X FJ shJ [jR 74, jI k, jI h] M (jqI (q_X9_customOf M k h)) := by
  refine jC_of (by decide) rfl (fun ad => Nat.le_of_ble_eq_true rfl) (by decide) ?_
  show jG D_X9_customOf X FJ shJ 0 0 (jqI (q_X9_customOf M k h)) 0 [(0, jR 74), (1, jI k), (2, jI h)] [] M
  refine j_sipush dX9_customOf_0 (by decide) ?_
  refine j_bipush dX9_customOf_3 (by decide) ?_
  refine j_aload_n 0 dX9_customOf_5 rfl rfl ?_
  refine j_getr f_X9_29 r_74_10 dX9_customOf_6 ?_
  refine j_iload_n 2 dX9_customOf_9 rfl rfl ?_
  refine j_iald a_81 dX9_customOf_10 (by omega) (by omega) ?_
  have g_1 := h_rgrade h
  refine j_imul dX9_customOf_11 (by omega) ?_
  refine j_isub dX9_customOf_12 (by omega) ?_
  refine j_nm (fun v3_2 ev3_2 => ?_)
  refine j_istore_n (ls' := [(0, jR 74), (1, jI k), (2, jI h), (3, jI v3_2)]) dX9_customOf_13 rfl (by decide) rfl ?_
  refine j_iload_n 3 dX9_customOf_14 rfl rfl ?_
  refine j_iconst dX9_customOf_15 (by decide) ?_
  refine j_idiv dX9_customOf_16 (by omega) (by omega) ?_
  refine j_bipush dX9_customOf_17 (by decide) ?_
  refine j_iadd dX9_customOf_19 (by omega) ?_
  refine j_nm (fun v4_3 ev4_3 => ?_)
  refine j_istore (ls' := [(0, jR 74), (1, jI k), (2, jI h), (3, jI v3_2), (4, jI v4_3)]) dX9_customOf_20 (by decide) rfl ?_
  refine j_iload_n 1 dX9_customOf_22 rfl rfl ?_
  have hJ_4 : ∀ zz : Int, (¬ k = 0 ∧ ¬ k = 1 ∧ ¬ k = 2 ∧ ¬ k = 3 ∧ ¬ k = 4 ∧ zz = (v4_3 + (15 * (M 82 h)))) ∨ (¬ k = 0 ∧ ¬ k = 1 ∧ ¬ k = 2 ∧ ¬ k = 3 ∧ k = 4 ∧ zz = (v3_2 - (v3_2 / 10))) ∨ (¬ k = 0 ∧ ¬ k = 1 ∧ ¬ k = 2 ∧ k = 3 ∧ zz = (v4_3 - 45)) ∨ (¬ k = 0 ∧ ¬ k = 1 ∧ k = 2 ∧ zz = (v3_2 - 150)) ∨ (¬ k = 0 ∧ k = 1 ∧ zz = v4_3) ∨ (k = 0 ∧ zz = v3_2) → jG D_X9_customOf X FJ shJ 0 0 (jqI (q_X9_customOf M k h)) 92 [(0, jR 74), (1, jI k), (2, jI h), (3, jI v3_2), (4, jI v4_3)] (jI zz :: []) M := by
    intro t_5 et_5
    refine j_iret rfl rfl rfl rfl dX9_customOf_92 ?_
    exact ⟨by unfold fCustom; (repeat' split) <;> omega, rfl⟩
  refine j_if_ne (tgt := 30) dX9_customOf_23 (by decide) (fun c23_6 => ?_) (fun c23_6 => ?_)
  · skip
    refine j_iload_n 1 dX9_customOf_30 rfl rfl ?_
    refine j_iconst dX9_customOf_31 (by decide) ?_
    refine j_icmp_ne (tgt := 40) dX9_customOf_32 (by decide) (fun c32_7 => ?_) (fun c32_7 => ?_)
    · skip
      refine j_iload_n 1 dX9_customOf_40 rfl rfl ?_
      refine j_iconst dX9_customOf_41 (by decide) ?_
      refine j_icmp_ne (tgt := 53) dX9_customOf_42 (by decide) (fun c42_8 => ?_) (fun c42_8 => ?_)
      · skip
        refine j_iload_n 1 dX9_customOf_53 rfl rfl ?_
        refine j_iconst dX9_customOf_54 (by decide) ?_
        refine j_icmp_ne (tgt := 66) dX9_customOf_55 (by decide) (fun c55_9 => ?_) (fun c55_9 => ?_)
        · skip
          refine j_iload_n 1 dX9_customOf_66 rfl rfl ?_
          refine j_iconst dX9_customOf_67 (by decide) ?_
          refine j_icmp_ne (tgt := 80) dX9_customOf_68 (by decide) (fun c68_10 => ?_) (fun c68_10 => ?_)
          · skip
            refine j_iload 4 dX9_customOf_80 rfl ?_
            refine j_bipush dX9_customOf_82 (by decide) ?_
            refine j_aload_n 0 dX9_customOf_84 rfl rfl ?_
            refine j_getr f_X9_32 r_74_11 dX9_customOf_85 ?_
            refine j_iload_n 2 dX9_customOf_88 rfl rfl ?_
            refine j_iald a_82 dX9_customOf_89 (by omega) (by omega) ?_
            have g_11 := h_rpapers h
            refine j_imul dX9_customOf_90 (by omega) ?_
            refine j_iadd dX9_customOf_91 (by omega) ?_
            exact hJ_4 _ (Or.inl ⟨c23_6, c32_7, c42_8, c55_9, c68_10, rfl⟩)
          · skip
            refine j_iload_n 3 dX9_customOf_71 rfl rfl ?_
            refine j_iload_n 3 dX9_customOf_72 rfl rfl ?_
            refine j_bipush dX9_customOf_73 (by decide) ?_
            refine j_idiv dX9_customOf_75 (by omega) (by omega) ?_
            refine j_isub dX9_customOf_76 (by omega) ?_
            refine j_goto (tgt := 92) dX9_customOf_77 (by decide) ?_
            exact hJ_4 _ (Or.inr (Or.inl ⟨c23_6, c32_7, c42_8, c55_9, c68_10, rfl⟩))
        · skip
          refine j_iload 4 dX9_customOf_58 rfl ?_
          refine j_bipush dX9_customOf_60 (by decide) ?_
          refine j_isub dX9_customOf_62 (by omega) ?_
          refine j_goto (tgt := 92) dX9_customOf_63 (by decide) ?_
          exact hJ_4 _ (Or.inr (Or.inr (Or.inl ⟨c23_6, c32_7, c42_8, c55_9, rfl⟩)))
      · skip
        refine j_iload_n 3 dX9_customOf_45 rfl rfl ?_
        refine j_sipush dX9_customOf_46 (by decide) ?_
        refine j_isub dX9_customOf_49 (by omega) ?_
        refine j_goto (tgt := 92) dX9_customOf_50 (by decide) ?_
        exact hJ_4 _ (Or.inr (Or.inr (Or.inr (Or.inl ⟨c23_6, c32_7, c42_8, rfl⟩))))
    · skip
      refine j_iload 4 dX9_customOf_35 rfl ?_
      refine j_goto (tgt := 92) dX9_customOf_37 (by decide) ?_
      exact hJ_4 _ (Or.inr (Or.inr (Or.inr (Or.inr (Or.inl ⟨c23_6, c32_7, rfl⟩)))))
  · skip
    refine j_iload_n 3 dX9_customOf_26 rfl rfl ?_
    refine j_goto (tgt := 92) dX9_customOf_27 (by decide) ?_
    exact hJ_4 _ (Or.inr (Or.inr (Or.inr (Or.inr (Or.inr (⟨c23_6, rfl⟩))))))
abbrev q_X9_truthOf (M : jM)  (m t w : Int) : Int → jM → Prop := fun r N => r = fTruth (M 94) (M 95) (M 96) m t w ∧ N = M
set_option maxHeartbeats 4000000 in
set_option maxRecDepth 20000 in
theorem c_X9_truthOf {X : jX} (M : jM)  (m t w : Int) (h_rchecks : ∀ i, 0 ≤ M 94 i ∧ M 94 i ≤ 4) (h_rcerr : ∀ i, -90 ≤ M 96 i ∧ M 96 i ≤ 90) (h0 : m = -9 ∨ (0 ≤ m ∧ m < 6)) (ht : 0 ≤ t ∧ t ≤ 1440) : jC yX9_truthOf D_X9_truthOf X FJ shJ [jR 74, jI m, jI t, jI w] M (jqI (q_X9_truthOf M m t w)) := by
  refine jC_of (by decide) rfl (fun ad => Nat.le_of_ble_eq_true rfl) (by decide) ?_
  show jG D_X9_truthOf X FJ shJ 0 0 (jqI (q_X9_truthOf M m t w)) 0 [(0, jR 74), (1, jI m), (2, jI t), (3, jI w)] [] M
  refine j_iload_n 1 dX9_truthOf_0 rfl rfl ?_
  refine j_bipush dX9_truthOf_1 (by decide) ?_
  refine j_icmp_ne (tgt := 8) dX9_truthOf_3 (by decide) (fun c3_1 => ?_) (fun c3_1 => ?_)
  · skip
    refine j_bipush dX9_truthOf_8 (by decide) ?_
    refine j_istore (ls' := [(0, jR 74), (1, jI m), (2, jI t), (3, jI w), (4, jI (-9))]) dX9_truthOf_10 (by decide) rfl ?_
    refine j_bipush dX9_truthOf_12 (by decide) ?_
    refine j_istore (ls' := [(0, jR 74), (1, jI m), (2, jI t), (3, jI w), (4, jI (-9)), (5, jI (-9))]) dX9_truthOf_14 (by decide) rfl ?_
    refine j_iconst dX9_truthOf_16 (by decide) ?_
    refine j_istore (ls' := [(0, jR 74), (1, jI m), (2, jI t), (3, jI w), (4, jI (-9)), (5, jI (-9)), (6, jI 0)]) dX9_truthOf_17 (by decide) rfl ?_
    have lp19_2 : ∀ n19 : Nat, ∀ (v4 v5 v6 : Int), (0 ≤ v6 ∧ v6 ≤ M 94 m) ∧ (v4 = tAhead (M 95) (4 * m) t v6.toNat) ∧ (v5 = tBehind (M 95) (4 * m) t v6.toNat) → (M 94 m - v6).toNat < n19 → jG D_X9_truthOf X FJ shJ 0 0 (jqI (q_X9_truthOf M m t w)) 19 [(0, jR 74), (1, jI m), (2, jI t), (3, jI w), (4, jI v4), (5, jI v5), (6, jI v6)] ([]) M := by
      intro n19
      induction n19 with
      | zero => intro v4 v5 v6  _ hz; exact absurd hz (Nat.not_lt_zero _)
      | succ n19 ih19 =>
        intro v4 v5 v6  hinv hm
        obtain ⟨h1, h4, h5⟩ := hinv
        have hcm := h_rchecks m
        have q4 := tAhead_in (M 95) (4 * m) t v6.toNat
        have q5 := tBehind_in (M 95) (4 * m) t v6.toNat
        rw [← h4] at q4
        rw [← h5] at q5
        refine j_iload 6 dX9_truthOf_19 rfl ?_
        refine j_aload_n 0 dX9_truthOf_21 rfl rfl ?_
        refine j_getr f_X9_68 r_74_33 dX9_truthOf_22 ?_
        refine j_iload_n 1 dX9_truthOf_25 rfl rfl ?_
        refine j_iald a_94 dX9_truthOf_26 (by omega) (by omega) ?_
        have g_3 := h_rchecks m
        refine j_icmp_ge (tgt := 132) dX9_truthOf_27 (by decide) (fun c27_4 => ?_) (fun c27_4 => ?_)
        · skip
          have e6 : v6 = M 94 m := by omega
          rw [e6] at h4 h5
          refine j_iload 4 dX9_truthOf_132 rfl ?_
          refine j_bipush dX9_truthOf_134 (by decide) ?_
          refine j_icmp_ne (tgt := 148) dX9_truthOf_136 (by decide) (fun c136_5 => ?_) (fun c136_5 => ?_)
          · skip
            refine j_iload 4 dX9_truthOf_148 rfl ?_
            refine j_bipush dX9_truthOf_150 (by decide) ?_
            refine j_icmp_eq (tgt := 162) dX9_truthOf_152 (by decide) (fun c152_6 => ?_) (fun c152_6 => ?_)
            · skip
              refine j_iload_n 2 dX9_truthOf_162 rfl rfl ?_
              refine j_aload_n 0 dX9_truthOf_163 rfl rfl ?_
              refine j_getr f_X9_74 r_74_35 dX9_truthOf_164 ?_
              refine j_iload 4 dX9_truthOf_167 rfl ?_
              refine j_bipush dX9_truthOf_169 (by decide) ?_
              have hJ_7 : ∀ zz : Int, (¬ v4 = (-9) ∧ zz = v4) ∨ (v4 = (-9) ∧ zz = v5) → jG D_X9_truthOf X FJ shJ 0 0 (jqI (q_X9_truthOf M m t w)) 181 [(0, jR 74), (1, jI m), (2, jI t), (3, jI w), (4, jI v4), (5, jI v5), (6, jI v6)] (jI zz :: jR 96 :: jI t :: []) M := by
                intro t_8 et_8
                refine j_iald a_96 dX9_truthOf_181 (by omega) (by omega) ?_
                have g_9 := h_rcerr t_8
                refine j_iadd dX9_truthOf_182 (by omega) ?_
                refine j_iload_n 3 dX9_truthOf_183 rfl rfl ?_
                have hJ_10 : ∀ zz : Int, (¬ w = 0 ∧ zz = 10) ∨ (w = 0 ∧ zz = (-10)) → jG D_X9_truthOf X FJ shJ 0 0 (jqI (q_X9_truthOf M m t w)) 194 [(0, jR 74), (1, jI m), (2, jI t), (3, jI w), (4, jI v4), (5, jI v5), (6, jI v6)] (jI zz :: jI (t + (M 96 t_8)) :: []) M := by
                  intro t_11 et_11
                  refine j_iadd dX9_truthOf_194 (by omega) ?_
                  refine j_iret rfl rfl rfl rfl dX9_truthOf_195 ?_
                  exact ⟨by unfold fTruth tJoin; (try rw [← h4, ← h5]); (repeat' split) <;> first | omega | grind, rfl⟩
                refine j_if_ne (tgt := 192) dX9_truthOf_184 (by decide) (fun c184_12 => ?_) (fun c184_12 => ?_)
                · skip
                  refine j_bipush dX9_truthOf_192 (by decide) ?_
                  exact hJ_10 _ (Or.inl ⟨c184_12, rfl⟩)
                · skip
                  refine j_bipush dX9_truthOf_187 (by decide) ?_
                  refine j_goto (tgt := 194) dX9_truthOf_189 (by decide) ?_
                  exact hJ_10 _ (Or.inr (⟨c184_12, rfl⟩))
              refine j_icmp_ne (tgt := 179) dX9_truthOf_171 (by decide) (fun c171_13 => ?_) (fun c171_13 => ?_)
              · skip
                refine j_iload 4 dX9_truthOf_179 rfl ?_
                exact hJ_7 _ (Or.inl ⟨c171_13, rfl⟩)
              · skip
                refine j_iload 5 dX9_truthOf_174 rfl ?_
                refine j_goto (tgt := 181) dX9_truthOf_176 (by decide) ?_
                exact hJ_7 _ (Or.inr (⟨c171_13, rfl⟩))
            · skip
              refine j_iload 5 dX9_truthOf_155 rfl ?_
              refine j_bipush dX9_truthOf_157 (by decide) ?_
              refine j_icmp_ne (tgt := 196) dX9_truthOf_159 (by decide) (fun c159_14 => ?_) (fun c159_14 => ?_)
              · skip
                refine j_aload_n 0 dX9_truthOf_196 rfl rfl ?_
                refine j_getr f_X9_74 r_74_35 dX9_truthOf_197 ?_
                refine j_iload 4 dX9_truthOf_200 rfl ?_
                refine j_iald a_96 dX9_truthOf_202 (by omega) (by omega) ?_
                have g_15 := h_rcerr v4
                refine j_nm (fun v6_16 ev6_16 => ?_)
                refine j_istore (ls' := [(0, jR 74), (1, jI m), (2, jI t), (3, jI w), (4, jI v4), (5, jI v5), (6, jI v6_16)]) dX9_truthOf_203 (by decide) rfl ?_
                refine j_aload_n 0 dX9_truthOf_205 rfl rfl ?_
                refine j_getr f_X9_74 r_74_35 dX9_truthOf_206 ?_
                refine j_iload 5 dX9_truthOf_209 rfl ?_
                refine j_iald a_96 dX9_truthOf_211 (by omega) (by omega) ?_
                have g_17 := h_rcerr v5
                refine j_nm (fun v7_18 ev7_18 => ?_)
                refine j_istore (ls' := [(0, jR 74), (1, jI m), (2, jI t), (3, jI w), (4, jI v4), (5, jI v5), (6, jI v6_16), (7, jI v7_18)]) dX9_truthOf_212 (by decide) rfl ?_
                refine j_iload_n 2 dX9_truthOf_214 rfl rfl ?_
                refine j_iload_n 3 dX9_truthOf_215 rfl rfl ?_
                have hJ_19 : ∀ zz : Int, (¬ w = 0 ∧ v6_16 ≤ v7_18 ∧ zz = v7_18) ∨ (¬ w = 0 ∧ ¬ (v6_16 ≤ v7_18) ∧ zz = v6_16) ∨ (w = 0 ∧ v7_18 ≤ v6_16 ∧ zz = v7_18) ∨ (w = 0 ∧ ¬ (v7_18 ≤ v6_16) ∧ zz = v6_16) → jG D_X9_truthOf X FJ shJ 0 0 (jqI (q_X9_truthOf M m t w)) 250 [(0, jR 74), (1, jI m), (2, jI t), (3, jI w), (4, jI v4), (5, jI v5), (6, jI v6_16), (7, jI v7_18)] (jI zz :: jI t :: []) M := by
                  intro t_20 et_20
                  refine j_iadd dX9_truthOf_250 (by omega) ?_
                  refine j_iret rfl rfl rfl rfl dX9_truthOf_251 ?_
                  exact ⟨by unfold fTruth tJoin; (try rw [← h4, ← h5]); (repeat' split) <;> first | omega | grind, rfl⟩
                refine j_if_ne (tgt := 236) dX9_truthOf_216 (by decide) (fun c216_21 => ?_) (fun c216_21 => ?_)
                · skip
                  refine j_iload 6 dX9_truthOf_236 rfl ?_
                  refine j_iload 7 dX9_truthOf_238 rfl ?_
                  refine j_icmp_le (tgt := 248) dX9_truthOf_240 (by decide) (fun c240_22 => ?_) (fun c240_22 => ?_)
                  · skip
                    refine j_iload 7 dX9_truthOf_248 rfl ?_
                    exact hJ_19 _ (Or.inl ⟨c216_21, c240_22, rfl⟩)
                  · skip
                    refine j_iload 6 dX9_truthOf_243 rfl ?_
                    refine j_goto (tgt := 250) dX9_truthOf_245 (by decide) ?_
                    exact hJ_19 _ (Or.inr (Or.inl ⟨c216_21, c240_22, rfl⟩))
                · skip
                  refine j_iload 6 dX9_truthOf_219 rfl ?_
                  refine j_iload 7 dX9_truthOf_221 rfl ?_
                  refine j_icmp_ge (tgt := 231) dX9_truthOf_223 (by decide) (fun c223_23 => ?_) (fun c223_23 => ?_)
                  · skip
                    refine j_iload 7 dX9_truthOf_231 rfl ?_
                    refine j_goto (tgt := 250) dX9_truthOf_233 (by decide) ?_
                    exact hJ_19 _ (Or.inr (Or.inr (Or.inl ⟨c216_21, c223_23, rfl⟩)))
                  · skip
                    refine j_iload 6 dX9_truthOf_226 rfl ?_
                    refine j_goto (tgt := 250) dX9_truthOf_228 (by decide) ?_
                    exact hJ_19 _ (Or.inr (Or.inr (Or.inr (⟨c216_21, c223_23, rfl⟩))))
              · skip
                refine j_iload_n 2 dX9_truthOf_162 rfl rfl ?_
                refine j_aload_n 0 dX9_truthOf_163 rfl rfl ?_
                refine j_getr f_X9_74 r_74_35 dX9_truthOf_164 ?_
                refine j_iload 4 dX9_truthOf_167 rfl ?_
                refine j_bipush dX9_truthOf_169 (by decide) ?_
                have hJ_24 : ∀ zz : Int, (¬ v4 = (-9) ∧ zz = v4) ∨ (v4 = (-9) ∧ zz = v5) → jG D_X9_truthOf X FJ shJ 0 0 (jqI (q_X9_truthOf M m t w)) 181 [(0, jR 74), (1, jI m), (2, jI t), (3, jI w), (4, jI v4), (5, jI v5), (6, jI v6)] (jI zz :: jR 96 :: jI t :: []) M := by
                  intro t_25 et_25
                  refine j_iald a_96 dX9_truthOf_181 (by omega) (by omega) ?_
                  have g_26 := h_rcerr t_25
                  refine j_iadd dX9_truthOf_182 (by omega) ?_
                  refine j_iload_n 3 dX9_truthOf_183 rfl rfl ?_
                  have hJ_27 : ∀ zz : Int, (¬ w = 0 ∧ zz = 10) ∨ (w = 0 ∧ zz = (-10)) → jG D_X9_truthOf X FJ shJ 0 0 (jqI (q_X9_truthOf M m t w)) 194 [(0, jR 74), (1, jI m), (2, jI t), (3, jI w), (4, jI v4), (5, jI v5), (6, jI v6)] (jI zz :: jI (t + (M 96 t_25)) :: []) M := by
                    intro t_28 et_28
                    refine j_iadd dX9_truthOf_194 (by omega) ?_
                    refine j_iret rfl rfl rfl rfl dX9_truthOf_195 ?_
                    exact ⟨by unfold fTruth tJoin; (try rw [← h4, ← h5]); (repeat' split) <;> first | omega | grind, rfl⟩
                  refine j_if_ne (tgt := 192) dX9_truthOf_184 (by decide) (fun c184_29 => ?_) (fun c184_29 => ?_)
                  · skip
                    refine j_bipush dX9_truthOf_192 (by decide) ?_
                    exact hJ_27 _ (Or.inl ⟨c184_29, rfl⟩)
                  · skip
                    refine j_bipush dX9_truthOf_187 (by decide) ?_
                    refine j_goto (tgt := 194) dX9_truthOf_189 (by decide) ?_
                    exact hJ_27 _ (Or.inr (⟨c184_29, rfl⟩))
                refine j_icmp_ne (tgt := 179) dX9_truthOf_171 (by decide) (fun c171_30 => ?_) (fun c171_30 => ?_)
                · skip
                  refine j_iload 4 dX9_truthOf_179 rfl ?_
                  exact hJ_24 _ (Or.inl ⟨c171_30, rfl⟩)
                · skip
                  refine j_iload 5 dX9_truthOf_174 rfl ?_
                  refine j_goto (tgt := 181) dX9_truthOf_176 (by decide) ?_
                  exact hJ_24 _ (Or.inr (⟨c171_30, rfl⟩))
          · skip
            refine j_iload 5 dX9_truthOf_139 rfl ?_
            refine j_bipush dX9_truthOf_141 (by decide) ?_
            refine j_icmp_ne (tgt := 148) dX9_truthOf_143 (by decide) (fun c143_31 => ?_) (fun c143_31 => ?_)
            · skip
              refine j_iload 4 dX9_truthOf_148 rfl ?_
              refine j_bipush dX9_truthOf_150 (by decide) ?_
              refine j_icmp_eq (tgt := 162) dX9_truthOf_152 (by decide) (fun c152_32 => ?_) (fun c152_32 => ?_)
              · skip
                refine j_iload_n 2 dX9_truthOf_162 rfl rfl ?_
                refine j_aload_n 0 dX9_truthOf_163 rfl rfl ?_
                refine j_getr f_X9_74 r_74_35 dX9_truthOf_164 ?_
                refine j_iload 4 dX9_truthOf_167 rfl ?_
                refine j_bipush dX9_truthOf_169 (by decide) ?_
                have hJ_33 : ∀ zz : Int, (¬ v4 = (-9) ∧ zz = v4) ∨ (v4 = (-9) ∧ zz = v5) → jG D_X9_truthOf X FJ shJ 0 0 (jqI (q_X9_truthOf M m t w)) 181 [(0, jR 74), (1, jI m), (2, jI t), (3, jI w), (4, jI v4), (5, jI v5), (6, jI v6)] (jI zz :: jR 96 :: jI t :: []) M := by
                  intro t_34 et_34
                  refine j_iald a_96 dX9_truthOf_181 (by omega) (by omega) ?_
                  have g_35 := h_rcerr t_34
                  refine j_iadd dX9_truthOf_182 (by omega) ?_
                  refine j_iload_n 3 dX9_truthOf_183 rfl rfl ?_
                  have hJ_36 : ∀ zz : Int, (¬ w = 0 ∧ zz = 10) ∨ (w = 0 ∧ zz = (-10)) → jG D_X9_truthOf X FJ shJ 0 0 (jqI (q_X9_truthOf M m t w)) 194 [(0, jR 74), (1, jI m), (2, jI t), (3, jI w), (4, jI v4), (5, jI v5), (6, jI v6)] (jI zz :: jI (t + (M 96 t_34)) :: []) M := by
                    intro t_37 et_37
                    refine j_iadd dX9_truthOf_194 (by omega) ?_
                    refine j_iret rfl rfl rfl rfl dX9_truthOf_195 ?_
                    exact ⟨by unfold fTruth tJoin; (try rw [← h4, ← h5]); (repeat' split) <;> first | omega | grind, rfl⟩
                  refine j_if_ne (tgt := 192) dX9_truthOf_184 (by decide) (fun c184_38 => ?_) (fun c184_38 => ?_)
                  · skip
                    refine j_bipush dX9_truthOf_192 (by decide) ?_
                    exact hJ_36 _ (Or.inl ⟨c184_38, rfl⟩)
                  · skip
                    refine j_bipush dX9_truthOf_187 (by decide) ?_
                    refine j_goto (tgt := 194) dX9_truthOf_189 (by decide) ?_
                    exact hJ_36 _ (Or.inr (⟨c184_38, rfl⟩))
                refine j_icmp_ne (tgt := 179) dX9_truthOf_171 (by decide) (fun c171_39 => ?_) (fun c171_39 => ?_)
                · skip
                  refine j_iload 4 dX9_truthOf_179 rfl ?_
                  exact hJ_33 _ (Or.inl ⟨c171_39, rfl⟩)
                · skip
                  refine j_iload 5 dX9_truthOf_174 rfl ?_
                  refine j_goto (tgt := 181) dX9_truthOf_176 (by decide) ?_
                  exact hJ_33 _ (Or.inr (⟨c171_39, rfl⟩))
              · skip
                refine j_iload 5 dX9_truthOf_155 rfl ?_
                refine j_bipush dX9_truthOf_157 (by decide) ?_
                refine j_icmp_ne (tgt := 196) dX9_truthOf_159 (by decide) (fun c159_40 => ?_) (fun c159_40 => ?_)
                · skip
                  refine j_aload_n 0 dX9_truthOf_196 rfl rfl ?_
                  refine j_getr f_X9_74 r_74_35 dX9_truthOf_197 ?_
                  refine j_iload 4 dX9_truthOf_200 rfl ?_
                  refine j_iald a_96 dX9_truthOf_202 (by omega) (by omega) ?_
                  have g_41 := h_rcerr v4
                  refine j_nm (fun v6_42 ev6_42 => ?_)
                  refine j_istore (ls' := [(0, jR 74), (1, jI m), (2, jI t), (3, jI w), (4, jI v4), (5, jI v5), (6, jI v6_42)]) dX9_truthOf_203 (by decide) rfl ?_
                  refine j_aload_n 0 dX9_truthOf_205 rfl rfl ?_
                  refine j_getr f_X9_74 r_74_35 dX9_truthOf_206 ?_
                  refine j_iload 5 dX9_truthOf_209 rfl ?_
                  refine j_iald a_96 dX9_truthOf_211 (by omega) (by omega) ?_
                  have g_43 := h_rcerr v5
                  refine j_nm (fun v7_44 ev7_44 => ?_)
                  refine j_istore (ls' := [(0, jR 74), (1, jI m), (2, jI t), (3, jI w), (4, jI v4), (5, jI v5), (6, jI v6_42), (7, jI v7_44)]) dX9_truthOf_212 (by decide) rfl ?_
                  refine j_iload_n 2 dX9_truthOf_214 rfl rfl ?_
                  refine j_iload_n 3 dX9_truthOf_215 rfl rfl ?_
                  have hJ_45 : ∀ zz : Int, (¬ w = 0 ∧ v6_42 ≤ v7_44 ∧ zz = v7_44) ∨ (¬ w = 0 ∧ ¬ (v6_42 ≤ v7_44) ∧ zz = v6_42) ∨ (w = 0 ∧ v7_44 ≤ v6_42 ∧ zz = v7_44) ∨ (w = 0 ∧ ¬ (v7_44 ≤ v6_42) ∧ zz = v6_42) → jG D_X9_truthOf X FJ shJ 0 0 (jqI (q_X9_truthOf M m t w)) 250 [(0, jR 74), (1, jI m), (2, jI t), (3, jI w), (4, jI v4), (5, jI v5), (6, jI v6_42), (7, jI v7_44)] (jI zz :: jI t :: []) M := by
                    intro t_46 et_46
                    refine j_iadd dX9_truthOf_250 (by omega) ?_
                    refine j_iret rfl rfl rfl rfl dX9_truthOf_251 ?_
                    exact ⟨by unfold fTruth tJoin; (try rw [← h4, ← h5]); (repeat' split) <;> first | omega | grind, rfl⟩
                  refine j_if_ne (tgt := 236) dX9_truthOf_216 (by decide) (fun c216_47 => ?_) (fun c216_47 => ?_)
                  · skip
                    refine j_iload 6 dX9_truthOf_236 rfl ?_
                    refine j_iload 7 dX9_truthOf_238 rfl ?_
                    refine j_icmp_le (tgt := 248) dX9_truthOf_240 (by decide) (fun c240_48 => ?_) (fun c240_48 => ?_)
                    · skip
                      refine j_iload 7 dX9_truthOf_248 rfl ?_
                      exact hJ_45 _ (Or.inl ⟨c216_47, c240_48, rfl⟩)
                    · skip
                      refine j_iload 6 dX9_truthOf_243 rfl ?_
                      refine j_goto (tgt := 250) dX9_truthOf_245 (by decide) ?_
                      exact hJ_45 _ (Or.inr (Or.inl ⟨c216_47, c240_48, rfl⟩))
                  · skip
                    refine j_iload 6 dX9_truthOf_219 rfl ?_
                    refine j_iload 7 dX9_truthOf_221 rfl ?_
                    refine j_icmp_ge (tgt := 231) dX9_truthOf_223 (by decide) (fun c223_49 => ?_) (fun c223_49 => ?_)
                    · skip
                      refine j_iload 7 dX9_truthOf_231 rfl ?_
                      refine j_goto (tgt := 250) dX9_truthOf_233 (by decide) ?_
                      exact hJ_45 _ (Or.inr (Or.inr (Or.inl ⟨c216_47, c223_49, rfl⟩)))
                    · skip
                      refine j_iload 6 dX9_truthOf_226 rfl ?_
                      refine j_goto (tgt := 250) dX9_truthOf_228 (by decide) ?_
                      exact hJ_45 _ (Or.inr (Or.inr (Or.inr (⟨c216_47, c223_49, rfl⟩))))
                · skip
                  refine j_iload_n 2 dX9_truthOf_162 rfl rfl ?_
                  refine j_aload_n 0 dX9_truthOf_163 rfl rfl ?_
                  refine j_getr f_X9_74 r_74_35 dX9_truthOf_164 ?_
                  refine j_iload 4 dX9_truthOf_167 rfl ?_
                  refine j_bipush dX9_truthOf_169 (by decide) ?_
                  have hJ_50 : ∀ zz : Int, (¬ v4 = (-9) ∧ zz = v4) ∨ (v4 = (-9) ∧ zz = v5) → jG D_X9_truthOf X FJ shJ 0 0 (jqI (q_X9_truthOf M m t w)) 181 [(0, jR 74), (1, jI m), (2, jI t), (3, jI w), (4, jI v4), (5, jI v5), (6, jI v6)] (jI zz :: jR 96 :: jI t :: []) M := by
                    intro t_51 et_51
                    refine j_iald a_96 dX9_truthOf_181 (by omega) (by omega) ?_
                    have g_52 := h_rcerr t_51
                    refine j_iadd dX9_truthOf_182 (by omega) ?_
                    refine j_iload_n 3 dX9_truthOf_183 rfl rfl ?_
                    have hJ_53 : ∀ zz : Int, (¬ w = 0 ∧ zz = 10) ∨ (w = 0 ∧ zz = (-10)) → jG D_X9_truthOf X FJ shJ 0 0 (jqI (q_X9_truthOf M m t w)) 194 [(0, jR 74), (1, jI m), (2, jI t), (3, jI w), (4, jI v4), (5, jI v5), (6, jI v6)] (jI zz :: jI (t + (M 96 t_51)) :: []) M := by
                      intro t_54 et_54
                      refine j_iadd dX9_truthOf_194 (by omega) ?_
                      refine j_iret rfl rfl rfl rfl dX9_truthOf_195 ?_
                      exact ⟨by unfold fTruth tJoin; (try rw [← h4, ← h5]); (repeat' split) <;> first | omega | grind, rfl⟩
                    refine j_if_ne (tgt := 192) dX9_truthOf_184 (by decide) (fun c184_55 => ?_) (fun c184_55 => ?_)
                    · skip
                      refine j_bipush dX9_truthOf_192 (by decide) ?_
                      exact hJ_53 _ (Or.inl ⟨c184_55, rfl⟩)
                    · skip
                      refine j_bipush dX9_truthOf_187 (by decide) ?_
                      refine j_goto (tgt := 194) dX9_truthOf_189 (by decide) ?_
                      exact hJ_53 _ (Or.inr (⟨c184_55, rfl⟩))
                  refine j_icmp_ne (tgt := 179) dX9_truthOf_171 (by decide) (fun c171_56 => ?_) (fun c171_56 => ?_)
                  · skip
                    refine j_iload 4 dX9_truthOf_179 rfl ?_
                    exact hJ_50 _ (Or.inl ⟨c171_56, rfl⟩)
                  · skip
                    refine j_iload 5 dX9_truthOf_174 rfl ?_
                    refine j_goto (tgt := 181) dX9_truthOf_176 (by decide) ?_
                    exact hJ_50 _ (Or.inr (⟨c171_56, rfl⟩))
            · skip
              refine j_iload_n 2 dX9_truthOf_146 rfl rfl ?_
              refine j_iret rfl rfl rfl rfl dX9_truthOf_147 ?_
              exact ⟨by unfold fTruth tJoin; (try rw [← h4, ← h5]); (repeat' split) <;> first | omega | grind, rfl⟩
        · skip
          refine j_iconst dX9_truthOf_30 (by decide) ?_
          refine j_iload_n 1 dX9_truthOf_31 rfl rfl ?_
          refine j_imul dX9_truthOf_32 (by omega) ?_
          refine j_iload 6 dX9_truthOf_33 rfl ?_
          refine j_iadd dX9_truthOf_35 (by omega) ?_
          refine j_nm (fun v7_57 ev7_57 => ?_)
          refine j_istore (ls' := [(0, jR 74), (1, jI m), (2, jI t), (3, jI w), (4, jI v4), (5, jI v5), (6, jI v6), (7, jI v7_57)]) dX9_truthOf_36 (by decide) rfl ?_
          refine j_aload_n 0 dX9_truthOf_38 rfl rfl ?_
          refine j_getr f_X9_71 r_74_34 dX9_truthOf_39 ?_
          refine j_iload 7 dX9_truthOf_42 rfl ?_
          refine j_iald a_95 dX9_truthOf_44 (by omega) (by omega) ?_
          refine j_iload_n 2 dX9_truthOf_45 rfl rfl ?_
          have hJ_58 : ∀ zz : Int, (t < (M 95 v7_57) ∧ zz = v4) ∨ (¬ (t < (M 95 v7_57)) ∧ v4 = (-9) ∧ zz = v7_57) ∨ (¬ (t < (M 95 v7_57)) ∧ ¬ v4 = (-9) ∧ (M 95 v7_57) < (M 95 v4) ∧ zz = v4) ∨ (¬ (t < (M 95 v7_57)) ∧ ¬ v4 = (-9) ∧ ¬ ((M 95 v7_57) < (M 95 v4)) ∧ zz = v7_57) → jG D_X9_truthOf X FJ shJ 0 0 (jqI (q_X9_truthOf M m t w)) 80 [(0, jR 74), (1, jI m), (2, jI t), (3, jI w), (4, jI v4), (5, jI v5), (6, jI v6), (7, jI v7_57)] (jI zz :: []) M := by
            intro t_59 et_59
            refine j_istore (ls' := [(0, jR 74), (1, jI m), (2, jI t), (3, jI w), (4, jI t_59), (5, jI v5), (6, jI v6), (7, jI v7_57)]) dX9_truthOf_80 (by decide) rfl ?_
            refine j_aload_n 0 dX9_truthOf_82 rfl rfl ?_
            refine j_getr f_X9_71 r_74_34 dX9_truthOf_83 ?_
            refine j_iload 7 dX9_truthOf_86 rfl ?_
            refine j_iald a_95 dX9_truthOf_88 (by omega) (by omega) ?_
            refine j_iload_n 2 dX9_truthOf_89 rfl rfl ?_
            have hJ_60 : ∀ zz : Int, ((M 95 v7_57) < t ∧ zz = v5) ∨ (¬ ((M 95 v7_57) < t) ∧ v5 = (-9) ∧ zz = v7_57) ∨ (¬ ((M 95 v7_57) < t) ∧ ¬ v5 = (-9) ∧ (M 95 v5) < (M 95 v7_57) ∧ zz = v5) ∨ (¬ ((M 95 v7_57) < t) ∧ ¬ v5 = (-9) ∧ ¬ ((M 95 v5) < (M 95 v7_57)) ∧ zz = v7_57) → jG D_X9_truthOf X FJ shJ 0 0 (jqI (q_X9_truthOf M m t w)) 124 [(0, jR 74), (1, jI m), (2, jI t), (3, jI w), (4, jI t_59), (5, jI v5), (6, jI v6), (7, jI v7_57)] (jI zz :: []) M := by
              intro t_61 et_61
              refine j_istore (ls' := [(0, jR 74), (1, jI m), (2, jI t), (3, jI w), (4, jI t_59), (5, jI t_61), (6, jI v6), (7, jI v7_57)]) dX9_truthOf_124 (by decide) rfl ?_
              obtain ⟨v6_62, ev6_62⟩ : ∃ y : Int, y = v6 + 1 := ⟨_, rfl⟩
              refine j_iinc (y := v6_62) (ls' := [(0, jR 74), (1, jI m), (2, jI t), (3, jI w), (4, jI t_59), (5, jI t_61), (6, jI v6_62), (7, jI v7_57)]) 6 dX9_truthOf_126 rfl ev6_62 (by omega) (by decide) rfl ?_
              refine j_goto (tgt := 19) dX9_truthOf_129 (by decide) ?_
              refine j_sub (ls' := [(0, jR 74), (1, jI m), (2, jI t), (3, jI w), (4, jI t_59), (5, jI t_61), (6, jI v6_62)]) [0, 1, 2, 3, 4, 5, 6] rfl ?_
              exact ih19 t_59 t_61 v6_62 ⟨by first | omega | grind, by rw [ev6_62, toNat_s h1.1]; unfold tAhead; rw [← h4, toNat_c h1.1]; grind, by rw [ev6_62, toNat_s h1.1]; unfold tBehind; rw [← h5, toNat_c h1.1]; grind⟩ (by omega)
            refine j_icmp_lt (tgt := 122) dX9_truthOf_90 (by decide) (fun c90_63 => ?_) (fun c90_63 => ?_)
            · skip
              refine j_iload 5 dX9_truthOf_122 rfl ?_
              exact hJ_60 _ (Or.inl ⟨c90_63, rfl⟩)
            · skip
              refine j_iload 5 dX9_truthOf_93 rfl ?_
              refine j_bipush dX9_truthOf_95 (by decide) ?_
              refine j_icmp_eq (tgt := 117) dX9_truthOf_97 (by decide) (fun c97_64 => ?_) (fun c97_64 => ?_)
              · skip
                refine j_iload 7 dX9_truthOf_117 rfl ?_
                refine j_goto (tgt := 124) dX9_truthOf_119 (by decide) ?_
                exact hJ_60 _ (Or.inr (Or.inl ⟨c90_63, c97_64, rfl⟩))
              · skip
                refine j_aload_n 0 dX9_truthOf_100 rfl rfl ?_
                refine j_getr f_X9_71 r_74_34 dX9_truthOf_101 ?_
                refine j_iload 7 dX9_truthOf_104 rfl ?_
                refine j_iald a_95 dX9_truthOf_106 (by omega) (by omega) ?_
                refine j_aload_n 0 dX9_truthOf_107 rfl rfl ?_
                refine j_getr f_X9_71 r_74_34 dX9_truthOf_108 ?_
                refine j_iload 5 dX9_truthOf_111 rfl ?_
                refine j_iald a_95 dX9_truthOf_113 (by omega) (by omega) ?_
                refine j_icmp_gt (tgt := 122) dX9_truthOf_114 (by decide) (fun c114_65 => ?_) (fun c114_65 => ?_)
                · skip
                  refine j_iload 5 dX9_truthOf_122 rfl ?_
                  exact hJ_60 _ (Or.inr (Or.inr (Or.inl ⟨c90_63, c97_64, c114_65, rfl⟩)))
                · skip
                  refine j_iload 7 dX9_truthOf_117 rfl ?_
                  refine j_goto (tgt := 124) dX9_truthOf_119 (by decide) ?_
                  exact hJ_60 _ (Or.inr (Or.inr (Or.inr (⟨c90_63, c97_64, c114_65, rfl⟩))))
          refine j_icmp_gt (tgt := 78) dX9_truthOf_46 (by decide) (fun c46_66 => ?_) (fun c46_66 => ?_)
          · skip
            refine j_iload 4 dX9_truthOf_78 rfl ?_
            exact hJ_58 _ (Or.inl ⟨c46_66, rfl⟩)
          · skip
            refine j_iload 4 dX9_truthOf_49 rfl ?_
            refine j_bipush dX9_truthOf_51 (by decide) ?_
            refine j_icmp_eq (tgt := 73) dX9_truthOf_53 (by decide) (fun c53_67 => ?_) (fun c53_67 => ?_)
            · skip
              refine j_iload 7 dX9_truthOf_73 rfl ?_
              refine j_goto (tgt := 80) dX9_truthOf_75 (by decide) ?_
              exact hJ_58 _ (Or.inr (Or.inl ⟨c46_66, c53_67, rfl⟩))
            · skip
              refine j_aload_n 0 dX9_truthOf_56 rfl rfl ?_
              refine j_getr f_X9_71 r_74_34 dX9_truthOf_57 ?_
              refine j_iload 7 dX9_truthOf_60 rfl ?_
              refine j_iald a_95 dX9_truthOf_62 (by omega) (by omega) ?_
              refine j_aload_n 0 dX9_truthOf_63 rfl rfl ?_
              refine j_getr f_X9_71 r_74_34 dX9_truthOf_64 ?_
              refine j_iload 4 dX9_truthOf_67 rfl ?_
              refine j_iald a_95 dX9_truthOf_69 (by omega) (by omega) ?_
              refine j_icmp_lt (tgt := 78) dX9_truthOf_70 (by decide) (fun c70_68 => ?_) (fun c70_68 => ?_)
              · skip
                refine j_iload 4 dX9_truthOf_78 rfl ?_
                exact hJ_58 _ (Or.inr (Or.inr (Or.inl ⟨c46_66, c53_67, c70_68, rfl⟩)))
              · skip
                refine j_iload 7 dX9_truthOf_73 rfl ?_
                refine j_goto (tgt := 80) dX9_truthOf_75 (by decide) ?_
                exact hJ_58 _ (Or.inr (Or.inr (Or.inr (⟨c46_66, c53_67, c70_68, rfl⟩))))
    exact lp19_2 _ (-9) (-9) 0 ⟨by have := h_rchecks m; omega, by first | omega | rfl, by first | omega | rfl⟩ (Nat.lt_succ_self _)
  · skip
    refine j_iload_n 2 dX9_truthOf_6 rfl rfl ?_
    refine j_iret rfl rfl rfl rfl dX9_truthOf_7 ?_
    exact ⟨by unfold fTruth tJoin; (try rw [← h4, ← h5]); (repeat' split) <;> first | omega | grind, rfl⟩
abbrev q_X9_mill (M : jM)  (a b c : Int) : Int → jM → Prop := fun r N => r = fMill (M 74 3) a b c ∧ N = (if 0 ≤ fMill (M 74 3) a b c then jup (jup (jup (jup (jup M 74 0 0) 76 (M 74 3) a) 77 (M 74 3) b) 78 (M 74 3) c) 74 3 (M 74 3 + 1) else jup M 74 0 0)
set_option maxHeartbeats 4000000 in
set_option maxRecDepth 20000 in
theorem c_X9_mill {X : jX} (M : jM)  (a b c : Int) (h_rmills : 0 ≤ M 74 3 ∧ M 74 3 ≤ 6) : jC yX9_mill D_X9_mill X FJ shJ [jR 74, jI a, jI b, jI c] M (jqI (q_X9_mill M a b c)) := by
  refine jC_of (by decide) rfl (fun ad => Nat.le_of_ble_eq_true rfl) (by decide) ?_
  show jG D_X9_mill X FJ shJ 0 0 (jqI (q_X9_mill M a b c)) 0 [(0, jR 74), (1, jI a), (2, jI b), (3, jI c)] [] M
  refine j_aload_n 0 dX9_mill_0 rfl rfl ?_
  refine j_iconst dX9_mill_1 (by decide) ?_
  refine j_puti (k' := 0) f_X9_124 o_74_0 dX9_mill_2 rfl ?_
  refine j_nmM (fun M_1 eM_1 => ?_)
  refine j_iload_n 1 dX9_mill_5 rfl rfl ?_
  refine j_iconst dX9_mill_6 (by decide) ?_
  refine j_iconst dX9_mill_7 (by decide) ?_
  refine j_callSi l_X9_137 ⟨Nat.le_of_ble_eq_true rfl, Nat.le_of_ble_eq_true rfl⟩ ⟨rfl, rfl⟩ dX9_mill_8 (c_X9_in M_1 a 0 3) rfl rfl (Nat.le_of_ble_eq_true rfl) (fun r_2 M_3 h_4 => ?_)
  obtain ⟨er_2, nh_4⟩ := h_4
  refine j_eqM nh_4 ?_
  clear nh_4
  refine j_if_eq (tgt := 34) dX9_mill_11 (by decide) (fun c11_5 => ?_) (fun c11_5 => ?_)
  · skip
    refine j_iconst dX9_mill_34 (by decide) ?_
    refine j_iret rfl rfl rfl rfl dX9_mill_35 ?_
    have hr : (-1) = fMill (M 74 3) a b c := by (unfold fMill; (repeat' split) <;> first | omega | grind)
    refine ⟨hr, ?_⟩
    rw [← hr]
    first | (rw [if_pos (by omega), eM_1]; done) | (rw [if_neg (by omega), eM_1]; done) | (rw [if_pos (by omega), eM_1, jup_zz])
  · skip
    refine j_iload_n 2 dX9_mill_14 rfl rfl ?_
    refine j_iconst dX9_mill_15 (by decide) ?_
    refine j_bipush dX9_mill_16 (by decide) ?_
    refine j_callSi l_X9_137 ⟨Nat.le_of_ble_eq_true rfl, Nat.le_of_ble_eq_true rfl⟩ ⟨rfl, rfl⟩ dX9_mill_18 (c_X9_in M_1 b 1 9) rfl rfl (Nat.le_of_ble_eq_true rfl) (fun r_6 M_7 h_8 => ?_)
    obtain ⟨er_6, nh_8⟩ := h_8
    refine j_eqM nh_8 ?_
    clear nh_8
    refine j_if_eq (tgt := 34) dX9_mill_21 (by decide) (fun c21_9 => ?_) (fun c21_9 => ?_)
    · skip
      refine j_iconst dX9_mill_34 (by decide) ?_
      refine j_iret rfl rfl rfl rfl dX9_mill_35 ?_
      have hr : (-1) = fMill (M 74 3) a b c := by (unfold fMill; (repeat' split) <;> first | omega | grind)
      refine ⟨hr, ?_⟩
      rw [← hr]
      first | (rw [if_pos (by omega), eM_1]; done) | (rw [if_neg (by omega), eM_1]; done) | (rw [if_pos (by omega), eM_1, jup_zz])
    · skip
      refine j_iload_n 3 dX9_mill_24 rfl rfl ?_
      refine j_iconst dX9_mill_25 (by decide) ?_
      refine j_bipush dX9_mill_26 (by decide) ?_
      refine j_callSi l_X9_137 ⟨Nat.le_of_ble_eq_true rfl, Nat.le_of_ble_eq_true rfl⟩ ⟨rfl, rfl⟩ dX9_mill_28 (c_X9_in M_1 c 1 8) rfl rfl (Nat.le_of_ble_eq_true rfl) (fun r_10 M_11 h_12 => ?_)
      obtain ⟨er_10, nh_12⟩ := h_12
      refine j_eqM nh_12 ?_
      clear nh_12
      refine j_if_ne (tgt := 36) dX9_mill_31 (by decide) (fun c31_13 => ?_) (fun c31_13 => ?_)
      · skip
        refine j_aload_n 0 dX9_mill_36 rfl rfl ?_
        refine j_geti (k' := 3) f_X9_134 o_74_3 dX9_mill_37 rfl ?_
        refine j_eq ((congrFun (congrFun eM_1 74) 3).trans (jup_ne (by decide))) ?_
        refine j_bipush dX9_mill_40 (by decide) ?_
        refine j_icmp_ne (tgt := 48) dX9_mill_42 (by decide) (fun c42_14 => ?_) (fun c42_14 => ?_)
        · skip
          refine j_aload_n 0 dX9_mill_48 rfl rfl ?_
          refine j_getr f_X9_13 r_74_4 dX9_mill_49 ?_
          refine j_aload_n 0 dX9_mill_52 rfl rfl ?_
          refine j_geti (k' := 3) f_X9_134 o_74_3 dX9_mill_53 rfl ?_
          refine j_eq ((congrFun (congrFun eM_1 74) 3).trans (jup_ne (by decide))) ?_
          refine j_iload_n 1 dX9_mill_56 rfl rfl ?_
          refine j_iast a_76 dX9_mill_57 (by omega) (by omega) ?_
          refine j_nmM (fun M_15 eM_15 => ?_)
          refine j_aload_n 0 dX9_mill_58 rfl rfl ?_
          refine j_getr f_X9_17 r_74_5 dX9_mill_59 ?_
          refine j_aload_n 0 dX9_mill_62 rfl rfl ?_
          refine j_geti (k' := 3) f_X9_134 o_74_3 dX9_mill_63 rfl ?_
          refine j_eq (Eq.trans (congrFun ((congrFun eM_15 74).trans (jup_cell (by decide))) 3) ((congrFun (congrFun eM_1 74) 3).trans (jup_ne (by decide)))) ?_
          refine j_iload_n 2 dX9_mill_66 rfl rfl ?_
          refine j_iast a_77 dX9_mill_67 (by omega) (by omega) ?_
          refine j_nmM (fun M_16 eM_16 => ?_)
          refine j_aload_n 0 dX9_mill_68 rfl rfl ?_
          refine j_getr f_X9_20 r_74_6 dX9_mill_69 ?_
          refine j_aload_n 0 dX9_mill_72 rfl rfl ?_
          refine j_geti (k' := 3) f_X9_134 o_74_3 dX9_mill_73 rfl ?_
          refine j_eq (Eq.trans (congrFun ((congrFun eM_16 74).trans (jup_cell (by decide))) 3) (Eq.trans (congrFun ((congrFun eM_15 74).trans (jup_cell (by decide))) 3) ((congrFun (congrFun eM_1 74) 3).trans (jup_ne (by decide))))) ?_
          refine j_iload_n 3 dX9_mill_76 rfl rfl ?_
          refine j_iast a_78 dX9_mill_77 (by omega) (by omega) ?_
          refine j_nmM (fun M_17 eM_17 => ?_)
          refine j_aload_n 0 dX9_mill_78 rfl rfl ?_
          refine j_dup dX9_mill_79 rfl ?_
          refine j_geti (k' := 3) f_X9_134 o_74_3 dX9_mill_80 rfl ?_
          refine j_eq (Eq.trans (congrFun ((congrFun eM_17 74).trans (jup_cell (by decide))) 3) (Eq.trans (congrFun ((congrFun eM_16 74).trans (jup_cell (by decide))) 3) (Eq.trans (congrFun ((congrFun eM_15 74).trans (jup_cell (by decide))) 3) ((congrFun (congrFun eM_1 74) 3).trans (jup_ne (by decide)))))) ?_
          refine j_iconst dX9_mill_83 (by decide) ?_
          refine j_iadd dX9_mill_84 (by omega) ?_
          refine j_puti (k' := 3) f_X9_134 o_74_3 dX9_mill_85 rfl ?_
          refine j_nmM (fun M_18 eM_18 => ?_)
          refine j_aload_n 0 dX9_mill_88 rfl rfl ?_
          refine j_geti (k' := 3) f_X9_134 o_74_3 dX9_mill_89 rfl ?_
          refine j_eq ((congrFun (congrFun eM_18 74) 3).trans (jup_self _ _ _ _)) ?_
          refine j_iconst dX9_mill_92 (by decide) ?_
          refine j_isub dX9_mill_93 (by omega) ?_
          refine j_iret rfl rfl rfl rfl dX9_mill_94 ?_
          have hr : (((M 74 3) + 1) - 1) = fMill (M 74 3) a b c := by (unfold fMill; (repeat' split) <;> first | omega | grind)
          refine ⟨hr, ?_⟩
          rw [← hr]
          first | (rw [if_pos (by omega), eM_18, eM_17, eM_16, eM_15, eM_1]; done) | (rw [if_neg (by omega), eM_18, eM_17, eM_16, eM_15, eM_1]; done) | (rw [if_pos (by omega), eM_18, eM_17, eM_16, eM_15, eM_1, jup_zz])
        · skip
          refine j_bipush dX9_mill_45 (by decide) ?_
          refine j_iret rfl rfl rfl rfl dX9_mill_47 ?_
          have hr : (-3) = fMill (M 74 3) a b c := by (unfold fMill; (repeat' split) <;> first | omega | grind)
          refine ⟨hr, ?_⟩
          rw [← hr]
          first | (rw [if_pos (by omega), eM_1]; done) | (rw [if_neg (by omega), eM_1]; done) | (rw [if_pos (by omega), eM_1, jup_zz])
      · skip
        refine j_iconst dX9_mill_34 (by decide) ?_
        refine j_iret rfl rfl rfl rfl dX9_mill_35 ?_
        have hr : (-1) = fMill (M 74 3) a b c := by (unfold fMill; (repeat' split) <;> first | omega | grind)
        refine ⟨hr, ?_⟩
        rw [← hr]
        first | (rw [if_pos (by omega), eM_1]; done) | (rw [if_neg (by omega), eM_1]; done) | (rw [if_pos (by omega), eM_1, jup_zz])
abbrev q_X9_hand (M : jM)  (a b : Int) : Int → jM → Prop := fun r N => r = fHand (M 74 8) a b ∧ N = (if 0 ≤ fHand (M 74 8) a b then jup (jup (jup (jup M 74 0 0) 80 (M 74 8) a) 81 (M 74 8) b) 74 8 (M 74 8 + 1) else jup M 74 0 0)
set_option maxHeartbeats 4000000 in
set_option maxRecDepth 20000 in
theorem c_X9_hand {X : jX} (M : jM)  (a b : Int) (h_rhands : 0 ≤ M 74 8 ∧ M 74 8 ≤ 24) : jC yX9_hand D_X9_hand X FJ shJ [jR 74, jI a, jI b] M (jqI (q_X9_hand M a b)) := by
  refine jC_of (by decide) rfl (fun ad => Nat.le_of_ble_eq_true rfl) (by decide) ?_
  show jG D_X9_hand X FJ shJ 0 0 (jqI (q_X9_hand M a b)) 0 [(0, jR 74), (1, jI a), (2, jI b)] [] M
  refine j_aload_n 0 dX9_hand_0 rfl rfl ?_
  refine j_iconst dX9_hand_1 (by decide) ?_
  refine j_puti (k' := 0) f_X9_124 o_74_0 dX9_hand_2 rfl ?_
  refine j_nmM (fun M_1 eM_1 => ?_)
  refine j_iload_n 1 dX9_hand_5 rfl rfl ?_
  refine j_iconst dX9_hand_6 (by decide) ?_
  refine j_iconst dX9_hand_7 (by decide) ?_
  refine j_callSi l_X9_137 ⟨Nat.le_of_ble_eq_true rfl, Nat.le_of_ble_eq_true rfl⟩ ⟨rfl, rfl⟩ dX9_hand_8 (c_X9_in M_1 a 0 5) rfl rfl (Nat.le_of_ble_eq_true rfl) (fun r_2 M_3 h_4 => ?_)
  obtain ⟨er_2, nh_4⟩ := h_4
  refine j_eqM nh_4 ?_
  clear nh_4
  refine j_if_eq (tgt := 23) dX9_hand_11 (by decide) (fun c11_5 => ?_) (fun c11_5 => ?_)
  · skip
    refine j_iconst dX9_hand_23 (by decide) ?_
    refine j_iret rfl rfl rfl rfl dX9_hand_24 ?_
    have hr : (-1) = fHand (M 74 8) a b := by (unfold fHand; (repeat' split) <;> first | omega | grind)
    refine ⟨hr, ?_⟩
    rw [← hr]
    first | (rw [if_pos (by omega), eM_1]; done) | (rw [if_neg (by omega), eM_1]; done) | (rw [if_pos (by omega), eM_1, jup_zz])
  · skip
    refine j_iload_n 2 dX9_hand_14 rfl rfl ?_
    refine j_iconst dX9_hand_15 (by decide) ?_
    refine j_iconst dX9_hand_16 (by decide) ?_
    refine j_callSi l_X9_137 ⟨Nat.le_of_ble_eq_true rfl, Nat.le_of_ble_eq_true rfl⟩ ⟨rfl, rfl⟩ dX9_hand_17 (c_X9_in M_1 b 0 3) rfl rfl (Nat.le_of_ble_eq_true rfl) (fun r_6 M_7 h_8 => ?_)
    obtain ⟨er_6, nh_8⟩ := h_8
    refine j_eqM nh_8 ?_
    clear nh_8
    refine j_if_ne (tgt := 25) dX9_hand_20 (by decide) (fun c20_9 => ?_) (fun c20_9 => ?_)
    · skip
      refine j_aload_n 0 dX9_hand_25 rfl rfl ?_
      refine j_geti (k' := 8) f_X9_141 o_74_8 dX9_hand_26 rfl ?_
      refine j_eq ((congrFun (congrFun eM_1 74) 8).trans (jup_ne (by decide))) ?_
      refine j_bipush dX9_hand_29 (by decide) ?_
      refine j_icmp_ne (tgt := 37) dX9_hand_31 (by decide) (fun c31_10 => ?_) (fun c31_10 => ?_)
      · skip
        refine j_aload_n 0 dX9_hand_37 rfl rfl ?_
        refine j_getr f_X9_26 r_74_9 dX9_hand_38 ?_
        refine j_aload_n 0 dX9_hand_41 rfl rfl ?_
        refine j_geti (k' := 8) f_X9_141 o_74_8 dX9_hand_42 rfl ?_
        refine j_eq ((congrFun (congrFun eM_1 74) 8).trans (jup_ne (by decide))) ?_
        refine j_iload_n 1 dX9_hand_45 rfl rfl ?_
        refine j_iast a_80 dX9_hand_46 (by omega) (by omega) ?_
        refine j_nmM (fun M_11 eM_11 => ?_)
        refine j_aload_n 0 dX9_hand_47 rfl rfl ?_
        refine j_getr f_X9_29 r_74_10 dX9_hand_48 ?_
        refine j_aload_n 0 dX9_hand_51 rfl rfl ?_
        refine j_geti (k' := 8) f_X9_141 o_74_8 dX9_hand_52 rfl ?_
        refine j_eq (Eq.trans (congrFun ((congrFun eM_11 74).trans (jup_cell (by decide))) 8) ((congrFun (congrFun eM_1 74) 8).trans (jup_ne (by decide)))) ?_
        refine j_iload_n 2 dX9_hand_55 rfl rfl ?_
        refine j_iast a_81 dX9_hand_56 (by omega) (by omega) ?_
        refine j_nmM (fun M_12 eM_12 => ?_)
        refine j_aload_n 0 dX9_hand_57 rfl rfl ?_
        refine j_dup dX9_hand_58 rfl ?_
        refine j_geti (k' := 8) f_X9_141 o_74_8 dX9_hand_59 rfl ?_
        refine j_eq (Eq.trans (congrFun ((congrFun eM_12 74).trans (jup_cell (by decide))) 8) (Eq.trans (congrFun ((congrFun eM_11 74).trans (jup_cell (by decide))) 8) ((congrFun (congrFun eM_1 74) 8).trans (jup_ne (by decide))))) ?_
        refine j_iconst dX9_hand_62 (by decide) ?_
        refine j_iadd dX9_hand_63 (by omega) ?_
        refine j_puti (k' := 8) f_X9_141 o_74_8 dX9_hand_64 rfl ?_
        refine j_nmM (fun M_13 eM_13 => ?_)
        refine j_aload_n 0 dX9_hand_67 rfl rfl ?_
        refine j_geti (k' := 8) f_X9_141 o_74_8 dX9_hand_68 rfl ?_
        refine j_eq ((congrFun (congrFun eM_13 74) 8).trans (jup_self _ _ _ _)) ?_
        refine j_iconst dX9_hand_71 (by decide) ?_
        refine j_isub dX9_hand_72 (by omega) ?_
        refine j_iret rfl rfl rfl rfl dX9_hand_73 ?_
        have hr : (((M 74 8) + 1) - 1) = fHand (M 74 8) a b := by (unfold fHand; (repeat' split) <;> first | omega | grind)
        refine ⟨hr, ?_⟩
        rw [← hr]
        first | (rw [if_pos (by omega), eM_13, eM_12, eM_11, eM_1]; done) | (rw [if_neg (by omega), eM_13, eM_12, eM_11, eM_1]; done) | (rw [if_pos (by omega), eM_13, eM_12, eM_11, eM_1, jup_zz])
      · skip
        refine j_bipush dX9_hand_34 (by decide) ?_
        refine j_iret rfl rfl rfl rfl dX9_hand_36 ?_
        have hr : (-3) = fHand (M 74 8) a b := by (unfold fHand; (repeat' split) <;> first | omega | grind)
        refine ⟨hr, ?_⟩
        rw [← hr]
        first | (rw [if_pos (by omega), eM_1]; done) | (rw [if_neg (by omega), eM_1]; done) | (rw [if_pos (by omega), eM_1, jup_zz])
    · skip
      refine j_iconst dX9_hand_23 (by decide) ?_
      refine j_iret rfl rfl rfl rfl dX9_hand_24 ?_
      have hr : (-1) = fHand (M 74 8) a b := by (unfold fHand; (repeat' split) <;> first | omega | grind)
      refine ⟨hr, ?_⟩
      rw [← hr]
      first | (rw [if_pos (by omega), eM_1]; done) | (rw [if_neg (by omega), eM_1]; done) | (rw [if_pos (by omega), eM_1, jup_zz])
abbrev q_X9_custom (M : jM)  (k h : Int) : Int → jM → Prop := fun r N => r = fCustomQ (M 74 8) (M 81) (M 82) k h ∧ N = (if (0 ≤ k ∧ k ≤ 5 ∧ 0 ≤ h ∧ h < M 74 8) then jup (jup M 74 0 0) 74 1 (M 74 1 + fTrace k) else jup M 74 0 0)
set_option maxHeartbeats 4000000 in
set_option maxRecDepth 20000 in
theorem c_X9_custom {X : jX} (M : jM)  (k h : Int) (h_rhands : 0 ≤ M 74 8 ∧ M 74 8 ≤ 24) (h_rgrade : ∀ i, 0 ≤ M 81 i ∧ M 81 i ≤ 3) (h_rpapers : ∀ i, 0 ≤ M 82 i ∧ M 82 i ≤ 3) : jC yX9_custom D_X9_custom X FJ shJ [jR 74, jI k, jI h] M (jqI (q_X9_custom M k h)) := by
  refine jC_of (by decide) rfl (fun ad => Nat.le_of_ble_eq_true rfl) (by decide) ?_
  show jG D_X9_custom X FJ shJ 0 0 (jqI (q_X9_custom M k h)) 0 [(0, jR 74), (1, jI k), (2, jI h)] [] M
  refine j_aload_n 0 dX9_custom_0 rfl rfl ?_
  refine j_iconst dX9_custom_1 (by decide) ?_
  refine j_puti (k' := 0) f_X9_124 o_74_0 dX9_custom_2 rfl ?_
  refine j_nmM (fun M_1 eM_1 => ?_)
  refine j_iload_n 1 dX9_custom_5 rfl rfl ?_
  refine j_iconst dX9_custom_6 (by decide) ?_
  refine j_iconst dX9_custom_7 (by decide) ?_
  refine j_callSi l_X9_137 ⟨Nat.le_of_ble_eq_true rfl, Nat.le_of_ble_eq_true rfl⟩ ⟨rfl, rfl⟩ dX9_custom_8 (c_X9_in M_1 k 0 5) rfl rfl (Nat.le_of_ble_eq_true rfl) (fun r_2 M_3 h_4 => ?_)
  obtain ⟨er_2, nh_4⟩ := h_4
  refine j_eqM nh_4 ?_
  clear nh_4
  refine j_if_eq (tgt := 22) dX9_custom_11 (by decide) (fun c11_5 => ?_) (fun c11_5 => ?_)
  · skip
    refine j_iconst dX9_custom_22 (by decide) ?_
    refine j_iret rfl rfl rfl rfl dX9_custom_23 ?_
    refine ⟨by unfold fCustomQ; split <;> first | omega | grind, ?_⟩
    first | (rw [if_neg (by omega), eM_1]; done) | (rw [if_pos (by omega), eM_1]; unfold fTrace; congr 1; (repeat' split) <;> omega)
  · skip
    refine j_aload_n 0 dX9_custom_14 rfl rfl ?_
    refine j_iload_n 2 dX9_custom_15 rfl rfl ?_
    refine j_callVi l_X9_144 ⟨Nat.le_of_ble_eq_true rfl, Nat.le_of_ble_eq_true rfl⟩ ⟨rfl, rfl⟩ dX9_custom_16 ob_74 (c_X9_isHand M_1 h (by rw [((congrFun (congrFun eM_1 74) 8).trans (jup_ne (by decide)))]; exact h_rhands)) rfl rfl (Nat.le_of_ble_eq_true rfl) (fun r_6 M_7 h_8 => ?_)
    obtain ⟨er_6, nh_8⟩ := h_8
    refine j_eqM nh_8 ?_
    clear nh_8
    simp only [((congrFun (congrFun eM_1 74) 8).trans (jup_ne (by decide)))] at er_6
    refine j_if_ne (tgt := 24) dX9_custom_19 (by decide) (fun c19_9 => ?_) (fun c19_9 => ?_)
    · skip
      refine j_aload_n 0 dX9_custom_24 rfl rfl ?_
      refine j_dup dX9_custom_25 rfl ?_
      refine j_getl (k' := 1) f_X9_148 o_74_1 dX9_custom_26 rfl ?_
      refine j_eqL ((congrFun (congrFun eM_1 74) 1).trans (jup_ne (by decide))) ?_
      refine j_iload_n 1 dX9_custom_29 rfl rfl ?_
      have hJ_10 : ∀ zz : Int, (¬ k = 0 ∧ ¬ k = 1 ∧ ¬ k = 2 ∧ ¬ k = 3 ∧ ¬ k = 4 ∧ zz = 100011) ∨ (¬ k = 0 ∧ ¬ k = 1 ∧ ¬ k = 2 ∧ ¬ k = 3 ∧ k = 4 ∧ zz = 10001) ∨ (¬ k = 0 ∧ ¬ k = 1 ∧ ¬ k = 2 ∧ k = 3 ∧ zz = 1011) ∨ (¬ k = 0 ∧ ¬ k = 1 ∧ k = 2 ∧ zz = 101) ∨ (¬ k = 0 ∧ k = 1 ∧ zz = 11) ∨ (k = 0 ∧ zz = 1) → jG D_X9_custom X FJ shJ 0 0 (jqI (q_X9_custom M k h)) 84 [(0, jR 74), (1, jI k), (2, jI h)] (jL zz :: jL (M 74 1) :: jR 74 :: []) M_1 := by
        intro t_11 et_11
        refine j_ladd dX9_custom_84 ?_
        refine j_putl (k' := 1) f_X9_148 o_74_1 dX9_custom_85 rfl ?_
        refine j_nmM (fun M_12 eM_12 => ?_)
        refine j_aload_n 0 dX9_custom_88 rfl rfl ?_
        refine j_iload_n 1 dX9_custom_89 rfl rfl ?_
        refine j_iload_n 2 dX9_custom_90 rfl rfl ?_
        refine j_callVi l_X9_162 ⟨Nat.le_of_ble_eq_true rfl, Nat.le_of_ble_eq_true rfl⟩ ⟨rfl, rfl⟩ dX9_custom_91 ob_74 (c_X9_customOf M_12 k h (by rw [(Eq.trans ((congrFun eM_12 81).trans (jup_cell (by decide))) ((congrFun eM_1 81).trans (jup_cell (by decide))))]; exact h_rgrade) (by rw [(Eq.trans ((congrFun eM_12 82).trans (jup_cell (by decide))) ((congrFun eM_1 82).trans (jup_cell (by decide))))]; exact h_rpapers) (by omega) (by omega)) rfl rfl (Nat.le_of_ble_eq_true rfl) (fun r_13 M_14 h_15 => ?_)
        obtain ⟨er_13, nh_15⟩ := h_15
        refine j_eqM nh_15 ?_
        clear nh_15
        simp only [(Eq.trans ((congrFun eM_12 81).trans (jup_cell (by decide))) ((congrFun eM_1 81).trans (jup_cell (by decide)))), (Eq.trans ((congrFun eM_12 82).trans (jup_cell (by decide))) ((congrFun eM_1 82).trans (jup_cell (by decide))))] at er_13
        refine j_iret rfl rfl rfl rfl dX9_custom_94 ?_
        refine ⟨by unfold fCustomQ; split <;> first | omega | grind, ?_⟩
        first | (rw [if_neg (by omega), eM_12, eM_1]; done) | (rw [if_pos (by omega), eM_12, eM_1]; unfold fTrace; congr 1; (repeat' split) <;> omega)
      refine j_if_ne (tgt := 37) dX9_custom_30 (by decide) (fun c30_16 => ?_) (fun c30_16 => ?_)
      · skip
        refine j_iload_n 1 dX9_custom_37 rfl rfl ?_
        refine j_iconst dX9_custom_38 (by decide) ?_
        refine j_icmp_ne (tgt := 48) dX9_custom_39 (by decide) (fun c39_17 => ?_) (fun c39_17 => ?_)
        · skip
          refine j_iload_n 1 dX9_custom_48 rfl rfl ?_
          refine j_iconst dX9_custom_49 (by decide) ?_
          refine j_icmp_ne (tgt := 59) dX9_custom_50 (by decide) (fun c50_18 => ?_) (fun c50_18 => ?_)
          · skip
            refine j_iload_n 1 dX9_custom_59 rfl rfl ?_
            refine j_iconst dX9_custom_60 (by decide) ?_
            refine j_icmp_ne (tgt := 70) dX9_custom_61 (by decide) (fun c61_19 => ?_) (fun c61_19 => ?_)
            · skip
              refine j_iload_n 1 dX9_custom_70 rfl rfl ?_
              refine j_iconst dX9_custom_71 (by decide) ?_
              refine j_icmp_ne (tgt := 81) dX9_custom_72 (by decide) (fun c72_20 => ?_) (fun c72_20 => ?_)
              · skip
                refine j_ldc2_w (n := 100011) dX9_custom_81 c_X9_160 ?_
                exact hJ_10 _ (Or.inl ⟨c30_16, c39_17, c50_18, c61_19, c72_20, rfl⟩)
              · skip
                refine j_ldc2_w (n := 10001) dX9_custom_75 c_X9_158 ?_
                refine j_goto (tgt := 84) dX9_custom_78 (by decide) ?_
                exact hJ_10 _ (Or.inr (Or.inl ⟨c30_16, c39_17, c50_18, c61_19, c72_20, rfl⟩))
            · skip
              refine j_ldc2_w (n := 1011) dX9_custom_64 c_X9_156 ?_
              refine j_goto (tgt := 84) dX9_custom_67 (by decide) ?_
              exact hJ_10 _ (Or.inr (Or.inr (Or.inl ⟨c30_16, c39_17, c50_18, c61_19, rfl⟩)))
          · skip
            refine j_ldc2_w (n := 101) dX9_custom_53 c_X9_154 ?_
            refine j_goto (tgt := 84) dX9_custom_56 (by decide) ?_
            exact hJ_10 _ (Or.inr (Or.inr (Or.inr (Or.inl ⟨c30_16, c39_17, c50_18, rfl⟩))))
        · skip
          refine j_ldc2_w (n := 11) dX9_custom_42 c_X9_152 ?_
          refine j_goto (tgt := 84) dX9_custom_45 (by decide) ?_
          exact hJ_10 _ (Or.inr (Or.inr (Or.inr (Or.inr (Or.inl ⟨c30_16, c39_17, rfl⟩)))))
      · skip
        refine j_lconst (v := 1) dX9_custom_33 rfl ?_
        refine j_goto (tgt := 84) dX9_custom_34 (by decide) ?_
        exact hJ_10 _ (Or.inr (Or.inr (Or.inr (Or.inr (Or.inr (⟨c30_16, rfl⟩))))))
    · skip
      refine j_iconst dX9_custom_22 (by decide) ?_
      refine j_iret rfl rfl rfl rfl dX9_custom_23 ?_
      refine ⟨by unfold fCustomQ; split <;> first | omega | grind, ?_⟩
      first | (rw [if_neg (by omega), eM_1]; done) | (rw [if_pos (by omega), eM_1]; unfold fTrace; congr 1; (repeat' split) <;> omega)
abbrev q_X9_paper (M : jM)  (h s n d : Int) : Int → jM → Prop := fun r N => r = fPaper (M 74 8) (M 82) h s n d ∧ N = (if 0 ≤ fPaper (M 74 8) (M 82) h s n d then jup (jup (jup (jup (jup M 74 0 0) 83 (9 * h + 3 * M 82 h) s) 83 (9 * h + 3 * M 82 h + 1) n) 83 (9 * h + 3 * M 82 h + 2) d) 82 h (M 82 h + 1) else jup M 74 0 0)
set_option maxHeartbeats 4000000 in
set_option maxRecDepth 20000 in
theorem c_X9_paper {X : jX} (M : jM)  (h s n d : Int) (h_rpapers : ∀ i, 0 ≤ M 82 i ∧ M 82 i ≤ 3) (h_rhands : 0 ≤ M 74 8 ∧ M 74 8 ≤ 24) : jC yX9_paper D_X9_paper X FJ shJ [jR 74, jI h, jI s, jI n, jI d] M (jqI (q_X9_paper M h s n d)) := by
  refine jC_of (by decide) rfl (fun ad => Nat.le_of_ble_eq_true rfl) (by decide) ?_
  show jG D_X9_paper X FJ shJ 0 0 (jqI (q_X9_paper M h s n d)) 0 [(0, jR 74), (1, jI h), (2, jI s), (3, jI n), (4, jI d)] [] M
  refine j_aload_n 0 dX9_paper_0 rfl rfl ?_
  refine j_iconst dX9_paper_1 (by decide) ?_
  refine j_puti (k' := 0) f_X9_124 o_74_0 dX9_paper_2 rfl ?_
  refine j_nmM (fun M_1 eM_1 => ?_)
  refine j_aload_n 0 dX9_paper_5 rfl rfl ?_
  refine j_iload_n 1 dX9_paper_6 rfl rfl ?_
  refine j_callVi l_X9_144 ⟨Nat.le_of_ble_eq_true rfl, Nat.le_of_ble_eq_true rfl⟩ ⟨rfl, rfl⟩ dX9_paper_7 ob_74 (c_X9_isHand M_1 h (by rw [((congrFun (congrFun eM_1 74) 8).trans (jup_ne (by decide)))]; exact h_rhands)) rfl rfl (Nat.le_of_ble_eq_true rfl) (fun r_2 M_3 h_4 => ?_)
  obtain ⟨er_2, nh_4⟩ := h_4
  refine j_eqM nh_4 ?_
  clear nh_4
  simp only [((congrFun (congrFun eM_1 74) 8).trans (jup_ne (by decide)))] at er_2
  refine j_if_eq (tgt := 64) dX9_paper_10 (by decide) (fun c10_5 => ?_) (fun c10_5 => ?_)
  · skip
    refine j_iconst dX9_paper_64 (by decide) ?_
    refine j_iret rfl rfl rfl rfl dX9_paper_65 ?_
    have hr : (-1) = fPaper (M 74 8) (M 82) h s n d := by (unfold fPaper; (repeat' split) <;> first | omega | grind)
    refine ⟨hr, ?_⟩
    rw [← hr]
    first | (rw [if_pos (by omega), eM_1]; done) | (rw [if_neg (by omega), eM_1]; done) | (rw [if_pos (by omega), eM_1, jup_zz])
  · skip
    refine j_iload_n 2 dX9_paper_13 rfl rfl ?_
    refine j_iconst dX9_paper_14 (by decide) ?_
    refine j_iconst dX9_paper_15 (by decide) ?_
    refine j_callSi l_X9_137 ⟨Nat.le_of_ble_eq_true rfl, Nat.le_of_ble_eq_true rfl⟩ ⟨rfl, rfl⟩ dX9_paper_16 (c_X9_in M_1 s 0 2) rfl rfl (Nat.le_of_ble_eq_true rfl) (fun r_6 M_7 h_8 => ?_)
    obtain ⟨er_6, nh_8⟩ := h_8
    refine j_eqM nh_8 ?_
    clear nh_8
    refine j_if_eq (tgt := 64) dX9_paper_19 (by decide) (fun c19_9 => ?_) (fun c19_9 => ?_)
    · skip
      refine j_iconst dX9_paper_64 (by decide) ?_
      refine j_iret rfl rfl rfl rfl dX9_paper_65 ?_
      have hr : (-1) = fPaper (M 74 8) (M 82) h s n d := by (unfold fPaper; (repeat' split) <;> first | omega | grind)
      refine ⟨hr, ?_⟩
      rw [← hr]
      first | (rw [if_pos (by omega), eM_1]; done) | (rw [if_neg (by omega), eM_1]; done) | (rw [if_pos (by omega), eM_1, jup_zz])
    · skip
      refine j_iload_n 3 dX9_paper_22 rfl rfl ?_
      refine j_iconst dX9_paper_23 (by decide) ?_
      refine j_iload_n 2 dX9_paper_24 rfl rfl ?_
      have hJ_10 : ∀ zz : Int, (¬ s = 0 ∧ ¬ s = 1 ∧ zz = 30) ∨ (¬ s = 0 ∧ s = 1 ∧ zz = 32) ∨ (s = 0 ∧ zz = 9999) → jG D_X9_paper X FJ shJ 0 0 (jqI (q_X9_paper M h s n d)) 46 [(0, jR 74), (1, jI h), (2, jI s), (3, jI n), (4, jI d)] (jI zz :: jI 0 :: jI n :: []) M_1 := by
        intro t_11 et_11
        refine j_callSi l_X9_137 ⟨Nat.le_of_ble_eq_true rfl, Nat.le_of_ble_eq_true rfl⟩ ⟨rfl, rfl⟩ dX9_paper_46 (c_X9_in M_1 n 0 t_11) rfl rfl (Nat.le_of_ble_eq_true rfl) (fun r_12 M_13 h_14 => ?_)
        obtain ⟨er_12, nh_14⟩ := h_14
        refine j_eqM nh_14 ?_
        clear nh_14
        refine j_if_eq (tgt := 64) dX9_paper_49 (by decide) (fun c49_15 => ?_) (fun c49_15 => ?_)
        · skip
          refine j_iconst dX9_paper_64 (by decide) ?_
          refine j_iret rfl rfl rfl rfl dX9_paper_65 ?_
          have hr : (-1) = fPaper (M 74 8) (M 82) h s n d := by (unfold fPaper; (repeat' split) <;> first | omega | grind)
          refine ⟨hr, ?_⟩
          rw [← hr]
          first | (rw [if_pos (by omega), eM_1]; done) | (rw [if_neg (by omega), eM_1]; done) | (rw [if_pos (by omega), eM_1, jup_zz])
        · skip
          refine j_iload_n 2 dX9_paper_52 rfl rfl ?_
          refine j_if_le (tgt := 66) dX9_paper_53 (by decide) (fun c53_16 => ?_) (fun c53_16 => ?_)
          · skip
            refine j_aload_n 0 dX9_paper_66 rfl rfl ?_
            refine j_getr f_X9_32 r_74_11 dX9_paper_67 ?_
            refine j_iload_n 1 dX9_paper_70 rfl rfl ?_
            refine j_iald a_82 dX9_paper_71 (by omega) (by omega) ?_
            refine j_eq (congrFun ((congrFun eM_1 82).trans (jup_cell (by decide))) h) ?_
            have g_17 := h_rpapers h
            refine j_iconst dX9_paper_72 (by decide) ?_
            refine j_icmp_ne (tgt := 79) dX9_paper_73 (by decide) (fun c73_18 => ?_) (fun c73_18 => ?_)
            · skip
              refine j_bipush dX9_paper_79 (by decide) ?_
              refine j_iload_n 1 dX9_paper_81 rfl rfl ?_
              refine j_imul dX9_paper_82 (by omega) ?_
              refine j_iconst dX9_paper_83 (by decide) ?_
              refine j_aload_n 0 dX9_paper_84 rfl rfl ?_
              refine j_getr f_X9_32 r_74_11 dX9_paper_85 ?_
              refine j_iload_n 1 dX9_paper_88 rfl rfl ?_
              refine j_iald a_82 dX9_paper_89 (by omega) (by omega) ?_
              refine j_eq (congrFun ((congrFun eM_1 82).trans (jup_cell (by decide))) h) ?_
              have g_19 := h_rpapers h
              refine j_imul dX9_paper_90 (by omega) ?_
              refine j_iadd dX9_paper_91 (by omega) ?_
              refine j_nm (fun v5_20 ev5_20 => ?_)
              refine j_istore (ls' := [(0, jR 74), (1, jI h), (2, jI s), (3, jI n), (4, jI d), (5, jI v5_20)]) dX9_paper_92 (by decide) rfl ?_
              refine j_aload_n 0 dX9_paper_94 rfl rfl ?_
              refine j_getr f_X9_35 r_74_12 dX9_paper_95 ?_
              refine j_iload 5 dX9_paper_98 rfl ?_
              refine j_iload_n 2 dX9_paper_100 rfl rfl ?_
              refine j_iast a_83 dX9_paper_101 (by omega) (by omega) ?_
              refine j_nmM (fun M_21 eM_21 => ?_)
              refine j_aload_n 0 dX9_paper_102 rfl rfl ?_
              refine j_getr f_X9_35 r_74_12 dX9_paper_103 ?_
              refine j_iload 5 dX9_paper_106 rfl ?_
              refine j_iconst dX9_paper_108 (by decide) ?_
              refine j_iadd dX9_paper_109 (by omega) ?_
              refine j_iload_n 3 dX9_paper_110 rfl rfl ?_
              refine j_iast a_83 dX9_paper_111 (by omega) (by omega) ?_
              refine j_nmM (fun M_22 eM_22 => ?_)
              refine j_aload_n 0 dX9_paper_112 rfl rfl ?_
              refine j_getr f_X9_35 r_74_12 dX9_paper_113 ?_
              refine j_iload 5 dX9_paper_116 rfl ?_
              refine j_iconst dX9_paper_118 (by decide) ?_
              refine j_iadd dX9_paper_119 (by omega) ?_
              refine j_iload 4 dX9_paper_120 rfl ?_
              refine j_iast a_83 dX9_paper_122 (by omega) (by omega) ?_
              refine j_nmM (fun M_23 eM_23 => ?_)
              refine j_aload_n 0 dX9_paper_123 rfl rfl ?_
              refine j_getr f_X9_32 r_74_11 dX9_paper_124 ?_
              refine j_iload_n 1 dX9_paper_127 rfl rfl ?_
              refine j_dup2 dX9_paper_128 rfl rfl ?_
              refine j_iald a_82 dX9_paper_129 (by omega) (by omega) ?_
              refine j_eq (Eq.trans (congrFun ((congrFun eM_23 82).trans (jup_cell (by decide))) h) (Eq.trans (congrFun ((congrFun eM_22 82).trans (jup_cell (by decide))) h) (Eq.trans (congrFun ((congrFun eM_21 82).trans (jup_cell (by decide))) h) (congrFun ((congrFun eM_1 82).trans (jup_cell (by decide))) h)))) ?_
              have g_24 := h_rpapers h
              refine j_iconst dX9_paper_130 (by decide) ?_
              refine j_iadd dX9_paper_131 (by omega) ?_
              refine j_iast a_82 dX9_paper_132 (by omega) (by omega) ?_
              refine j_nmM (fun M_25 eM_25 => ?_)
              refine j_aload_n 0 dX9_paper_133 rfl rfl ?_
              refine j_getr f_X9_32 r_74_11 dX9_paper_134 ?_
              refine j_iload_n 1 dX9_paper_137 rfl rfl ?_
              refine j_iald a_82 dX9_paper_138 (by omega) (by omega) ?_
              refine j_eq ((congrFun (congrFun eM_25 82) h).trans (jup_self _ _ _ _)) ?_
              refine j_iret rfl rfl rfl rfl dX9_paper_139 ?_
              have hr : ((M 82 h) + 1) = fPaper (M 74 8) (M 82) h s n d := by (unfold fPaper; (repeat' split) <;> first | omega | grind)
              refine ⟨hr, ?_⟩
              rw [← hr]
              first | (rw [if_pos (by omega), eM_25, eM_23, eM_22, eM_21, eM_1]; done) | (rw [if_neg (by omega), eM_25, eM_23, eM_22, eM_21, eM_1]; done) | (rw [if_pos (by omega), eM_25, eM_23, eM_22, eM_21, eM_1, ev5_20])
            · skip
              refine j_bipush dX9_paper_76 (by decide) ?_
              refine j_iret rfl rfl rfl rfl dX9_paper_78 ?_
              have hr : (-3) = fPaper (M 74 8) (M 82) h s n d := by (unfold fPaper; (repeat' split) <;> first | omega | grind)
              refine ⟨hr, ?_⟩
              rw [← hr]
              first | (rw [if_pos (by omega), eM_1]; done) | (rw [if_neg (by omega), eM_1]; done) | (rw [if_pos (by omega), eM_1, jup_zz])
          · skip
            refine j_iload 4 dX9_paper_56 rfl ?_
            refine j_callSi l_X9_166 ⟨Nat.le_of_ble_eq_true rfl, Nat.le_of_ble_eq_true rfl⟩ ⟨rfl, rfl⟩ dX9_paper_58 (c_X9_isDay M_1 d) rfl rfl (Nat.le_of_ble_eq_true rfl) (fun r_26 M_27 h_28 => ?_)
            obtain ⟨er_26, nh_28⟩ := h_28
            refine j_eqM nh_28 ?_
            clear nh_28
            refine j_if_ne (tgt := 66) dX9_paper_61 (by decide) (fun c61_29 => ?_) (fun c61_29 => ?_)
            · skip
              refine j_aload_n 0 dX9_paper_66 rfl rfl ?_
              refine j_getr f_X9_32 r_74_11 dX9_paper_67 ?_
              refine j_iload_n 1 dX9_paper_70 rfl rfl ?_
              refine j_iald a_82 dX9_paper_71 (by omega) (by omega) ?_
              refine j_eq (congrFun ((congrFun eM_1 82).trans (jup_cell (by decide))) h) ?_
              have g_30 := h_rpapers h
              refine j_iconst dX9_paper_72 (by decide) ?_
              refine j_icmp_ne (tgt := 79) dX9_paper_73 (by decide) (fun c73_31 => ?_) (fun c73_31 => ?_)
              · skip
                refine j_bipush dX9_paper_79 (by decide) ?_
                refine j_iload_n 1 dX9_paper_81 rfl rfl ?_
                refine j_imul dX9_paper_82 (by omega) ?_
                refine j_iconst dX9_paper_83 (by decide) ?_
                refine j_aload_n 0 dX9_paper_84 rfl rfl ?_
                refine j_getr f_X9_32 r_74_11 dX9_paper_85 ?_
                refine j_iload_n 1 dX9_paper_88 rfl rfl ?_
                refine j_iald a_82 dX9_paper_89 (by omega) (by omega) ?_
                refine j_eq (congrFun ((congrFun eM_1 82).trans (jup_cell (by decide))) h) ?_
                have g_32 := h_rpapers h
                refine j_imul dX9_paper_90 (by omega) ?_
                refine j_iadd dX9_paper_91 (by omega) ?_
                refine j_nm (fun v5_33 ev5_33 => ?_)
                refine j_istore (ls' := [(0, jR 74), (1, jI h), (2, jI s), (3, jI n), (4, jI d), (5, jI v5_33)]) dX9_paper_92 (by decide) rfl ?_
                refine j_aload_n 0 dX9_paper_94 rfl rfl ?_
                refine j_getr f_X9_35 r_74_12 dX9_paper_95 ?_
                refine j_iload 5 dX9_paper_98 rfl ?_
                refine j_iload_n 2 dX9_paper_100 rfl rfl ?_
                refine j_iast a_83 dX9_paper_101 (by omega) (by omega) ?_
                refine j_nmM (fun M_34 eM_34 => ?_)
                refine j_aload_n 0 dX9_paper_102 rfl rfl ?_
                refine j_getr f_X9_35 r_74_12 dX9_paper_103 ?_
                refine j_iload 5 dX9_paper_106 rfl ?_
                refine j_iconst dX9_paper_108 (by decide) ?_
                refine j_iadd dX9_paper_109 (by omega) ?_
                refine j_iload_n 3 dX9_paper_110 rfl rfl ?_
                refine j_iast a_83 dX9_paper_111 (by omega) (by omega) ?_
                refine j_nmM (fun M_35 eM_35 => ?_)
                refine j_aload_n 0 dX9_paper_112 rfl rfl ?_
                refine j_getr f_X9_35 r_74_12 dX9_paper_113 ?_
                refine j_iload 5 dX9_paper_116 rfl ?_
                refine j_iconst dX9_paper_118 (by decide) ?_
                refine j_iadd dX9_paper_119 (by omega) ?_
                refine j_iload 4 dX9_paper_120 rfl ?_
                refine j_iast a_83 dX9_paper_122 (by omega) (by omega) ?_
                refine j_nmM (fun M_36 eM_36 => ?_)
                refine j_aload_n 0 dX9_paper_123 rfl rfl ?_
                refine j_getr f_X9_32 r_74_11 dX9_paper_124 ?_
                refine j_iload_n 1 dX9_paper_127 rfl rfl ?_
                refine j_dup2 dX9_paper_128 rfl rfl ?_
                refine j_iald a_82 dX9_paper_129 (by omega) (by omega) ?_
                refine j_eq (Eq.trans (congrFun ((congrFun eM_36 82).trans (jup_cell (by decide))) h) (Eq.trans (congrFun ((congrFun eM_35 82).trans (jup_cell (by decide))) h) (Eq.trans (congrFun ((congrFun eM_34 82).trans (jup_cell (by decide))) h) (congrFun ((congrFun eM_1 82).trans (jup_cell (by decide))) h)))) ?_
                have g_37 := h_rpapers h
                refine j_iconst dX9_paper_130 (by decide) ?_
                refine j_iadd dX9_paper_131 (by omega) ?_
                refine j_iast a_82 dX9_paper_132 (by omega) (by omega) ?_
                refine j_nmM (fun M_38 eM_38 => ?_)
                refine j_aload_n 0 dX9_paper_133 rfl rfl ?_
                refine j_getr f_X9_32 r_74_11 dX9_paper_134 ?_
                refine j_iload_n 1 dX9_paper_137 rfl rfl ?_
                refine j_iald a_82 dX9_paper_138 (by omega) (by omega) ?_
                refine j_eq ((congrFun (congrFun eM_38 82) h).trans (jup_self _ _ _ _)) ?_
                refine j_iret rfl rfl rfl rfl dX9_paper_139 ?_
                have hr : ((M 82 h) + 1) = fPaper (M 74 8) (M 82) h s n d := by (unfold fPaper; (repeat' split) <;> first | omega | grind)
                refine ⟨hr, ?_⟩
                rw [← hr]
                first | (rw [if_pos (by omega), eM_38, eM_36, eM_35, eM_34, eM_1]; done) | (rw [if_neg (by omega), eM_38, eM_36, eM_35, eM_34, eM_1]; done) | (rw [if_pos (by omega), eM_38, eM_36, eM_35, eM_34, eM_1, ev5_33])
              · skip
                refine j_bipush dX9_paper_76 (by decide) ?_
                refine j_iret rfl rfl rfl rfl dX9_paper_78 ?_
                have hr : (-3) = fPaper (M 74 8) (M 82) h s n d := by (unfold fPaper; (repeat' split) <;> first | omega | grind)
                refine ⟨hr, ?_⟩
                rw [← hr]
                first | (rw [if_pos (by omega), eM_1]; done) | (rw [if_neg (by omega), eM_1]; done) | (rw [if_pos (by omega), eM_1, jup_zz])
            · skip
              refine j_iconst dX9_paper_64 (by decide) ?_
              refine j_iret rfl rfl rfl rfl dX9_paper_65 ?_
              have hr : (-1) = fPaper (M 74 8) (M 82) h s n d := by (unfold fPaper; (repeat' split) <;> first | omega | grind)
              refine ⟨hr, ?_⟩
              rw [← hr]
              first | (rw [if_pos (by omega), eM_1]; done) | (rw [if_neg (by omega), eM_1]; done) | (rw [if_pos (by omega), eM_1, jup_zz])
      refine j_if_ne (tgt := 34) dX9_paper_25 (by decide) (fun c25_39 => ?_) (fun c25_39 => ?_)
      · skip
        refine j_iload_n 2 dX9_paper_34 rfl rfl ?_
        refine j_iconst dX9_paper_35 (by decide) ?_
        refine j_icmp_ne (tgt := 44) dX9_paper_36 (by decide) (fun c36_40 => ?_) (fun c36_40 => ?_)
        · skip
          refine j_bipush dX9_paper_44 (by decide) ?_
          exact hJ_10 _ (Or.inl ⟨c25_39, c36_40, rfl⟩)
        · skip
          refine j_bipush dX9_paper_39 (by decide) ?_
          refine j_goto (tgt := 46) dX9_paper_41 (by decide) ?_
          exact hJ_10 _ (Or.inr (Or.inl ⟨c25_39, c36_40, rfl⟩))
      · skip
        refine j_sipush dX9_paper_28 (by decide) ?_
        refine j_goto (tgt := 46) dX9_paper_31 (by decide) ?_
        exact hJ_10 _ (Or.inr (Or.inr (⟨c25_39, rfl⟩)))
abbrev q_X9_bornOf (M : jM)  (h w : Int) : Int → jM → Prop := fun r N => r = fBorn (M 83) (M 82) h w ∧ N = M
set_option maxHeartbeats 4000000 in
set_option maxRecDepth 20000 in
theorem c_X9_bornOf {X : jX} (M : jM)  (h w : Int) (h_rpapers : ∀ i, 0 ≤ M 82 i ∧ M 82 i ≤ 3) (h_rpaper : pOk (M 83)) (h0 : 0 ≤ h ∧ h < 24) : jC yX9_bornOf D_X9_bornOf X FJ shJ [jR 74, jI h, jI w] M (jqI (q_X9_bornOf M h w)) := by
  refine jC_of (by decide) rfl (fun ad => Nat.le_of_ble_eq_true rfl) (by decide) ?_
  show jG D_X9_bornOf X FJ shJ 0 0 (jqI (q_X9_bornOf M h w)) 0 [(0, jR 74), (1, jI h), (2, jI w)] [] M
  refine j_iconst dX9_bornOf_0 (by decide) ?_
  refine j_istore_n (ls' := [(0, jR 74), (1, jI h), (2, jI w), (3, jI 0)]) dX9_bornOf_1 rfl (by decide) rfl ?_
  refine j_sipush dX9_bornOf_2 (by decide) ?_
  refine j_istore (ls' := [(0, jR 74), (1, jI h), (2, jI w), (3, jI 0), (4, jI 10799)]) dX9_bornOf_5 (by decide) rfl ?_
  refine j_iconst dX9_bornOf_7 (by decide) ?_
  refine j_istore (ls' := [(0, jR 74), (1, jI h), (2, jI w), (3, jI 0), (4, jI 10799), (5, jI 0)]) dX9_bornOf_8 (by decide) rfl ?_
  have lp10_1 : ∀ n10 : Nat, ∀ (v3 v4 v5 : Int), (0 ≤ v5 ∧ v5 ≤ M 82 h) ∧ (v3 = bFrom (M 83) h v5.toNat) ∧ (v4 = bTo (M 83) h v5.toNat) → (M 82 h - v5).toNat < n10 → jG D_X9_bornOf X FJ shJ 0 0 (jqI (q_X9_bornOf M h w)) 10 [(0, jR 74), (1, jI h), (2, jI w), (3, jI v3), (4, jI v4), (5, jI v5)] ([]) M := by
    intro n10
    induction n10 with
    | zero => intro v3 v4 v5  _ hz; exact absurd hz (Nat.not_lt_zero _)
    | succ n10 ih10 =>
      intro v3 v4 v5  hinv hm
      obtain ⟨h1, h3, h4⟩ := hinv
      have hcm := h_rpapers h
      have q3 := bFrom_in h_rpaper h v5.toNat
      have q4 := bTo_in h_rpaper h v5.toNat
      rw [← h3] at q3
      rw [← h4] at q4
      have hp := pOk_at h_rpaper h v5
      refine j_iload 5 dX9_bornOf_10 rfl ?_
      refine j_aload_n 0 dX9_bornOf_12 rfl rfl ?_
      refine j_getr f_X9_32 r_74_11 dX9_bornOf_13 ?_
      refine j_iload_n 1 dX9_bornOf_16 rfl rfl ?_
      refine j_iald a_82 dX9_bornOf_17 (by omega) (by omega) ?_
      have g_2 := h_rpapers h
      refine j_icmp_ge (tgt := 185) dX9_bornOf_18 (by decide) (fun c18_3 => ?_) (fun c18_3 => ?_)
      · skip
        refine j_iload_n 3 dX9_bornOf_185 rfl rfl ?_
        refine j_iload 4 dX9_bornOf_186 rfl ?_
        have hJ_4 : ∀ zz : Int, (v3 ≤ v4 ∧ zz = 0) ∨ (¬ (v3 ≤ v4) ∧ zz = 1) → jG D_X9_bornOf X FJ shJ 0 0 (jqI (q_X9_bornOf M h w)) 196 [(0, jR 74), (1, jI h), (2, jI w), (3, jI v3), (4, jI v4), (5, jI v5)] (jI zz :: []) M := by
          intro t_5 et_5
          refine j_istore (ls' := [(0, jR 74), (1, jI h), (2, jI w), (3, jI v3), (4, jI v4), (5, jI t_5)]) dX9_bornOf_196 (by decide) rfl ?_
          refine j_iload_n 2 dX9_bornOf_198 rfl rfl ?_
          refine j_iconst dX9_bornOf_199 (by decide) ?_
          have hJ_6 : ∀ zz : Int, (¬ w = 2 ∧ ¬ w = 0 ∧ t_5 = 0 ∧ zz = v4) ∨ (¬ w = 2 ∧ ¬ w = 0 ∧ ¬ t_5 = 0 ∧ zz = 10799) ∨ (¬ w = 2 ∧ w = 0 ∧ t_5 = 0 ∧ zz = v3) ∨ (¬ w = 2 ∧ w = 0 ∧ ¬ t_5 = 0 ∧ zz = 0) ∨ (w = 2 ∧ t_5 = 0 ∧ zz = 0) ∨ (w = 2 ∧ ¬ t_5 = 0 ∧ zz = 1) → jG D_X9_bornOf X FJ shJ 0 0 (jqI (q_X9_bornOf M h w)) 246 [(0, jR 74), (1, jI h), (2, jI w), (3, jI v3), (4, jI v4), (5, jI t_5)] (jI zz :: []) M := by
            intro t_7 et_7
            refine j_iret rfl rfl rfl rfl dX9_bornOf_246 ?_
            have e6 : v5 = M 82 h := by omega
            rw [e6] at h3 h4
            exact ⟨by unfold fBorn; rw [← h3, ← h4]; (repeat' split) <;> first | omega | grind, rfl⟩
          refine j_icmp_ne (tgt := 216) dX9_bornOf_200 (by decide) (fun c200_8 => ?_) (fun c200_8 => ?_)
          · skip
            refine j_iload_n 2 dX9_bornOf_216 rfl rfl ?_
            refine j_if_ne (tgt := 233) dX9_bornOf_217 (by decide) (fun c217_9 => ?_) (fun c217_9 => ?_)
            · skip
              refine j_iload 5 dX9_bornOf_233 rfl ?_
              refine j_if_eq (tgt := 244) dX9_bornOf_235 (by decide) (fun c235_10 => ?_) (fun c235_10 => ?_)
              · skip
                refine j_iload 4 dX9_bornOf_244 rfl ?_
                exact hJ_6 _ (Or.inl ⟨c200_8, c217_9, c235_10, rfl⟩)
              · skip
                refine j_sipush dX9_bornOf_238 (by decide) ?_
                refine j_goto (tgt := 246) dX9_bornOf_241 (by decide) ?_
                exact hJ_6 _ (Or.inr (Or.inl ⟨c200_8, c217_9, c235_10, rfl⟩))
            · skip
              refine j_iload 5 dX9_bornOf_220 rfl ?_
              refine j_if_eq (tgt := 229) dX9_bornOf_222 (by decide) (fun c222_11 => ?_) (fun c222_11 => ?_)
              · skip
                refine j_iload_n 3 dX9_bornOf_229 rfl rfl ?_
                refine j_goto (tgt := 246) dX9_bornOf_230 (by decide) ?_
                exact hJ_6 _ (Or.inr (Or.inr (Or.inl ⟨c200_8, c217_9, c222_11, rfl⟩)))
              · skip
                refine j_iconst dX9_bornOf_225 (by decide) ?_
                refine j_goto (tgt := 246) dX9_bornOf_226 (by decide) ?_
                exact hJ_6 _ (Or.inr (Or.inr (Or.inr (Or.inl ⟨c200_8, c217_9, c222_11, rfl⟩))))
          · skip
            refine j_iload 5 dX9_bornOf_203 rfl ?_
            refine j_if_eq (tgt := 212) dX9_bornOf_205 (by decide) (fun c205_12 => ?_) (fun c205_12 => ?_)
            · skip
              refine j_iconst dX9_bornOf_212 (by decide) ?_
              refine j_goto (tgt := 246) dX9_bornOf_213 (by decide) ?_
              exact hJ_6 _ (Or.inr (Or.inr (Or.inr (Or.inr (Or.inl ⟨c200_8, c205_12, rfl⟩)))))
            · skip
              refine j_iconst dX9_bornOf_208 (by decide) ?_
              refine j_goto (tgt := 246) dX9_bornOf_209 (by decide) ?_
              exact hJ_6 _ (Or.inr (Or.inr (Or.inr (Or.inr (Or.inr (⟨c200_8, c205_12, rfl⟩))))))
        refine j_icmp_le (tgt := 195) dX9_bornOf_188 (by decide) (fun c188_13 => ?_) (fun c188_13 => ?_)
        · skip
          refine j_iconst dX9_bornOf_195 (by decide) ?_
          exact hJ_4 _ (Or.inl ⟨c188_13, rfl⟩)
        · skip
          refine j_iconst dX9_bornOf_191 (by decide) ?_
          refine j_goto (tgt := 196) dX9_bornOf_192 (by decide) ?_
          exact hJ_4 _ (Or.inr (⟨c188_13, rfl⟩))
      · skip
        refine j_bipush dX9_bornOf_21 (by decide) ?_
        refine j_iload_n 1 dX9_bornOf_23 rfl rfl ?_
        refine j_imul dX9_bornOf_24 (by omega) ?_
        refine j_iconst dX9_bornOf_25 (by decide) ?_
        refine j_iload 5 dX9_bornOf_26 rfl ?_
        refine j_imul dX9_bornOf_28 (by omega) ?_
        refine j_iadd dX9_bornOf_29 (by omega) ?_
        refine j_nm (fun v6_14 ev6_14 => ?_)
        refine j_istore (ls' := [(0, jR 74), (1, jI h), (2, jI w), (3, jI v3), (4, jI v4), (5, jI v5), (6, jI v6_14)]) dX9_bornOf_30 (by decide) rfl ?_
        rw [← ev6_14] at hp
        refine j_aload_n 0 dX9_bornOf_32 rfl rfl ?_
        refine j_getr f_X9_35 r_74_12 dX9_bornOf_33 ?_
        refine j_iload 6 dX9_bornOf_36 rfl ?_
        refine j_iconst dX9_bornOf_38 (by decide) ?_
        refine j_iadd dX9_bornOf_39 (by omega) ?_
        refine j_iald a_83 dX9_bornOf_40 (by omega) (by omega) ?_
        refine j_nm (fun v7_15 ev7_15 => ?_)
        refine j_istore (ls' := [(0, jR 74), (1, jI h), (2, jI w), (3, jI v3), (4, jI v4), (5, jI v5), (6, jI v6_14), (7, jI v7_15)]) dX9_bornOf_41 (by decide) rfl ?_
        rw [← ev7_15] at hp
        refine j_aload_n 0 dX9_bornOf_43 rfl rfl ?_
        refine j_getr f_X9_35 r_74_12 dX9_bornOf_44 ?_
        refine j_iload 6 dX9_bornOf_47 rfl ?_
        refine j_iald a_83 dX9_bornOf_49 (by omega) (by omega) ?_
        have hJ_16 : ∀ zz : Int, (¬ (M 83 v6_14) = 0 ∧ ¬ (M 83 v6_14) = 1 ∧ zz = ((360 * v7_15) - (M 83 (v6_14 + 2)))) ∨ (¬ (M 83 v6_14) = 0 ∧ (M 83 v6_14) = 1 ∧ zz = ((360 * (v7_15 / 3)) - (M 83 (v6_14 + 2)))) ∨ ((M 83 v6_14) = 0 ∧ zz = v7_15) → jG D_X9_bornOf X FJ shJ 0 0 (jqI (q_X9_bornOf M h w)) 92 [(0, jR 74), (1, jI h), (2, jI w), (3, jI v3), (4, jI v4), (5, jI v5), (6, jI v6_14), (7, jI v7_15)] (jI zz :: []) M := by
          intro t_17 et_17
          refine j_istore (ls' := [(0, jR 74), (1, jI h), (2, jI w), (3, jI v3), (4, jI v4), (5, jI v5), (6, jI v6_14), (7, jI v7_15), (8, jI t_17)]) dX9_bornOf_92 (by decide) rfl ?_
          refine j_aload_n 0 dX9_bornOf_94 rfl rfl ?_
          refine j_getr f_X9_35 r_74_12 dX9_bornOf_95 ?_
          refine j_iload 6 dX9_bornOf_98 rfl ?_
          refine j_iald a_83 dX9_bornOf_100 (by omega) (by omega) ?_
          have hJ_18 : ∀ zz : Int, (¬ (M 83 v6_14) = 0 ∧ ¬ (M 83 v6_14) = 1 ∧ zz = 10799) ∨ (¬ (M 83 v6_14) = 0 ∧ (M 83 v6_14) = 1 ∧ zz = (((360 * ((v7_15 / 2) + 5)) - (M 83 (v6_14 + 2))) - 1)) ∨ ((M 83 v6_14) = 0 ∧ zz = v7_15) → jG D_X9_bornOf X FJ shJ 0 0 (jqI (q_X9_bornOf M h w)) 148 [(0, jR 74), (1, jI h), (2, jI w), (3, jI v3), (4, jI v4), (5, jI v5), (6, jI v6_14), (7, jI v7_15), (8, jI t_17)] (jI zz :: []) M := by
            intro t_19 et_19
            refine j_istore (ls' := [(0, jR 74), (1, jI h), (2, jI w), (3, jI v3), (4, jI v4), (5, jI v5), (6, jI v6_14), (7, jI v7_15), (8, jI t_17), (9, jI t_19)]) dX9_bornOf_148 (by decide) rfl ?_
            refine j_iload 8 dX9_bornOf_150 rfl ?_
            refine j_iload_n 3 dX9_bornOf_152 rfl rfl ?_
            have hJ_20 : ∀ zz : Int, (t_17 ≤ v3 ∧ zz = v3) ∨ (¬ (t_17 ≤ v3) ∧ zz = t_17) → jG D_X9_bornOf X FJ shJ 0 0 (jqI (q_X9_bornOf M h w)) 162 [(0, jR 74), (1, jI h), (2, jI w), (3, jI v3), (4, jI v4), (5, jI v5), (6, jI v6_14), (7, jI v7_15), (8, jI t_17), (9, jI t_19)] (jI zz :: []) M := by
              intro t_21 et_21
              refine j_istore_n (ls' := [(0, jR 74), (1, jI h), (2, jI w), (3, jI t_21), (4, jI v4), (5, jI v5), (6, jI v6_14), (7, jI v7_15), (8, jI t_17), (9, jI t_19)]) dX9_bornOf_162 rfl (by decide) rfl ?_
              refine j_iload 9 dX9_bornOf_163 rfl ?_
              refine j_iload 4 dX9_bornOf_165 rfl ?_
              have hJ_22 : ∀ zz : Int, (v4 ≤ t_19 ∧ zz = v4) ∨ (¬ (v4 ≤ t_19) ∧ zz = t_19) → jG D_X9_bornOf X FJ shJ 0 0 (jqI (q_X9_bornOf M h w)) 177 [(0, jR 74), (1, jI h), (2, jI w), (3, jI t_21), (4, jI v4), (5, jI v5), (6, jI v6_14), (7, jI v7_15), (8, jI t_17), (9, jI t_19)] (jI zz :: []) M := by
                intro t_23 et_23
                refine j_istore (ls' := [(0, jR 74), (1, jI h), (2, jI w), (3, jI t_21), (4, jI t_23), (5, jI v5), (6, jI v6_14), (7, jI v7_15), (8, jI t_17), (9, jI t_19)]) dX9_bornOf_177 (by decide) rfl ?_
                obtain ⟨v5_24, ev5_24⟩ : ∃ y : Int, y = v5 + 1 := ⟨_, rfl⟩
                refine j_iinc (y := v5_24) (ls' := [(0, jR 74), (1, jI h), (2, jI w), (3, jI t_21), (4, jI t_23), (5, jI v5_24), (6, jI v6_14), (7, jI v7_15), (8, jI t_17), (9, jI t_19)]) 5 dX9_bornOf_179 rfl ev5_24 (by omega) (by decide) rfl ?_
                refine j_goto (tgt := 10) dX9_bornOf_182 (by decide) ?_
                refine j_sub (ls' := [(0, jR 74), (1, jI h), (2, jI w), (3, jI t_21), (4, jI t_23), (5, jI v5_24)]) [0, 1, 2, 3, 4, 5] rfl ?_
                exact ih10 t_21 t_23 v5_24 ⟨by first | omega | grind, by rw [ev5_24, toNat_s h1.1]; unfold bFrom pLeast; rw [← h3, toNat_c h1.1]; grind, by rw [ev5_24, toNat_s h1.1]; unfold bTo pMost; rw [← h4, toNat_c h1.1]; grind⟩ (by omega)
              refine j_icmp_ge (tgt := 175) dX9_bornOf_167 (by decide) (fun c167_25 => ?_) (fun c167_25 => ?_)
              · skip
                refine j_iload 4 dX9_bornOf_175 rfl ?_
                exact hJ_22 _ (Or.inl ⟨c167_25, rfl⟩)
              · skip
                refine j_iload 9 dX9_bornOf_170 rfl ?_
                refine j_goto (tgt := 177) dX9_bornOf_172 (by decide) ?_
                exact hJ_22 _ (Or.inr (⟨c167_25, rfl⟩))
            refine j_icmp_le (tgt := 161) dX9_bornOf_153 (by decide) (fun c153_26 => ?_) (fun c153_26 => ?_)
            · skip
              refine j_iload_n 3 dX9_bornOf_161 rfl rfl ?_
              exact hJ_20 _ (Or.inl ⟨c153_26, rfl⟩)
            · skip
              refine j_iload 8 dX9_bornOf_156 rfl ?_
              refine j_goto (tgt := 162) dX9_bornOf_158 (by decide) ?_
              exact hJ_20 _ (Or.inr (⟨c153_26, rfl⟩))
          refine j_if_ne (tgt := 109) dX9_bornOf_101 (by decide) (fun c101_27 => ?_) (fun c101_27 => ?_)
          · skip
            refine j_aload_n 0 dX9_bornOf_109 rfl rfl ?_
            refine j_getr f_X9_35 r_74_12 dX9_bornOf_110 ?_
            refine j_iload 6 dX9_bornOf_113 rfl ?_
            refine j_iald a_83 dX9_bornOf_115 (by omega) (by omega) ?_
            refine j_iconst dX9_bornOf_116 (by decide) ?_
            refine j_icmp_ne (tgt := 145) dX9_bornOf_117 (by decide) (fun c117_28 => ?_) (fun c117_28 => ?_)
            · skip
              refine j_sipush dX9_bornOf_145 (by decide) ?_
              exact hJ_18 _ (Or.inl ⟨c101_27, c117_28, rfl⟩)
            · skip
              refine j_sipush dX9_bornOf_120 (by decide) ?_
              refine j_iload 7 dX9_bornOf_123 rfl ?_
              refine j_iconst dX9_bornOf_125 (by decide) ?_
              refine j_idiv dX9_bornOf_126 (by omega) (by omega) ?_
              refine j_iconst dX9_bornOf_127 (by decide) ?_
              refine j_iadd dX9_bornOf_128 (by omega) ?_
              refine j_imul dX9_bornOf_129 (by omega) ?_
              refine j_aload_n 0 dX9_bornOf_130 rfl rfl ?_
              refine j_getr f_X9_35 r_74_12 dX9_bornOf_131 ?_
              refine j_iload 6 dX9_bornOf_134 rfl ?_
              refine j_iconst dX9_bornOf_136 (by decide) ?_
              refine j_iadd dX9_bornOf_137 (by omega) ?_
              refine j_iald a_83 dX9_bornOf_138 (by omega) (by omega) ?_
              refine j_isub dX9_bornOf_139 (by omega) ?_
              refine j_iconst dX9_bornOf_140 (by decide) ?_
              refine j_isub dX9_bornOf_141 (by omega) ?_
              refine j_goto (tgt := 148) dX9_bornOf_142 (by decide) ?_
              exact hJ_18 _ (Or.inr (Or.inl ⟨c101_27, c117_28, rfl⟩))
          · skip
            refine j_iload 7 dX9_bornOf_104 rfl ?_
            refine j_goto (tgt := 148) dX9_bornOf_106 (by decide) ?_
            exact hJ_18 _ (Or.inr (Or.inr (⟨c101_27, rfl⟩)))
        refine j_if_ne (tgt := 58) dX9_bornOf_50 (by decide) (fun c50_29 => ?_) (fun c50_29 => ?_)
        · skip
          refine j_sipush dX9_bornOf_58 (by decide) ?_
          refine j_aload_n 0 dX9_bornOf_61 rfl rfl ?_
          refine j_getr f_X9_35 r_74_12 dX9_bornOf_62 ?_
          refine j_iload 6 dX9_bornOf_65 rfl ?_
          refine j_iald a_83 dX9_bornOf_67 (by omega) (by omega) ?_
          refine j_iconst dX9_bornOf_68 (by decide) ?_
          refine j_icmp_ne (tgt := 79) dX9_bornOf_69 (by decide) (fun c69_30 => ?_) (fun c69_30 => ?_)
          · skip
            refine j_iload 7 dX9_bornOf_79 rfl ?_
            refine j_imul dX9_bornOf_81 (by omega) ?_
            refine j_aload_n 0 dX9_bornOf_82 rfl rfl ?_
            refine j_getr f_X9_35 r_74_12 dX9_bornOf_83 ?_
            refine j_iload 6 dX9_bornOf_86 rfl ?_
            refine j_iconst dX9_bornOf_88 (by decide) ?_
            refine j_iadd dX9_bornOf_89 (by omega) ?_
            refine j_iald a_83 dX9_bornOf_90 (by omega) (by omega) ?_
            refine j_isub dX9_bornOf_91 (by omega) ?_
            exact hJ_16 _ (Or.inl ⟨c50_29, c69_30, rfl⟩)
          · skip
            refine j_iload 7 dX9_bornOf_72 rfl ?_
            refine j_iconst dX9_bornOf_74 (by decide) ?_
            refine j_idiv dX9_bornOf_75 (by omega) (by omega) ?_
            refine j_goto (tgt := 81) dX9_bornOf_76 (by decide) ?_
            refine j_imul dX9_bornOf_81 (by omega) ?_
            refine j_aload_n 0 dX9_bornOf_82 rfl rfl ?_
            refine j_getr f_X9_35 r_74_12 dX9_bornOf_83 ?_
            refine j_iload 6 dX9_bornOf_86 rfl ?_
            refine j_iconst dX9_bornOf_88 (by decide) ?_
            refine j_iadd dX9_bornOf_89 (by omega) ?_
            refine j_iald a_83 dX9_bornOf_90 (by omega) (by omega) ?_
            refine j_isub dX9_bornOf_91 (by omega) ?_
            exact hJ_16 _ (Or.inr (Or.inl ⟨c50_29, c69_30, rfl⟩))
        · skip
          refine j_iload 7 dX9_bornOf_53 rfl ?_
          refine j_goto (tgt := 92) dX9_bornOf_55 (by decide) ?_
          exact hJ_16 _ (Or.inr (Or.inr (⟨c50_29, rfl⟩)))
  exact lp10_1 _ 0 10799 0 ⟨by have := h_rpapers h; omega, by first | omega | rfl, by first | omega | rfl⟩ (Nat.lt_succ_self _)
abbrev q_X9_born (M : jM)  (h w : Int) : Int → jM → Prop := fun r N => r = fBornQ (M 74 8) (M 83) (M 82) h w ∧ N = jup M 74 0 0
set_option maxHeartbeats 4000000 in
set_option maxRecDepth 20000 in
theorem c_X9_born {X : jX} (M : jM)  (h w : Int) (h_rhands : 0 ≤ M 74 8 ∧ M 74 8 ≤ 24) (h_rpapers : ∀ i, 0 ≤ M 82 i ∧ M 82 i ≤ 3) (h_rpaper : pOk (M 83)) : jC yX9_born D_X9_born X FJ shJ [jR 74, jI h, jI w] M (jqI (q_X9_born M h w)) := by
  refine jC_of (by decide) rfl (fun ad => Nat.le_of_ble_eq_true rfl) (by decide) ?_
  show jG D_X9_born X FJ shJ 0 0 (jqI (q_X9_born M h w)) 0 [(0, jR 74), (1, jI h), (2, jI w)] [] M
  refine j_aload_n 0 dX9_born_0 rfl rfl ?_
  refine j_iconst dX9_born_1 (by decide) ?_
  refine j_puti (k' := 0) f_X9_124 o_74_0 dX9_born_2 rfl ?_
  refine j_nmM (fun M_1 eM_1 => ?_)
  refine j_aload_n 0 dX9_born_5 rfl rfl ?_
  refine j_iload_n 1 dX9_born_6 rfl rfl ?_
  refine j_callVi l_X9_144 ⟨Nat.le_of_ble_eq_true rfl, Nat.le_of_ble_eq_true rfl⟩ ⟨rfl, rfl⟩ dX9_born_7 ob_74 (c_X9_isHand M_1 h (by rw [((congrFun (congrFun eM_1 74) 8).trans (jup_ne (by decide)))]; exact h_rhands)) rfl rfl (Nat.le_of_ble_eq_true rfl) (fun r_2 M_3 h_4 => ?_)
  obtain ⟨er_2, nh_4⟩ := h_4
  refine j_eqM nh_4 ?_
  clear nh_4
  simp only [((congrFun (congrFun eM_1 74) 8).trans (jup_ne (by decide)))] at er_2
  refine j_if_eq (tgt := 31) dX9_born_10 (by decide) (fun c10_5 => ?_) (fun c10_5 => ?_)
  · skip
    refine j_iconst dX9_born_31 (by decide) ?_
    refine j_iret rfl rfl rfl rfl dX9_born_32 ?_
    exact ⟨by unfold fBornQ; (repeat' split) <;> first | omega | grind, by rw [eM_1]⟩
  · skip
    refine j_iload_n 2 dX9_born_13 rfl rfl ?_
    refine j_iconst dX9_born_14 (by decide) ?_
    refine j_iconst dX9_born_15 (by decide) ?_
    refine j_callSi l_X9_137 ⟨Nat.le_of_ble_eq_true rfl, Nat.le_of_ble_eq_true rfl⟩ ⟨rfl, rfl⟩ dX9_born_16 (c_X9_in M_1 w 0 2) rfl rfl (Nat.le_of_ble_eq_true rfl) (fun r_6 M_7 h_8 => ?_)
    obtain ⟨er_6, nh_8⟩ := h_8
    refine j_eqM nh_8 ?_
    clear nh_8
    refine j_if_eq (tgt := 31) dX9_born_19 (by decide) (fun c19_9 => ?_) (fun c19_9 => ?_)
    · skip
      refine j_iconst dX9_born_31 (by decide) ?_
      refine j_iret rfl rfl rfl rfl dX9_born_32 ?_
      exact ⟨by unfold fBornQ; (repeat' split) <;> first | omega | grind, by rw [eM_1]⟩
    · skip
      refine j_aload_n 0 dX9_born_22 rfl rfl ?_
      refine j_iload_n 1 dX9_born_23 rfl rfl ?_
      refine j_iload_n 2 dX9_born_24 rfl rfl ?_
      refine j_callVi l_X9_169 ⟨Nat.le_of_ble_eq_true rfl, Nat.le_of_ble_eq_true rfl⟩ ⟨rfl, rfl⟩ dX9_born_25 ob_74 (c_X9_bornOf M_1 h w (by rw [((congrFun eM_1 82).trans (jup_cell (by decide)))]; exact h_rpapers) (by rw [((congrFun eM_1 83).trans (jup_cell (by decide)))]; exact h_rpaper) (by first | assumption | omega)) rfl rfl (Nat.le_of_ble_eq_true rfl) (fun r_10 M_11 h_12 => ?_)
      obtain ⟨er_10, nh_12⟩ := h_12
      refine j_eqM nh_12 ?_
      clear nh_12
      simp only [((congrFun eM_1 83).trans (jup_cell (by decide))), ((congrFun eM_1 82).trans (jup_cell (by decide)))] at er_10
      refine j_goto (tgt := 32) dX9_born_28 (by decide) ?_
      refine j_iret rfl rfl rfl rfl dX9_born_32 ?_
      exact ⟨by unfold fBornQ; (repeat' split) <;> first | omega | grind, by rw [eM_1]⟩
abbrev q_X9_ageOf (M : jM)  (h d w : Int) : Int → jM → Prop := fun r N => r = fAge (M 83) (M 82) h d w ∧ N = M
set_option maxHeartbeats 4000000 in
set_option maxRecDepth 20000 in
theorem c_X9_ageOf {X : jX} (M : jM)  (h d w : Int) (h_rpapers : ∀ i, 0 ≤ M 82 i ∧ M 82 i ≤ 3) (h_rpaper : pOk (M 83)) (h0 : 0 ≤ h ∧ h < 24) (hd : 0 ≤ d ∧ d ≤ 359) : jC yX9_ageOf D_X9_ageOf X FJ shJ [jR 74, jI h, jI d, jI w] M (jqI (q_X9_ageOf M h d w)) := by
  refine jC_of (by decide) rfl (fun ad => Nat.le_of_ble_eq_true rfl) (by decide) ?_
  show jG D_X9_ageOf X FJ shJ 0 0 (jqI (q_X9_ageOf M h d w)) 0 [(0, jR 74), (1, jI h), (2, jI d), (3, jI w)] [] M
  have hb := fBorn_in (np := M 82) h_rpaper h w
  refine j_aload_n 0 dX9_ageOf_0 rfl rfl ?_
  refine j_iload_n 1 dX9_ageOf_1 rfl rfl ?_
  refine j_iload_n 3 dX9_ageOf_2 rfl rfl ?_
  refine j_callVi l_X9_169 ⟨Nat.le_of_ble_eq_true rfl, Nat.le_of_ble_eq_true rfl⟩ ⟨rfl, rfl⟩ dX9_ageOf_3 ob_74 (c_X9_bornOf M h w h_rpapers h_rpaper (by first | assumption | omega)) rfl rfl (Nat.le_of_ble_eq_true rfl) (fun r_1 M_2 h_3 => ?_)
  obtain ⟨er_1, nh_3⟩ := h_3
  refine j_eqM nh_3 ?_
  clear nh_3
  refine j_iload_n 2 dX9_ageOf_6 rfl rfl ?_
  refine j_iadd dX9_ageOf_7 (by omega) ?_
  refine j_sipush dX9_ageOf_8 (by decide) ?_
  refine j_idiv dX9_ageOf_11 (by omega) (by omega) ?_
  refine j_iret rfl rfl rfl rfl dX9_ageOf_12 ?_
  exact ⟨by unfold fAge; omega, rfl⟩
abbrev q_X9_age (M : jM)  (h d w : Int) : Int → jM → Prop := fun r N => r = fAgeQ (M 74 8) (M 83) (M 82) h d w ∧ N = jup M 74 0 0
set_option maxHeartbeats 4000000 in
set_option maxRecDepth 20000 in
theorem c_X9_age {X : jX} (M : jM)  (h d w : Int) (h_rhands : 0 ≤ M 74 8 ∧ M 74 8 ≤ 24) (h_rpapers : ∀ i, 0 ≤ M 82 i ∧ M 82 i ≤ 3) (h_rpaper : pOk (M 83)) : jC yX9_age D_X9_age X FJ shJ [jR 74, jI h, jI d, jI w] M (jqI (q_X9_age M h d w)) := by
  refine jC_of (by decide) rfl (fun ad => Nat.le_of_ble_eq_true rfl) (by decide) ?_
  show jG D_X9_age X FJ shJ 0 0 (jqI (q_X9_age M h d w)) 0 [(0, jR 74), (1, jI h), (2, jI d), (3, jI w)] [] M
  refine j_aload_n 0 dX9_age_0 rfl rfl ?_
  refine j_iconst dX9_age_1 (by decide) ?_
  refine j_puti (k' := 0) f_X9_124 o_74_0 dX9_age_2 rfl ?_
  refine j_nmM (fun M_1 eM_1 => ?_)
  refine j_aload_n 0 dX9_age_5 rfl rfl ?_
  refine j_iload_n 1 dX9_age_6 rfl rfl ?_
  refine j_callVi l_X9_144 ⟨Nat.le_of_ble_eq_true rfl, Nat.le_of_ble_eq_true rfl⟩ ⟨rfl, rfl⟩ dX9_age_7 ob_74 (c_X9_isHand M_1 h (by rw [((congrFun (congrFun eM_1 74) 8).trans (jup_ne (by decide)))]; exact h_rhands)) rfl rfl (Nat.le_of_ble_eq_true rfl) (fun r_2 M_3 h_4 => ?_)
  obtain ⟨er_2, nh_4⟩ := h_4
  refine j_eqM nh_4 ?_
  clear nh_4
  simp only [((congrFun (congrFun eM_1 74) 8).trans (jup_ne (by decide)))] at er_2
  refine j_if_eq (tgt := 39) dX9_age_10 (by decide) (fun c10_5 => ?_) (fun c10_5 => ?_)
  · skip
    refine j_iconst dX9_age_39 (by decide) ?_
    refine j_iret rfl rfl rfl rfl dX9_age_40 ?_
    exact ⟨by unfold fAgeQ; (repeat' split) <;> first | omega | grind, by rw [eM_1]⟩
  · skip
    refine j_iload_n 2 dX9_age_13 rfl rfl ?_
    refine j_callSi l_X9_166 ⟨Nat.le_of_ble_eq_true rfl, Nat.le_of_ble_eq_true rfl⟩ ⟨rfl, rfl⟩ dX9_age_14 (c_X9_isDay M_1 d) rfl rfl (Nat.le_of_ble_eq_true rfl) (fun r_6 M_7 h_8 => ?_)
    obtain ⟨er_6, nh_8⟩ := h_8
    refine j_eqM nh_8 ?_
    clear nh_8
    refine j_if_eq (tgt := 39) dX9_age_17 (by decide) (fun c17_9 => ?_) (fun c17_9 => ?_)
    · skip
      refine j_iconst dX9_age_39 (by decide) ?_
      refine j_iret rfl rfl rfl rfl dX9_age_40 ?_
      exact ⟨by unfold fAgeQ; (repeat' split) <;> first | omega | grind, by rw [eM_1]⟩
    · skip
      refine j_iload_n 3 dX9_age_20 rfl rfl ?_
      refine j_iconst dX9_age_21 (by decide) ?_
      refine j_iconst dX9_age_22 (by decide) ?_
      refine j_callSi l_X9_137 ⟨Nat.le_of_ble_eq_true rfl, Nat.le_of_ble_eq_true rfl⟩ ⟨rfl, rfl⟩ dX9_age_23 (c_X9_in M_1 w 0 1) rfl rfl (Nat.le_of_ble_eq_true rfl) (fun r_10 M_11 h_12 => ?_)
      obtain ⟨er_10, nh_12⟩ := h_12
      refine j_eqM nh_12 ?_
      clear nh_12
      refine j_if_eq (tgt := 39) dX9_age_26 (by decide) (fun c26_13 => ?_) (fun c26_13 => ?_)
      · skip
        refine j_iconst dX9_age_39 (by decide) ?_
        refine j_iret rfl rfl rfl rfl dX9_age_40 ?_
        exact ⟨by unfold fAgeQ; (repeat' split) <;> first | omega | grind, by rw [eM_1]⟩
      · skip
        refine j_aload_n 0 dX9_age_29 rfl rfl ?_
        refine j_iload_n 1 dX9_age_30 rfl rfl ?_
        refine j_iload_n 2 dX9_age_31 rfl rfl ?_
        refine j_iload_n 3 dX9_age_32 rfl rfl ?_
        refine j_callVi l_X9_172 ⟨Nat.le_of_ble_eq_true rfl, Nat.le_of_ble_eq_true rfl⟩ ⟨rfl, rfl⟩ dX9_age_33 ob_74 (c_X9_ageOf M_1 h d w (by rw [((congrFun eM_1 82).trans (jup_cell (by decide)))]; exact h_rpapers) (by rw [((congrFun eM_1 83).trans (jup_cell (by decide)))]; exact h_rpaper) (by first | assumption | omega) (by first | assumption | omega)) rfl rfl (Nat.le_of_ble_eq_true rfl) (fun r_14 M_15 h_16 => ?_)
        obtain ⟨er_14, nh_16⟩ := h_16
        refine j_eqM nh_16 ?_
        clear nh_16
        simp only [((congrFun eM_1 83).trans (jup_cell (by decide))), ((congrFun eM_1 82).trans (jup_cell (by decide)))] at er_14
        refine j_goto (tgt := 40) dX9_age_36 (by decide) ?_
        refine j_iret rfl rfl rfl rfl dX9_age_40 ?_
        exact ⟨by unfold fAgeQ; (repeat' split) <;> first | omega | grind, by rw [eM_1]⟩
abbrev q_X9_clear (M : jM)   : Int → jM → Prop := fun r N => r = M 74 14 ∧ N = jup (jup M 74 0 0) 74 14 0
set_option maxHeartbeats 4000000 in
set_option maxRecDepth 20000 in
theorem c_X9_clear {X : jX} (M : jM)    : jC yX9_clear D_X9_clear X FJ shJ [jR 74] M (jqI (q_X9_clear M)) := by
  refine jC_of (by decide) rfl (fun ad => Nat.le_of_ble_eq_true rfl) (by decide) ?_
  show jG D_X9_clear X FJ shJ 0 0 (jqI (q_X9_clear M)) 0 [(0, jR 74)] [] M
  refine j_aload_n 0 dX9_clear_0 rfl rfl ?_
  refine j_iconst dX9_clear_1 (by decide) ?_
  refine j_puti (k' := 0) f_X9_124 o_74_0 dX9_clear_2 rfl ?_
  refine j_nmM (fun M_1 eM_1 => ?_)
  refine j_aload_n 0 dX9_clear_5 rfl rfl ?_
  refine j_geti (k' := 14) f_X9_176 o_74_14 dX9_clear_6 rfl ?_
  refine j_eq ((congrFun (congrFun eM_1 74) 14).trans (jup_ne (by decide))) ?_
  refine j_nm (fun v1_2 ev1_2 => ?_)
  refine j_istore_n (ls' := [(0, jR 74), (1, jI v1_2)]) dX9_clear_9 rfl (by decide) rfl ?_
  refine j_aload_n 0 dX9_clear_10 rfl rfl ?_
  refine j_iconst dX9_clear_11 (by decide) ?_
  refine j_puti (k' := 14) f_X9_176 o_74_14 dX9_clear_12 rfl ?_
  refine j_nmM (fun M_3 eM_3 => ?_)
  refine j_iload_n 1 dX9_clear_15 rfl rfl ?_
  refine j_iret rfl rfl rfl rfl dX9_clear_16 ?_
  exact ⟨by omega, by rw [eM_3, eM_1]⟩
abbrev q_X9_check (M : jM)  (m t e : Int) : Int → jM → Prop := fun r N => r = fCheck (M 74 3) (M 94) m t e ∧ N = (if 0 ≤ fCheck (M 74 3) (M 94) m t e then jup (jup (jup (jup M 74 0 0) 95 (4 * m + M 94 m) t) 96 (4 * m + M 94 m) e) 94 m (M 94 m + 1) else jup M 74 0 0)
set_option maxHeartbeats 4000000 in
set_option maxRecDepth 20000 in
theorem c_X9_check {X : jX} (M : jM)  (m t e : Int) (h_rmills : 0 ≤ M 74 3 ∧ M 74 3 ≤ 6) (h_rchecks : ∀ i, 0 ≤ M 94 i ∧ M 94 i ≤ 4) : jC yX9_check D_X9_check X FJ shJ [jR 74, jI m, jI t, jI e] M (jqI (q_X9_check M m t e)) := by
  refine jC_of (by decide) rfl (fun ad => Nat.le_of_ble_eq_true rfl) (by decide) ?_
  show jG D_X9_check X FJ shJ 0 0 (jqI (q_X9_check M m t e)) 0 [(0, jR 74), (1, jI m), (2, jI t), (3, jI e)] [] M
  refine j_aload_n 0 dX9_check_0 rfl rfl ?_
  refine j_iconst dX9_check_1 (by decide) ?_
  refine j_puti (k' := 0) f_X9_124 o_74_0 dX9_check_2 rfl ?_
  refine j_nmM (fun M_1 eM_1 => ?_)
  refine j_aload_n 0 dX9_check_5 rfl rfl ?_
  refine j_iload_n 1 dX9_check_6 rfl rfl ?_
  refine j_callVi l_X9_262 ⟨Nat.le_of_ble_eq_true rfl, Nat.le_of_ble_eq_true rfl⟩ ⟨rfl, rfl⟩ dX9_check_7 ob_74 (c_X9_isMill M_1 m (by rw [((congrFun (congrFun eM_1 74) 3).trans (jup_ne (by decide)))]; exact h_rmills)) rfl rfl (Nat.le_of_ble_eq_true rfl) (fun r_2 M_3 h_4 => ?_)
  obtain ⟨er_2, nh_4⟩ := h_4
  refine j_eqM nh_4 ?_
  clear nh_4
  simp only [((congrFun (congrFun eM_1 74) 3).trans (jup_ne (by decide)))] at er_2
  refine j_if_eq (tgt := 35) dX9_check_10 (by decide) (fun c10_5 => ?_) (fun c10_5 => ?_)
  · skip
    refine j_iconst dX9_check_35 (by decide) ?_
    refine j_iret rfl rfl rfl rfl dX9_check_36 ?_
    have hr : (-1) = fCheck (M 74 3) (M 94) m t e := by (unfold fCheck; (repeat' split) <;> first | omega | grind)
    refine ⟨hr, ?_⟩
    rw [← hr]
    first | (rw [if_pos (by omega), eM_1]; done) | (rw [if_neg (by omega), eM_1]; done) | (rw [if_pos (by omega), eM_1, jup_zz])
  · skip
    refine j_iload_n 2 dX9_check_13 rfl rfl ?_
    refine j_iconst dX9_check_14 (by decide) ?_
    refine j_sipush dX9_check_15 (by decide) ?_
    refine j_callSi l_X9_137 ⟨Nat.le_of_ble_eq_true rfl, Nat.le_of_ble_eq_true rfl⟩ ⟨rfl, rfl⟩ dX9_check_18 (c_X9_in M_1 t 0 1439) rfl rfl (Nat.le_of_ble_eq_true rfl) (fun r_6 M_7 h_8 => ?_)
    obtain ⟨er_6, nh_8⟩ := h_8
    refine j_eqM nh_8 ?_
    clear nh_8
    refine j_if_eq (tgt := 35) dX9_check_21 (by decide) (fun c21_9 => ?_) (fun c21_9 => ?_)
    · skip
      refine j_iconst dX9_check_35 (by decide) ?_
      refine j_iret rfl rfl rfl rfl dX9_check_36 ?_
      have hr : (-1) = fCheck (M 74 3) (M 94) m t e := by (unfold fCheck; (repeat' split) <;> first | omega | grind)
      refine ⟨hr, ?_⟩
      rw [← hr]
      first | (rw [if_pos (by omega), eM_1]; done) | (rw [if_neg (by omega), eM_1]; done) | (rw [if_pos (by omega), eM_1, jup_zz])
    · skip
      refine j_iload_n 3 dX9_check_24 rfl rfl ?_
      refine j_bipush dX9_check_25 (by decide) ?_
      refine j_bipush dX9_check_27 (by decide) ?_
      refine j_callSi l_X9_137 ⟨Nat.le_of_ble_eq_true rfl, Nat.le_of_ble_eq_true rfl⟩ ⟨rfl, rfl⟩ dX9_check_29 (c_X9_in M_1 e (-90) 90) rfl rfl (Nat.le_of_ble_eq_true rfl) (fun r_10 M_11 h_12 => ?_)
      obtain ⟨er_10, nh_12⟩ := h_12
      refine j_eqM nh_12 ?_
      clear nh_12
      refine j_if_ne (tgt := 37) dX9_check_32 (by decide) (fun c32_13 => ?_) (fun c32_13 => ?_)
      · skip
        refine j_aload_n 0 dX9_check_37 rfl rfl ?_
        refine j_getr f_X9_68 r_74_33 dX9_check_38 ?_
        refine j_iload_n 1 dX9_check_41 rfl rfl ?_
        refine j_iald a_94 dX9_check_42 (by omega) (by omega) ?_
        refine j_eq (congrFun ((congrFun eM_1 94).trans (jup_cell (by decide))) m) ?_
        have g_14 := h_rchecks m
        refine j_iconst dX9_check_43 (by decide) ?_
        refine j_icmp_ne (tgt := 50) dX9_check_44 (by decide) (fun c44_15 => ?_) (fun c44_15 => ?_)
        · skip
          refine j_aload_n 0 dX9_check_50 rfl rfl ?_
          refine j_getr f_X9_71 r_74_34 dX9_check_51 ?_
          refine j_iconst dX9_check_54 (by decide) ?_
          refine j_iload_n 1 dX9_check_55 rfl rfl ?_
          refine j_imul dX9_check_56 (by omega) ?_
          refine j_aload_n 0 dX9_check_57 rfl rfl ?_
          refine j_getr f_X9_68 r_74_33 dX9_check_58 ?_
          refine j_iload_n 1 dX9_check_61 rfl rfl ?_
          refine j_iald a_94 dX9_check_62 (by omega) (by omega) ?_
          refine j_eq (congrFun ((congrFun eM_1 94).trans (jup_cell (by decide))) m) ?_
          have g_16 := h_rchecks m
          refine j_iadd dX9_check_63 (by omega) ?_
          refine j_iload_n 2 dX9_check_64 rfl rfl ?_
          refine j_iast a_95 dX9_check_65 (by omega) (by omega) ?_
          refine j_nmM (fun M_17 eM_17 => ?_)
          refine j_aload_n 0 dX9_check_66 rfl rfl ?_
          refine j_getr f_X9_74 r_74_35 dX9_check_67 ?_
          refine j_iconst dX9_check_70 (by decide) ?_
          refine j_iload_n 1 dX9_check_71 rfl rfl ?_
          refine j_imul dX9_check_72 (by omega) ?_
          refine j_aload_n 0 dX9_check_73 rfl rfl ?_
          refine j_getr f_X9_68 r_74_33 dX9_check_74 ?_
          refine j_iload_n 1 dX9_check_77 rfl rfl ?_
          refine j_iald a_94 dX9_check_78 (by omega) (by omega) ?_
          refine j_eq (Eq.trans (congrFun ((congrFun eM_17 94).trans (jup_cell (by decide))) m) (congrFun ((congrFun eM_1 94).trans (jup_cell (by decide))) m)) ?_
          have g_18 := h_rchecks m
          refine j_iadd dX9_check_79 (by omega) ?_
          refine j_iload_n 3 dX9_check_80 rfl rfl ?_
          refine j_iast a_96 dX9_check_81 (by omega) (by omega) ?_
          refine j_nmM (fun M_19 eM_19 => ?_)
          refine j_aload_n 0 dX9_check_82 rfl rfl ?_
          refine j_getr f_X9_68 r_74_33 dX9_check_83 ?_
          refine j_iload_n 1 dX9_check_86 rfl rfl ?_
          refine j_dup2 dX9_check_87 rfl rfl ?_
          refine j_iald a_94 dX9_check_88 (by omega) (by omega) ?_
          refine j_eq (Eq.trans (congrFun ((congrFun eM_19 94).trans (jup_cell (by decide))) m) (Eq.trans (congrFun ((congrFun eM_17 94).trans (jup_cell (by decide))) m) (congrFun ((congrFun eM_1 94).trans (jup_cell (by decide))) m))) ?_
          have g_20 := h_rchecks m
          refine j_iconst dX9_check_89 (by decide) ?_
          refine j_iadd dX9_check_90 (by omega) ?_
          refine j_iast a_94 dX9_check_91 (by omega) (by omega) ?_
          refine j_nmM (fun M_21 eM_21 => ?_)
          refine j_aload_n 0 dX9_check_92 rfl rfl ?_
          refine j_getr f_X9_68 r_74_33 dX9_check_93 ?_
          refine j_iload_n 1 dX9_check_96 rfl rfl ?_
          refine j_iald a_94 dX9_check_97 (by omega) (by omega) ?_
          refine j_eq ((congrFun (congrFun eM_21 94) m).trans (jup_self _ _ _ _)) ?_
          refine j_iret rfl rfl rfl rfl dX9_check_98 ?_
          have hr : ((M 94 m) + 1) = fCheck (M 74 3) (M 94) m t e := by (unfold fCheck; (repeat' split) <;> first | omega | grind)
          refine ⟨hr, ?_⟩
          rw [← hr]
          first | (rw [if_pos (by omega), eM_21, eM_19, eM_17, eM_1]; done) | (rw [if_neg (by omega), eM_21, eM_19, eM_17, eM_1]; done) | (rw [if_pos (by omega), eM_21, eM_19, eM_17, eM_1, jup_zz])
        · skip
          refine j_bipush dX9_check_47 (by decide) ?_
          refine j_iret rfl rfl rfl rfl dX9_check_49 ?_
          have hr : (-3) = fCheck (M 74 3) (M 94) m t e := by (unfold fCheck; (repeat' split) <;> first | omega | grind)
          refine ⟨hr, ?_⟩
          rw [← hr]
          first | (rw [if_pos (by omega), eM_1]; done) | (rw [if_neg (by omega), eM_1]; done) | (rw [if_pos (by omega), eM_1, jup_zz])
      · skip
        refine j_iconst dX9_check_35 (by decide) ?_
        refine j_iret rfl rfl rfl rfl dX9_check_36 ?_
        have hr : (-1) = fCheck (M 74 3) (M 94) m t e := by (unfold fCheck; (repeat' split) <;> first | omega | grind)
        refine ⟨hr, ?_⟩
        rw [← hr]
        first | (rw [if_pos (by omega), eM_1]; done) | (rw [if_neg (by omega), eM_1]; done) | (rw [if_pos (by omega), eM_1, jup_zz])
abbrev q_X9_truth (M : jM)  (m t w : Int) : Int → jM → Prop := fun r N => r = fTruthQ (M 74 3) (M 94) (M 95) (M 96) m t w ∧ N = jup M 74 0 0
set_option maxHeartbeats 4000000 in
set_option maxRecDepth 20000 in
theorem c_X9_truth {X : jX} (M : jM)  (m t w : Int) (h_rmills : 0 ≤ M 74 3 ∧ M 74 3 ≤ 6) (h_rchecks : ∀ i, 0 ≤ M 94 i ∧ M 94 i ≤ 4) (h_rcerr : ∀ i, -90 ≤ M 96 i ∧ M 96 i ≤ 90) : jC yX9_truth D_X9_truth X FJ shJ [jR 74, jI m, jI t, jI w] M (jqI (q_X9_truth M m t w)) := by
  refine jC_of (by decide) rfl (fun ad => Nat.le_of_ble_eq_true rfl) (by decide) ?_
  show jG D_X9_truth X FJ shJ 0 0 (jqI (q_X9_truth M m t w)) 0 [(0, jR 74), (1, jI m), (2, jI t), (3, jI w)] [] M
  refine j_aload_n 0 dX9_truth_0 rfl rfl ?_
  refine j_iconst dX9_truth_1 (by decide) ?_
  refine j_puti (k' := 0) f_X9_124 o_74_0 dX9_truth_2 rfl ?_
  refine j_nmM (fun M_1 eM_1 => ?_)
  refine j_aload_n 0 dX9_truth_5 rfl rfl ?_
  refine j_iload_n 1 dX9_truth_6 rfl rfl ?_
  refine j_callVi l_X9_262 ⟨Nat.le_of_ble_eq_true rfl, Nat.le_of_ble_eq_true rfl⟩ ⟨rfl, rfl⟩ dX9_truth_7 ob_74 (c_X9_isMill M_1 m (by rw [((congrFun (congrFun eM_1 74) 3).trans (jup_ne (by decide)))]; exact h_rmills)) rfl rfl (Nat.le_of_ble_eq_true rfl) (fun r_2 M_3 h_4 => ?_)
  obtain ⟨er_2, nh_4⟩ := h_4
  refine j_eqM nh_4 ?_
  clear nh_4
  simp only [((congrFun (congrFun eM_1 74) 3).trans (jup_ne (by decide)))] at er_2
  refine j_if_eq (tgt := 43) dX9_truth_10 (by decide) (fun c10_5 => ?_) (fun c10_5 => ?_)
  · skip
    refine j_sipush dX9_truth_43 (by decide) ?_
    refine j_iret rfl rfl rfl rfl dX9_truth_46 ?_
    exact ⟨by unfold fTruthQ; (repeat' split) <;> first | omega | grind, by rw [eM_1]⟩
  · skip
    refine j_iload_n 2 dX9_truth_13 rfl rfl ?_
    refine j_iconst dX9_truth_14 (by decide) ?_
    refine j_sipush dX9_truth_15 (by decide) ?_
    refine j_callSi l_X9_137 ⟨Nat.le_of_ble_eq_true rfl, Nat.le_of_ble_eq_true rfl⟩ ⟨rfl, rfl⟩ dX9_truth_18 (c_X9_in M_1 t 0 1440) rfl rfl (Nat.le_of_ble_eq_true rfl) (fun r_6 M_7 h_8 => ?_)
    obtain ⟨er_6, nh_8⟩ := h_8
    refine j_eqM nh_8 ?_
    clear nh_8
    refine j_if_eq (tgt := 43) dX9_truth_21 (by decide) (fun c21_9 => ?_) (fun c21_9 => ?_)
    · skip
      refine j_sipush dX9_truth_43 (by decide) ?_
      refine j_iret rfl rfl rfl rfl dX9_truth_46 ?_
      exact ⟨by unfold fTruthQ; (repeat' split) <;> first | omega | grind, by rw [eM_1]⟩
    · skip
      refine j_iload_n 3 dX9_truth_24 rfl rfl ?_
      refine j_iconst dX9_truth_25 (by decide) ?_
      refine j_iconst dX9_truth_26 (by decide) ?_
      refine j_callSi l_X9_137 ⟨Nat.le_of_ble_eq_true rfl, Nat.le_of_ble_eq_true rfl⟩ ⟨rfl, rfl⟩ dX9_truth_27 (c_X9_in M_1 w 0 1) rfl rfl (Nat.le_of_ble_eq_true rfl) (fun r_10 M_11 h_12 => ?_)
      obtain ⟨er_10, nh_12⟩ := h_12
      refine j_eqM nh_12 ?_
      clear nh_12
      refine j_if_eq (tgt := 43) dX9_truth_30 (by decide) (fun c30_13 => ?_) (fun c30_13 => ?_)
      · skip
        refine j_sipush dX9_truth_43 (by decide) ?_
        refine j_iret rfl rfl rfl rfl dX9_truth_46 ?_
        exact ⟨by unfold fTruthQ; (repeat' split) <;> first | omega | grind, by rw [eM_1]⟩
      · skip
        refine j_aload_n 0 dX9_truth_33 rfl rfl ?_
        refine j_iload_n 1 dX9_truth_34 rfl rfl ?_
        refine j_iload_n 2 dX9_truth_35 rfl rfl ?_
        refine j_iload_n 3 dX9_truth_36 rfl rfl ?_
        refine j_callVi l_X9_278 ⟨Nat.le_of_ble_eq_true rfl, Nat.le_of_ble_eq_true rfl⟩ ⟨rfl, rfl⟩ dX9_truth_37 ob_74 (c_X9_truthOf M_1 m t w (by rw [((congrFun eM_1 94).trans (jup_cell (by decide)))]; exact h_rchecks) (by rw [((congrFun eM_1 96).trans (jup_cell (by decide)))]; exact h_rcerr) (by first | assumption | omega) (by first | assumption | omega)) rfl rfl (Nat.le_of_ble_eq_true rfl) (fun r_14 M_15 h_16 => ?_)
        obtain ⟨er_14, nh_16⟩ := h_16
        refine j_eqM nh_16 ?_
        clear nh_16
        simp only [((congrFun eM_1 94).trans (jup_cell (by decide))), ((congrFun eM_1 95).trans (jup_cell (by decide))), ((congrFun eM_1 96).trans (jup_cell (by decide)))] at er_14
        refine j_goto (tgt := 46) dX9_truth_40 (by decide) ?_
        refine j_iret rfl rfl rfl rfl dX9_truth_46 ?_
        exact ⟨by unfold fTruthQ; (repeat' split) <;> first | omega | grind, by rw [eM_1]⟩
abbrev q_X9_line (M : jM)  (h d w i o : Int) : Int → jM → Prop := fun r N => r = fLine (M 74 8) (M 74 3) (M 74 27) h d w i o ∧ N = (if 0 ≤ fLine (M 74 8) (M 74 3) (M 74 27) h d w i o then jup (jup (jup (jup (jup (jup (jup M 74 0 0) 89 (M 74 27) h) 90 (M 74 27) d) 91 (M 74 27) w) 92 (M 74 27) i) 93 (M 74 27) o) 74 27 (M 74 27 + 1) else jup M 74 0 0)
set_option maxHeartbeats 4000000 in
set_option maxRecDepth 20000 in
theorem c_X9_line {X : jX} (M : jM)  (h d w i o : Int) (h_rmills : 0 ≤ M 74 3 ∧ M 74 3 ≤ 6) (h_rhands : 0 ≤ M 74 8 ∧ M 74 8 ≤ 24) (h_rlines : 0 ≤ M 74 27 ∧ M 74 27 ≤ 60) : jC yX9_line D_X9_line X FJ shJ [jR 74, jI h, jI d, jI w, jI i, jI o] M (jqI (q_X9_line M h d w i o)) := by
  refine jC_of (by decide) rfl (fun ad => Nat.le_of_ble_eq_true rfl) (by decide) ?_
  show jG D_X9_line X FJ shJ 0 0 (jqI (q_X9_line M h d w i o)) 0 [(0, jR 74), (1, jI h), (2, jI d), (3, jI w), (4, jI i), (5, jI o)] [] M
  refine j_aload_n 0 dX9_line_0 rfl rfl ?_
  refine j_iconst dX9_line_1 (by decide) ?_
  refine j_puti (k' := 0) f_X9_124 o_74_0 dX9_line_2 rfl ?_
  refine j_nmM (fun M_1 eM_1 => ?_)
  refine j_aload_n 0 dX9_line_5 rfl rfl ?_
  refine j_iload_n 1 dX9_line_6 rfl rfl ?_
  refine j_callVi l_X9_144 ⟨Nat.le_of_ble_eq_true rfl, Nat.le_of_ble_eq_true rfl⟩ ⟨rfl, rfl⟩ dX9_line_7 ob_74 (c_X9_isHand M_1 h (by rw [((congrFun (congrFun eM_1 74) 8).trans (jup_ne (by decide)))]; exact h_rhands)) rfl rfl (Nat.le_of_ble_eq_true rfl) (fun r_2 M_3 h_4 => ?_)
  obtain ⟨er_2, nh_4⟩ := h_4
  refine j_eqM nh_4 ?_
  clear nh_4
  simp only [((congrFun (congrFun eM_1 74) 8).trans (jup_ne (by decide)))] at er_2
  refine j_if_eq (tgt := 61) dX9_line_10 (by decide) (fun c10_5 => ?_) (fun c10_5 => ?_)
  · skip
    refine j_iconst dX9_line_61 (by decide) ?_
    refine j_iret rfl rfl rfl rfl dX9_line_62 ?_
    have hr : (-1) = fLine (M 74 8) (M 74 3) (M 74 27) h d w i o := by (unfold fLine; (repeat' split) <;> first | omega | grind)
    refine ⟨hr, ?_⟩
    rw [← hr]
    first | (rw [if_pos (by omega), eM_1]; done) | (rw [if_neg (by omega), eM_1]; done) | (rw [if_pos (by omega), eM_1, jup_zz])
  · skip
    refine j_iload_n 2 dX9_line_13 rfl rfl ?_
    refine j_callSi l_X9_166 ⟨Nat.le_of_ble_eq_true rfl, Nat.le_of_ble_eq_true rfl⟩ ⟨rfl, rfl⟩ dX9_line_14 (c_X9_isDay M_1 d) rfl rfl (Nat.le_of_ble_eq_true rfl) (fun r_6 M_7 h_8 => ?_)
    obtain ⟨er_6, nh_8⟩ := h_8
    refine j_eqM nh_8 ?_
    clear nh_8
    refine j_if_eq (tgt := 61) dX9_line_17 (by decide) (fun c17_9 => ?_) (fun c17_9 => ?_)
    · skip
      refine j_iconst dX9_line_61 (by decide) ?_
      refine j_iret rfl rfl rfl rfl dX9_line_62 ?_
      have hr : (-1) = fLine (M 74 8) (M 74 3) (M 74 27) h d w i o := by (unfold fLine; (repeat' split) <;> first | omega | grind)
      refine ⟨hr, ?_⟩
      rw [← hr]
      first | (rw [if_pos (by omega), eM_1]; done) | (rw [if_neg (by omega), eM_1]; done) | (rw [if_pos (by omega), eM_1, jup_zz])
    · skip
      refine j_iload_n 3 dX9_line_20 rfl rfl ?_
      refine j_bipush dX9_line_21 (by decide) ?_
      refine j_icmp_eq (tgt := 34) dX9_line_23 (by decide) (fun c23_10 => ?_) (fun c23_10 => ?_)
      · skip
        refine j_iload 4 dX9_line_34 rfl ?_
        refine j_iconst dX9_line_36 (by decide) ?_
        refine j_sipush dX9_line_37 (by decide) ?_
        refine j_callSi l_X9_137 ⟨Nat.le_of_ble_eq_true rfl, Nat.le_of_ble_eq_true rfl⟩ ⟨rfl, rfl⟩ dX9_line_40 (c_X9_in M_1 i 0 1439) rfl rfl (Nat.le_of_ble_eq_true rfl) (fun r_11 M_12 h_13 => ?_)
        obtain ⟨er_11, nh_13⟩ := h_13
        refine j_eqM nh_13 ?_
        clear nh_13
        refine j_if_eq (tgt := 61) dX9_line_43 (by decide) (fun c43_14 => ?_) (fun c43_14 => ?_)
        · skip
          refine j_iconst dX9_line_61 (by decide) ?_
          refine j_iret rfl rfl rfl rfl dX9_line_62 ?_
          have hr : (-1) = fLine (M 74 8) (M 74 3) (M 74 27) h d w i o := by (unfold fLine; (repeat' split) <;> first | omega | grind)
          refine ⟨hr, ?_⟩
          rw [← hr]
          first | (rw [if_pos (by omega), eM_1]; done) | (rw [if_neg (by omega), eM_1]; done) | (rw [if_pos (by omega), eM_1, jup_zz])
        · skip
          refine j_iload 5 dX9_line_46 rfl ?_
          refine j_iload 4 dX9_line_48 rfl ?_
          refine j_iconst dX9_line_50 (by decide) ?_
          refine j_iadd dX9_line_51 (by omega) ?_
          refine j_sipush dX9_line_52 (by decide) ?_
          refine j_callSi l_X9_137 ⟨Nat.le_of_ble_eq_true rfl, Nat.le_of_ble_eq_true rfl⟩ ⟨rfl, rfl⟩ dX9_line_55 (c_X9_in M_1 o ((i + 1)) 1440) rfl rfl (Nat.le_of_ble_eq_true rfl) (fun r_15 M_16 h_17 => ?_)
          obtain ⟨er_15, nh_17⟩ := h_17
          refine j_eqM nh_17 ?_
          clear nh_17
          refine j_if_ne (tgt := 63) dX9_line_58 (by decide) (fun c58_18 => ?_) (fun c58_18 => ?_)
          · skip
            refine j_aload_n 0 dX9_line_63 rfl rfl ?_
            refine j_geti (k' := 27) f_X9_275 o_74_27 dX9_line_64 rfl ?_
            refine j_eq ((congrFun (congrFun eM_1 74) 27).trans (jup_ne (by decide))) ?_
            refine j_bipush dX9_line_67 (by decide) ?_
            refine j_icmp_ne (tgt := 75) dX9_line_69 (by decide) (fun c69_19 => ?_) (fun c69_19 => ?_)
            · skip
              refine j_aload_n 0 dX9_line_75 rfl rfl ?_
              refine j_getr f_X9_53 r_74_28 dX9_line_76 ?_
              refine j_aload_n 0 dX9_line_79 rfl rfl ?_
              refine j_geti (k' := 27) f_X9_275 o_74_27 dX9_line_80 rfl ?_
              refine j_eq ((congrFun (congrFun eM_1 74) 27).trans (jup_ne (by decide))) ?_
              refine j_iload_n 1 dX9_line_83 rfl rfl ?_
              refine j_iast a_89 dX9_line_84 (by omega) (by omega) ?_
              refine j_nmM (fun M_20 eM_20 => ?_)
              refine j_aload_n 0 dX9_line_85 rfl rfl ?_
              refine j_getr f_X9_56 r_74_29 dX9_line_86 ?_
              refine j_aload_n 0 dX9_line_89 rfl rfl ?_
              refine j_geti (k' := 27) f_X9_275 o_74_27 dX9_line_90 rfl ?_
              refine j_eq (Eq.trans (congrFun ((congrFun eM_20 74).trans (jup_cell (by decide))) 27) ((congrFun (congrFun eM_1 74) 27).trans (jup_ne (by decide)))) ?_
              refine j_iload_n 2 dX9_line_93 rfl rfl ?_
              refine j_iast a_90 dX9_line_94 (by omega) (by omega) ?_
              refine j_nmM (fun M_21 eM_21 => ?_)
              refine j_aload_n 0 dX9_line_95 rfl rfl ?_
              refine j_getr f_X9_59 r_74_30 dX9_line_96 ?_
              refine j_aload_n 0 dX9_line_99 rfl rfl ?_
              refine j_geti (k' := 27) f_X9_275 o_74_27 dX9_line_100 rfl ?_
              refine j_eq (Eq.trans (congrFun ((congrFun eM_21 74).trans (jup_cell (by decide))) 27) (Eq.trans (congrFun ((congrFun eM_20 74).trans (jup_cell (by decide))) 27) ((congrFun (congrFun eM_1 74) 27).trans (jup_ne (by decide))))) ?_
              refine j_iload_n 3 dX9_line_103 rfl rfl ?_
              refine j_iast a_91 dX9_line_104 (by omega) (by omega) ?_
              refine j_nmM (fun M_22 eM_22 => ?_)
              refine j_aload_n 0 dX9_line_105 rfl rfl ?_
              refine j_getr f_X9_62 r_74_31 dX9_line_106 ?_
              refine j_aload_n 0 dX9_line_109 rfl rfl ?_
              refine j_geti (k' := 27) f_X9_275 o_74_27 dX9_line_110 rfl ?_
              refine j_eq (Eq.trans (congrFun ((congrFun eM_22 74).trans (jup_cell (by decide))) 27) (Eq.trans (congrFun ((congrFun eM_21 74).trans (jup_cell (by decide))) 27) (Eq.trans (congrFun ((congrFun eM_20 74).trans (jup_cell (by decide))) 27) ((congrFun (congrFun eM_1 74) 27).trans (jup_ne (by decide)))))) ?_
              refine j_iload 4 dX9_line_113 rfl ?_
              refine j_iast a_92 dX9_line_115 (by omega) (by omega) ?_
              refine j_nmM (fun M_23 eM_23 => ?_)
              refine j_aload_n 0 dX9_line_116 rfl rfl ?_
              refine j_getr f_X9_65 r_74_32 dX9_line_117 ?_
              refine j_aload_n 0 dX9_line_120 rfl rfl ?_
              refine j_geti (k' := 27) f_X9_275 o_74_27 dX9_line_121 rfl ?_
              refine j_eq (Eq.trans (congrFun ((congrFun eM_23 74).trans (jup_cell (by decide))) 27) (Eq.trans (congrFun ((congrFun eM_22 74).trans (jup_cell (by decide))) 27) (Eq.trans (congrFun ((congrFun eM_21 74).trans (jup_cell (by decide))) 27) (Eq.trans (congrFun ((congrFun eM_20 74).trans (jup_cell (by decide))) 27) ((congrFun (congrFun eM_1 74) 27).trans (jup_ne (by decide))))))) ?_
              refine j_iload 5 dX9_line_124 rfl ?_
              refine j_iast a_93 dX9_line_126 (by omega) (by omega) ?_
              refine j_nmM (fun M_24 eM_24 => ?_)
              refine j_aload_n 0 dX9_line_127 rfl rfl ?_
              refine j_dup dX9_line_128 rfl ?_
              refine j_geti (k' := 27) f_X9_275 o_74_27 dX9_line_129 rfl ?_
              refine j_eq (Eq.trans (congrFun ((congrFun eM_24 74).trans (jup_cell (by decide))) 27) (Eq.trans (congrFun ((congrFun eM_23 74).trans (jup_cell (by decide))) 27) (Eq.trans (congrFun ((congrFun eM_22 74).trans (jup_cell (by decide))) 27) (Eq.trans (congrFun ((congrFun eM_21 74).trans (jup_cell (by decide))) 27) (Eq.trans (congrFun ((congrFun eM_20 74).trans (jup_cell (by decide))) 27) ((congrFun (congrFun eM_1 74) 27).trans (jup_ne (by decide)))))))) ?_
              refine j_iconst dX9_line_132 (by decide) ?_
              refine j_iadd dX9_line_133 (by omega) ?_
              refine j_puti (k' := 27) f_X9_275 o_74_27 dX9_line_134 rfl ?_
              refine j_nmM (fun M_25 eM_25 => ?_)
              refine j_aload_n 0 dX9_line_137 rfl rfl ?_
              refine j_geti (k' := 27) f_X9_275 o_74_27 dX9_line_138 rfl ?_
              refine j_eq ((congrFun (congrFun eM_25 74) 27).trans (jup_self _ _ _ _)) ?_
              refine j_iret rfl rfl rfl rfl dX9_line_141 ?_
              have hr : ((M 74 27) + 1) = fLine (M 74 8) (M 74 3) (M 74 27) h d w i o := by (unfold fLine; (repeat' split) <;> first | omega | grind)
              refine ⟨hr, ?_⟩
              rw [← hr]
              first | (rw [if_pos (by omega), eM_25, eM_24, eM_23, eM_22, eM_21, eM_20, eM_1]; done) | (rw [if_neg (by omega), eM_25, eM_24, eM_23, eM_22, eM_21, eM_20, eM_1]; done) | (rw [if_pos (by omega), eM_25, eM_24, eM_23, eM_22, eM_21, eM_20, eM_1, jup_zz])
            · skip
              refine j_bipush dX9_line_72 (by decide) ?_
              refine j_iret rfl rfl rfl rfl dX9_line_74 ?_
              have hr : (-3) = fLine (M 74 8) (M 74 3) (M 74 27) h d w i o := by (unfold fLine; (repeat' split) <;> first | omega | grind)
              refine ⟨hr, ?_⟩
              rw [← hr]
              first | (rw [if_pos (by omega), eM_1]; done) | (rw [if_neg (by omega), eM_1]; done) | (rw [if_pos (by omega), eM_1, jup_zz])
          · skip
            refine j_iconst dX9_line_61 (by decide) ?_
            refine j_iret rfl rfl rfl rfl dX9_line_62 ?_
            have hr : (-1) = fLine (M 74 8) (M 74 3) (M 74 27) h d w i o := by (unfold fLine; (repeat' split) <;> first | omega | grind)
            refine ⟨hr, ?_⟩
            rw [← hr]
            first | (rw [if_pos (by omega), eM_1]; done) | (rw [if_neg (by omega), eM_1]; done) | (rw [if_pos (by omega), eM_1, jup_zz])
      · skip
        refine j_aload_n 0 dX9_line_26 rfl rfl ?_
        refine j_iload_n 3 dX9_line_27 rfl rfl ?_
        refine j_callVi l_X9_262 ⟨Nat.le_of_ble_eq_true rfl, Nat.le_of_ble_eq_true rfl⟩ ⟨rfl, rfl⟩ dX9_line_28 ob_74 (c_X9_isMill M_1 w (by rw [((congrFun (congrFun eM_1 74) 3).trans (jup_ne (by decide)))]; exact h_rmills)) rfl rfl (Nat.le_of_ble_eq_true rfl) (fun r_26 M_27 h_28 => ?_)
        obtain ⟨er_26, nh_28⟩ := h_28
        refine j_eqM nh_28 ?_
        clear nh_28
        simp only [((congrFun (congrFun eM_1 74) 3).trans (jup_ne (by decide)))] at er_26
        refine j_if_eq (tgt := 61) dX9_line_31 (by decide) (fun c31_29 => ?_) (fun c31_29 => ?_)
        · skip
          refine j_iconst dX9_line_61 (by decide) ?_
          refine j_iret rfl rfl rfl rfl dX9_line_62 ?_
          have hr : (-1) = fLine (M 74 8) (M 74 3) (M 74 27) h d w i o := by (unfold fLine; (repeat' split) <;> first | omega | grind)
          refine ⟨hr, ?_⟩
          rw [← hr]
          first | (rw [if_pos (by omega), eM_1]; done) | (rw [if_neg (by omega), eM_1]; done) | (rw [if_pos (by omega), eM_1, jup_zz])
        · skip
          refine j_iload 4 dX9_line_34 rfl ?_
          refine j_iconst dX9_line_36 (by decide) ?_
          refine j_sipush dX9_line_37 (by decide) ?_
          refine j_callSi l_X9_137 ⟨Nat.le_of_ble_eq_true rfl, Nat.le_of_ble_eq_true rfl⟩ ⟨rfl, rfl⟩ dX9_line_40 (c_X9_in M_1 i 0 1439) rfl rfl (Nat.le_of_ble_eq_true rfl) (fun r_30 M_31 h_32 => ?_)
          obtain ⟨er_30, nh_32⟩ := h_32
          refine j_eqM nh_32 ?_
          clear nh_32
          refine j_if_eq (tgt := 61) dX9_line_43 (by decide) (fun c43_33 => ?_) (fun c43_33 => ?_)
          · skip
            refine j_iconst dX9_line_61 (by decide) ?_
            refine j_iret rfl rfl rfl rfl dX9_line_62 ?_
            have hr : (-1) = fLine (M 74 8) (M 74 3) (M 74 27) h d w i o := by (unfold fLine; (repeat' split) <;> first | omega | grind)
            refine ⟨hr, ?_⟩
            rw [← hr]
            first | (rw [if_pos (by omega), eM_1]; done) | (rw [if_neg (by omega), eM_1]; done) | (rw [if_pos (by omega), eM_1, jup_zz])
          · skip
            refine j_iload 5 dX9_line_46 rfl ?_
            refine j_iload 4 dX9_line_48 rfl ?_
            refine j_iconst dX9_line_50 (by decide) ?_
            refine j_iadd dX9_line_51 (by omega) ?_
            refine j_sipush dX9_line_52 (by decide) ?_
            refine j_callSi l_X9_137 ⟨Nat.le_of_ble_eq_true rfl, Nat.le_of_ble_eq_true rfl⟩ ⟨rfl, rfl⟩ dX9_line_55 (c_X9_in M_1 o ((i + 1)) 1440) rfl rfl (Nat.le_of_ble_eq_true rfl) (fun r_34 M_35 h_36 => ?_)
            obtain ⟨er_34, nh_36⟩ := h_36
            refine j_eqM nh_36 ?_
            clear nh_36
            refine j_if_ne (tgt := 63) dX9_line_58 (by decide) (fun c58_37 => ?_) (fun c58_37 => ?_)
            · skip
              refine j_aload_n 0 dX9_line_63 rfl rfl ?_
              refine j_geti (k' := 27) f_X9_275 o_74_27 dX9_line_64 rfl ?_
              refine j_eq ((congrFun (congrFun eM_1 74) 27).trans (jup_ne (by decide))) ?_
              refine j_bipush dX9_line_67 (by decide) ?_
              refine j_icmp_ne (tgt := 75) dX9_line_69 (by decide) (fun c69_38 => ?_) (fun c69_38 => ?_)
              · skip
                refine j_aload_n 0 dX9_line_75 rfl rfl ?_
                refine j_getr f_X9_53 r_74_28 dX9_line_76 ?_
                refine j_aload_n 0 dX9_line_79 rfl rfl ?_
                refine j_geti (k' := 27) f_X9_275 o_74_27 dX9_line_80 rfl ?_
                refine j_eq ((congrFun (congrFun eM_1 74) 27).trans (jup_ne (by decide))) ?_
                refine j_iload_n 1 dX9_line_83 rfl rfl ?_
                refine j_iast a_89 dX9_line_84 (by omega) (by omega) ?_
                refine j_nmM (fun M_39 eM_39 => ?_)
                refine j_aload_n 0 dX9_line_85 rfl rfl ?_
                refine j_getr f_X9_56 r_74_29 dX9_line_86 ?_
                refine j_aload_n 0 dX9_line_89 rfl rfl ?_
                refine j_geti (k' := 27) f_X9_275 o_74_27 dX9_line_90 rfl ?_
                refine j_eq (Eq.trans (congrFun ((congrFun eM_39 74).trans (jup_cell (by decide))) 27) ((congrFun (congrFun eM_1 74) 27).trans (jup_ne (by decide)))) ?_
                refine j_iload_n 2 dX9_line_93 rfl rfl ?_
                refine j_iast a_90 dX9_line_94 (by omega) (by omega) ?_
                refine j_nmM (fun M_40 eM_40 => ?_)
                refine j_aload_n 0 dX9_line_95 rfl rfl ?_
                refine j_getr f_X9_59 r_74_30 dX9_line_96 ?_
                refine j_aload_n 0 dX9_line_99 rfl rfl ?_
                refine j_geti (k' := 27) f_X9_275 o_74_27 dX9_line_100 rfl ?_
                refine j_eq (Eq.trans (congrFun ((congrFun eM_40 74).trans (jup_cell (by decide))) 27) (Eq.trans (congrFun ((congrFun eM_39 74).trans (jup_cell (by decide))) 27) ((congrFun (congrFun eM_1 74) 27).trans (jup_ne (by decide))))) ?_
                refine j_iload_n 3 dX9_line_103 rfl rfl ?_
                refine j_iast a_91 dX9_line_104 (by omega) (by omega) ?_
                refine j_nmM (fun M_41 eM_41 => ?_)
                refine j_aload_n 0 dX9_line_105 rfl rfl ?_
                refine j_getr f_X9_62 r_74_31 dX9_line_106 ?_
                refine j_aload_n 0 dX9_line_109 rfl rfl ?_
                refine j_geti (k' := 27) f_X9_275 o_74_27 dX9_line_110 rfl ?_
                refine j_eq (Eq.trans (congrFun ((congrFun eM_41 74).trans (jup_cell (by decide))) 27) (Eq.trans (congrFun ((congrFun eM_40 74).trans (jup_cell (by decide))) 27) (Eq.trans (congrFun ((congrFun eM_39 74).trans (jup_cell (by decide))) 27) ((congrFun (congrFun eM_1 74) 27).trans (jup_ne (by decide)))))) ?_
                refine j_iload 4 dX9_line_113 rfl ?_
                refine j_iast a_92 dX9_line_115 (by omega) (by omega) ?_
                refine j_nmM (fun M_42 eM_42 => ?_)
                refine j_aload_n 0 dX9_line_116 rfl rfl ?_
                refine j_getr f_X9_65 r_74_32 dX9_line_117 ?_
                refine j_aload_n 0 dX9_line_120 rfl rfl ?_
                refine j_geti (k' := 27) f_X9_275 o_74_27 dX9_line_121 rfl ?_
                refine j_eq (Eq.trans (congrFun ((congrFun eM_42 74).trans (jup_cell (by decide))) 27) (Eq.trans (congrFun ((congrFun eM_41 74).trans (jup_cell (by decide))) 27) (Eq.trans (congrFun ((congrFun eM_40 74).trans (jup_cell (by decide))) 27) (Eq.trans (congrFun ((congrFun eM_39 74).trans (jup_cell (by decide))) 27) ((congrFun (congrFun eM_1 74) 27).trans (jup_ne (by decide))))))) ?_
                refine j_iload 5 dX9_line_124 rfl ?_
                refine j_iast a_93 dX9_line_126 (by omega) (by omega) ?_
                refine j_nmM (fun M_43 eM_43 => ?_)
                refine j_aload_n 0 dX9_line_127 rfl rfl ?_
                refine j_dup dX9_line_128 rfl ?_
                refine j_geti (k' := 27) f_X9_275 o_74_27 dX9_line_129 rfl ?_
                refine j_eq (Eq.trans (congrFun ((congrFun eM_43 74).trans (jup_cell (by decide))) 27) (Eq.trans (congrFun ((congrFun eM_42 74).trans (jup_cell (by decide))) 27) (Eq.trans (congrFun ((congrFun eM_41 74).trans (jup_cell (by decide))) 27) (Eq.trans (congrFun ((congrFun eM_40 74).trans (jup_cell (by decide))) 27) (Eq.trans (congrFun ((congrFun eM_39 74).trans (jup_cell (by decide))) 27) ((congrFun (congrFun eM_1 74) 27).trans (jup_ne (by decide)))))))) ?_
                refine j_iconst dX9_line_132 (by decide) ?_
                refine j_iadd dX9_line_133 (by omega) ?_
                refine j_puti (k' := 27) f_X9_275 o_74_27 dX9_line_134 rfl ?_
                refine j_nmM (fun M_44 eM_44 => ?_)
                refine j_aload_n 0 dX9_line_137 rfl rfl ?_
                refine j_geti (k' := 27) f_X9_275 o_74_27 dX9_line_138 rfl ?_
                refine j_eq ((congrFun (congrFun eM_44 74) 27).trans (jup_self _ _ _ _)) ?_
                refine j_iret rfl rfl rfl rfl dX9_line_141 ?_
                have hr : ((M 74 27) + 1) = fLine (M 74 8) (M 74 3) (M 74 27) h d w i o := by (unfold fLine; (repeat' split) <;> first | omega | grind)
                refine ⟨hr, ?_⟩
                rw [← hr]
                first | (rw [if_pos (by omega), eM_44, eM_43, eM_42, eM_41, eM_40, eM_39, eM_1]; done) | (rw [if_neg (by omega), eM_44, eM_43, eM_42, eM_41, eM_40, eM_39, eM_1]; done) | (rw [if_pos (by omega), eM_44, eM_43, eM_42, eM_41, eM_40, eM_39, eM_1, jup_zz])
              · skip
                refine j_bipush dX9_line_72 (by decide) ?_
                refine j_iret rfl rfl rfl rfl dX9_line_74 ?_
                have hr : (-3) = fLine (M 74 8) (M 74 3) (M 74 27) h d w i o := by (unfold fLine; (repeat' split) <;> first | omega | grind)
                refine ⟨hr, ?_⟩
                rw [← hr]
                first | (rw [if_pos (by omega), eM_1]; done) | (rw [if_neg (by omega), eM_1]; done) | (rw [if_pos (by omega), eM_1, jup_zz])
            · skip
              refine j_iconst dX9_line_61 (by decide) ?_
              refine j_iret rfl rfl rfl rfl dX9_line_62 ?_
              have hr : (-1) = fLine (M 74 8) (M 74 3) (M 74 27) h d w i o := by (unfold fLine; (repeat' split) <;> first | omega | grind)
              refine ⟨hr, ?_⟩
              rw [← hr]
              first | (rw [if_pos (by omega), eM_1]; done) | (rw [if_neg (by omega), eM_1]; done) | (rw [if_pos (by omega), eM_1, jup_zz])
abbrev q_X9_inOf (M : jM)  (k w : Int) : Int → jM → Prop := fun r N => r = fTruth (M 94) (M 95) (M 96) (M 91 k) (M 92 k) w ∧ N = M
set_option maxHeartbeats 4000000 in
set_option maxRecDepth 20000 in
theorem c_X9_inOf {X : jX} (M : jM)  (k w : Int) (h_rchecks : ∀ i, 0 ≤ M 94 i ∧ M 94 i ≤ 4) (h_rcerr : ∀ i, -90 ≤ M 96 i ∧ M 96 i ≤ 90) (h_rlwhere : ∀ i, M 91 i = -9 ∨ (0 ≤ M 91 i ∧ M 91 i < 6)) (h_rlin : ∀ i, 0 ≤ M 92 i ∧ M 92 i ≤ 1439) (h0 : 0 ≤ k ∧ k < 60) : jC yX9_inOf D_X9_inOf X FJ shJ [jR 74, jI k, jI w] M (jqI (q_X9_inOf M k w)) := by
  refine jC_of (by decide) rfl (fun ad => Nat.le_of_ble_eq_true rfl) (by decide) ?_
  show jG D_X9_inOf X FJ shJ 0 0 (jqI (q_X9_inOf M k w)) 0 [(0, jR 74), (1, jI k), (2, jI w)] [] M
  have x1 := h_rlwhere k
  have x2 := h_rlin k
  refine j_aload_n 0 dX9_inOf_0 rfl rfl ?_
  refine j_aload_n 0 dX9_inOf_1 rfl rfl ?_
  refine j_getr f_X9_59 r_74_30 dX9_inOf_2 ?_
  refine j_iload_n 1 dX9_inOf_5 rfl rfl ?_
  refine j_iald a_91 dX9_inOf_6 (by omega) (by omega) ?_
  have g_1 := h_rlwhere k
  refine j_aload_n 0 dX9_inOf_7 rfl rfl ?_
  refine j_getr f_X9_62 r_74_31 dX9_inOf_8 ?_
  refine j_iload_n 1 dX9_inOf_11 rfl rfl ?_
  refine j_iald a_92 dX9_inOf_12 (by omega) (by omega) ?_
  have g_2 := h_rlin k
  refine j_iload_n 2 dX9_inOf_13 rfl rfl ?_
  refine j_callVi l_X9_278 ⟨Nat.le_of_ble_eq_true rfl, Nat.le_of_ble_eq_true rfl⟩ ⟨rfl, rfl⟩ dX9_inOf_14 ob_74 (c_X9_truthOf M ((M 91 k)) ((M 92 k)) w h_rchecks h_rcerr (by first | assumption | omega) (by first | assumption | omega)) rfl rfl (Nat.le_of_ble_eq_true rfl) (fun r_3 M_4 h_5 => ?_)
  obtain ⟨er_3, nh_5⟩ := h_5
  refine j_eqM nh_5 ?_
  clear nh_5
  refine j_iret rfl rfl rfl rfl dX9_inOf_17 ?_
  exact ⟨by first | omega | grind, rfl⟩
abbrev q_X9_outOf (M : jM)  (k w : Int) : Int → jM → Prop := fun r N => r = fTruth (M 94) (M 95) (M 96) (M 91 k) (M 93 k) w ∧ N = M
set_option maxHeartbeats 4000000 in
set_option maxRecDepth 20000 in
theorem c_X9_outOf {X : jX} (M : jM)  (k w : Int) (h_rchecks : ∀ i, 0 ≤ M 94 i ∧ M 94 i ≤ 4) (h_rcerr : ∀ i, -90 ≤ M 96 i ∧ M 96 i ≤ 90) (h_rlwhere : ∀ i, M 91 i = -9 ∨ (0 ≤ M 91 i ∧ M 91 i < 6)) (h_rlout : ∀ i, 0 ≤ M 93 i ∧ M 93 i ≤ 1440) (h0 : 0 ≤ k ∧ k < 60) : jC yX9_outOf D_X9_outOf X FJ shJ [jR 74, jI k, jI w] M (jqI (q_X9_outOf M k w)) := by
  refine jC_of (by decide) rfl (fun ad => Nat.le_of_ble_eq_true rfl) (by decide) ?_
  show jG D_X9_outOf X FJ shJ 0 0 (jqI (q_X9_outOf M k w)) 0 [(0, jR 74), (1, jI k), (2, jI w)] [] M
  have x1 := h_rlwhere k
  have x2 := h_rlout k
  refine j_aload_n 0 dX9_outOf_0 rfl rfl ?_
  refine j_aload_n 0 dX9_outOf_1 rfl rfl ?_
  refine j_getr f_X9_59 r_74_30 dX9_outOf_2 ?_
  refine j_iload_n 1 dX9_outOf_5 rfl rfl ?_
  refine j_iald a_91 dX9_outOf_6 (by omega) (by omega) ?_
  have g_1 := h_rlwhere k
  refine j_aload_n 0 dX9_outOf_7 rfl rfl ?_
  refine j_getr f_X9_65 r_74_32 dX9_outOf_8 ?_
  refine j_iload_n 1 dX9_outOf_11 rfl rfl ?_
  refine j_iald a_93 dX9_outOf_12 (by omega) (by omega) ?_
  have g_2 := h_rlout k
  refine j_iload_n 2 dX9_outOf_13 rfl rfl ?_
  refine j_callVi l_X9_278 ⟨Nat.le_of_ble_eq_true rfl, Nat.le_of_ble_eq_true rfl⟩ ⟨rfl, rfl⟩ dX9_outOf_14 ob_74 (c_X9_truthOf M ((M 91 k)) ((M 93 k)) w h_rchecks h_rcerr (by first | assumption | omega) (by first | assumption | omega)) rfl rfl (Nat.le_of_ble_eq_true rfl) (fun r_3 M_4 h_5 => ?_)
  obtain ⟨er_3, nh_5⟩ := h_5
  refine j_eqM nh_5 ?_
  clear nh_5
  refine j_iret rfl rfl rfl rfl dX9_outOf_17 ?_
  exact ⟨by first | omega | grind, rfl⟩
abbrev q_X9_isLine (M : jM)  (k h d : Int) : Int → jM → Prop := fun r N => ((r = 1 ∧ (M 89 k = h ∧ M 90 k = d)) ∨ (r = 0 ∧ ¬ (M 89 k = h ∧ M 90 k = d))) ∧ N = M
set_option maxHeartbeats 4000000 in
set_option maxRecDepth 20000 in
theorem c_X9_isLine {X : jX} (M : jM)  (k h d : Int) (h0 : 0 ≤ k ∧ k < 60) : jC yX9_isLine D_X9_isLine X FJ shJ [jR 74, jI k, jI h, jI d] M (jqI (q_X9_isLine M k h d)) := by
  refine jC_of (by decide) rfl (fun ad => Nat.le_of_ble_eq_true rfl) (by decide) ?_
  show jG D_X9_isLine X FJ shJ 0 0 (jqI (q_X9_isLine M k h d)) 0 [(0, jR 74), (1, jI k), (2, jI h), (3, jI d)] [] M
  refine j_aload_n 0 dX9_isLine_0 rfl rfl ?_
  refine j_getr f_X9_53 r_74_28 dX9_isLine_1 ?_
  refine j_iload_n 1 dX9_isLine_4 rfl rfl ?_
  refine j_iald a_89 dX9_isLine_5 (by omega) (by omega) ?_
  refine j_iload_n 2 dX9_isLine_6 rfl rfl ?_
  have hJ_1 : ∀ zz : Int, (¬ (M 89 k) = h ∧ zz = 0) ∨ ((M 89 k) = h ∧ ¬ (M 90 k) = d ∧ zz = 0) ∨ ((M 89 k) = h ∧ (M 90 k) = d ∧ zz = 1) → jG D_X9_isLine X FJ shJ 0 0 (jqI (q_X9_isLine M k h d)) 25 [(0, jR 74), (1, jI k), (2, jI h), (3, jI d)] (jI zz :: []) M := by
    intro t_2 et_2
    refine j_zret rfl rfl rfl rfl dX9_isLine_25 (by omega) ?_
    exact ⟨by omega, rfl⟩
  refine j_icmp_ne (tgt := 24) dX9_isLine_7 (by decide) (fun c7_3 => ?_) (fun c7_3 => ?_)
  · skip
    refine j_iconst dX9_isLine_24 (by decide) ?_
    exact hJ_1 _ (Or.inl ⟨c7_3, rfl⟩)
  · skip
    refine j_aload_n 0 dX9_isLine_10 rfl rfl ?_
    refine j_getr f_X9_56 r_74_29 dX9_isLine_11 ?_
    refine j_iload_n 1 dX9_isLine_14 rfl rfl ?_
    refine j_iald a_90 dX9_isLine_15 (by omega) (by omega) ?_
    refine j_iload_n 3 dX9_isLine_16 rfl rfl ?_
    refine j_icmp_ne (tgt := 24) dX9_isLine_17 (by decide) (fun c17_4 => ?_) (fun c17_4 => ?_)
    · skip
      refine j_iconst dX9_isLine_24 (by decide) ?_
      exact hJ_1 _ (Or.inr (Or.inl ⟨c7_3, c17_4, rfl⟩))
    · skip
      refine j_iconst dX9_isLine_20 (by decide) ?_
      refine j_goto (tgt := 25) dX9_isLine_21 (by decide) ?_
      exact hJ_1 _ (Or.inr (Or.inr (⟨c7_3, c17_4, rfl⟩)))
abbrev q_X9_longOf (M : jM)  (k w : Int) : Int → jM → Prop := fun r N => r = fLong (M 94) (M 95) (M 96) (M 91) (M 92) (M 93) k w ∧ N = M
set_option maxHeartbeats 4000000 in
set_option maxRecDepth 20000 in
theorem c_X9_longOf {X : jX} (M : jM)  (k w : Int) (h_rchecks : ∀ i, 0 ≤ M 94 i ∧ M 94 i ≤ 4) (h_rcerr : ∀ i, -90 ≤ M 96 i ∧ M 96 i ≤ 90) (h_rlwhere : ∀ i, M 91 i = -9 ∨ (0 ≤ M 91 i ∧ M 91 i < 6)) (h_rlout : ∀ i, 0 ≤ M 93 i ∧ M 93 i ≤ 1440) (h_rlin : ∀ i, 0 ≤ M 92 i ∧ M 92 i ≤ 1439) (h0 : 0 ≤ k ∧ k < 60) : jC yX9_longOf D_X9_longOf X FJ shJ [jR 74, jI k, jI w] M (jqI (q_X9_longOf M k w)) := by
  refine jC_of (by decide) rfl (fun ad => Nat.le_of_ble_eq_true rfl) (by decide) ?_
  show jG D_X9_longOf X FJ shJ 0 0 (jqI (q_X9_longOf M k w)) 0 [(0, jR 74), (1, jI k), (2, jI w)] [] M
  have x1 := h_rlin k
  have x2 := h_rlout k
  have z1 := fTruth_in (ck := M 94) (cm := M 95) h_rcerr (M 91 k) (M 93 k) 0
  have z2 := fTruth_in (ck := M 94) (cm := M 95) h_rcerr (M 91 k) (M 93 k) 1
  have z3 := fTruth_in (ck := M 94) (cm := M 95) h_rcerr (M 91 k) (M 92 k) 0
  have z4 := fTruth_in (ck := M 94) (cm := M 95) h_rcerr (M 91 k) (M 92 k) 1
  refine j_iload_n 2 dX9_longOf_0 rfl rfl ?_
  refine j_if_ne (tgt := 20) dX9_longOf_1 (by decide) (fun c1_1 => ?_) (fun c1_1 => ?_)
  · skip
    refine j_aload_n 0 dX9_longOf_20 rfl rfl ?_
    refine j_iload_n 1 dX9_longOf_21 rfl rfl ?_
    refine j_iconst dX9_longOf_22 (by decide) ?_
    refine j_callVi l_X9_281 ⟨Nat.le_of_ble_eq_true rfl, Nat.le_of_ble_eq_true rfl⟩ ⟨rfl, rfl⟩ dX9_longOf_23 ob_74 (c_X9_outOf M k 1 h_rchecks h_rcerr h_rlwhere h_rlout (by first | assumption | omega)) rfl rfl (Nat.le_of_ble_eq_true rfl) (fun r_2 M_3 h_4 => ?_)
    obtain ⟨er_2, nh_4⟩ := h_4
    refine j_eqM nh_4 ?_
    clear nh_4
    refine j_aload_n 0 dX9_longOf_26 rfl rfl ?_
    refine j_iload_n 1 dX9_longOf_27 rfl rfl ?_
    refine j_iconst dX9_longOf_28 (by decide) ?_
    refine j_callVi l_X9_284 ⟨Nat.le_of_ble_eq_true rfl, Nat.le_of_ble_eq_true rfl⟩ ⟨rfl, rfl⟩ dX9_longOf_29 ob_74 (c_X9_inOf M k 0 h_rchecks h_rcerr h_rlwhere h_rlin (by first | assumption | omega)) rfl rfl (Nat.le_of_ble_eq_true rfl) (fun r_5 M_6 h_7 => ?_)
    obtain ⟨er_5, nh_7⟩ := h_7
    refine j_eqM nh_7 ?_
    clear nh_7
    refine j_isub dX9_longOf_32 (by omega) ?_
    refine j_nm (fun v3_8 ev3_8 => ?_)
    refine j_istore_n (ls' := [(0, jR 74), (1, jI k), (2, jI w), (3, jI v3_8)]) dX9_longOf_33 rfl (by decide) rfl ?_
    refine j_iload_n 3 dX9_longOf_34 rfl rfl ?_
    have hJ_9 : ∀ zz : Int, (0 ≤ v3_8 ∧ zz = v3_8) ∨ (¬ (0 ≤ v3_8) ∧ zz = 0) → jG D_X9_longOf X FJ shJ 0 0 (jqI (q_X9_longOf M k w)) 43 [(0, jR 74), (1, jI k), (2, jI w), (3, jI v3_8)] (jI zz :: []) M := by
      intro t_10 et_10
      refine j_iret rfl rfl rfl rfl dX9_longOf_43 ?_
      exact ⟨by unfold fLong; split <;> omega, rfl⟩
    refine j_if_ge (tgt := 42) dX9_longOf_35 (by decide) (fun c35_11 => ?_) (fun c35_11 => ?_)
    · skip
      refine j_iload_n 3 dX9_longOf_42 rfl rfl ?_
      exact hJ_9 _ (Or.inl ⟨c35_11, rfl⟩)
    · skip
      refine j_iconst dX9_longOf_38 (by decide) ?_
      refine j_goto (tgt := 43) dX9_longOf_39 (by decide) ?_
      exact hJ_9 _ (Or.inr (⟨c35_11, rfl⟩))
  · skip
    refine j_aload_n 0 dX9_longOf_4 rfl rfl ?_
    refine j_iload_n 1 dX9_longOf_5 rfl rfl ?_
    refine j_iconst dX9_longOf_6 (by decide) ?_
    refine j_callVi l_X9_281 ⟨Nat.le_of_ble_eq_true rfl, Nat.le_of_ble_eq_true rfl⟩ ⟨rfl, rfl⟩ dX9_longOf_7 ob_74 (c_X9_outOf M k 0 h_rchecks h_rcerr h_rlwhere h_rlout (by first | assumption | omega)) rfl rfl (Nat.le_of_ble_eq_true rfl) (fun r_12 M_13 h_14 => ?_)
    obtain ⟨er_12, nh_14⟩ := h_14
    refine j_eqM nh_14 ?_
    clear nh_14
    refine j_aload_n 0 dX9_longOf_10 rfl rfl ?_
    refine j_iload_n 1 dX9_longOf_11 rfl rfl ?_
    refine j_iconst dX9_longOf_12 (by decide) ?_
    refine j_callVi l_X9_284 ⟨Nat.le_of_ble_eq_true rfl, Nat.le_of_ble_eq_true rfl⟩ ⟨rfl, rfl⟩ dX9_longOf_13 ob_74 (c_X9_inOf M k 1 h_rchecks h_rcerr h_rlwhere h_rlin (by first | assumption | omega)) rfl rfl (Nat.le_of_ble_eq_true rfl) (fun r_15 M_16 h_17 => ?_)
    obtain ⟨er_15, nh_17⟩ := h_17
    refine j_eqM nh_17 ?_
    clear nh_17
    refine j_isub dX9_longOf_16 (by omega) ?_
    refine j_goto (tgt := 33) dX9_longOf_17 (by decide) ?_
    refine j_nm (fun v3_18 ev3_18 => ?_)
    refine j_istore_n (ls' := [(0, jR 74), (1, jI k), (2, jI w), (3, jI v3_18)]) dX9_longOf_33 rfl (by decide) rfl ?_
    refine j_iload_n 3 dX9_longOf_34 rfl rfl ?_
    have hJ_19 : ∀ zz : Int, (0 ≤ v3_18 ∧ zz = v3_18) ∨ (¬ (0 ≤ v3_18) ∧ zz = 0) → jG D_X9_longOf X FJ shJ 0 0 (jqI (q_X9_longOf M k w)) 43 [(0, jR 74), (1, jI k), (2, jI w), (3, jI v3_18)] (jI zz :: []) M := by
      intro t_20 et_20
      refine j_iret rfl rfl rfl rfl dX9_longOf_43 ?_
      exact ⟨by unfold fLong; split <;> omega, rfl⟩
    refine j_if_ge (tgt := 42) dX9_longOf_35 (by decide) (fun c35_21 => ?_) (fun c35_21 => ?_)
    · skip
      refine j_iload_n 3 dX9_longOf_42 rfl rfl ?_
      exact hJ_19 _ (Or.inl ⟨c35_21, rfl⟩)
    · skip
      refine j_iconst dX9_longOf_38 (by decide) ?_
      refine j_goto (tgt := 43) dX9_longOf_39 (by decide) ?_
      exact hJ_19 _ (Or.inr (⟨c35_21, rfl⟩))
abbrev q_X9_workOf (M : jM)  (h d w : Int) : Int → jM → Prop := fun r N => r = fWork (M 94) (M 95) (M 96) (M 89) (M 90) (M 91) (M 92) (M 93) h d w (M 74 27).toNat ∧ N = M
set_option maxHeartbeats 4000000 in
set_option maxRecDepth 20000 in
theorem c_X9_workOf {X : jX} (M : jM)  (h d w : Int) (h_rlines : 0 ≤ M 74 27 ∧ M 74 27 ≤ 60) (h_rchecks : ∀ i, 0 ≤ M 94 i ∧ M 94 i ≤ 4) (h_rcerr : ∀ i, -90 ≤ M 96 i ∧ M 96 i ≤ 90) (h_rlwhere : ∀ i, M 91 i = -9 ∨ (0 ≤ M 91 i ∧ M 91 i < 6)) (h_rlin : ∀ i, 0 ≤ M 92 i ∧ M 92 i ≤ 1439) (h_rlout : ∀ i, 0 ≤ M 93 i ∧ M 93 i ≤ 1440) (hw : 0 ≤ w ∧ w ≤ 2) : jC yX9_workOf D_X9_workOf X FJ shJ [jR 74, jI h, jI d, jI w] M (jqI (q_X9_workOf M h d w)) := by
  refine jC_of (by decide) rfl (fun ad => Nat.le_of_ble_eq_true rfl) (by decide) ?_
  show jG D_X9_workOf X FJ shJ 0 0 (jqI (q_X9_workOf M h d w)) 0 [(0, jR 74), (1, jI h), (2, jI d), (3, jI w)] [] M
  refine j_iconst dX9_workOf_0 (by decide) ?_
  refine j_istore (ls' := [(0, jR 74), (1, jI h), (2, jI d), (3, jI w), (4, jI 0)]) dX9_workOf_1 (by decide) rfl ?_
  refine j_iconst dX9_workOf_3 (by decide) ?_
  refine j_istore (ls' := [(0, jR 74), (1, jI h), (2, jI d), (3, jI w), (4, jI 0), (5, jI 0)]) dX9_workOf_4 (by decide) rfl ?_
  have lp6_1 : ∀ n6 : Nat, ∀ (v4 v5 : Int), (0 ≤ v5 ∧ v5 ≤ M 74 27) ∧ (v4 = fWork (M 94) (M 95) (M 96) (M 89) (M 90) (M 91) (M 92) (M 93) h d w v5.toNat) → (M 74 27 - v5).toNat < n6 → jG D_X9_workOf X FJ shJ 0 0 (jqI (q_X9_workOf M h d w)) 6 [(0, jR 74), (1, jI h), (2, jI d), (3, jI w), (4, jI v4), (5, jI v5)] ([]) M := by
    intro n6
    induction n6 with
    | zero => intro v4 v5  _ hz; exact absurd hz (Nat.not_lt_zero _)
    | succ n6 ih6 =>
      intro v4 v5  hinv hm
      obtain ⟨h1, h4⟩ := hinv
      have q4 := fWork_in (ck := M 94) (cm := M 95) (lh := M 89) (ld := M 90) (wh := M 91) h_rcerr h_rlin h_rlout h d w v5.toNat
      rw [← h4] at q4
      have y1 := fLong_in (ck := M 94) (cm := M 95) (wh := M 91) h_rcerr h_rlin h_rlout v5 w
      have x1 := h_rlin v5
      have x2 := h_rlout v5
      refine j_iload 5 dX9_workOf_6 rfl ?_
      refine j_aload_n 0 dX9_workOf_8 rfl rfl ?_
      refine j_geti (k' := 27) f_X9_275 o_74_27 dX9_workOf_9 rfl ?_
      refine j_icmp_ge (tgt := 105) dX9_workOf_12 (by decide) (fun c12_2 => ?_) (fun c12_2 => ?_)
      · skip
        refine j_iload 4 dX9_workOf_105 rfl ?_
        refine j_iret rfl rfl rfl rfl dX9_workOf_107 ?_
        have e6 : v5 = M 74 27 := by omega
        rw [e6] at h4
        exact ⟨h4, rfl⟩
      · skip
        refine j_aload_n 0 dX9_workOf_15 rfl rfl ?_
        refine j_iload 5 dX9_workOf_16 rfl ?_
        refine j_iload_n 1 dX9_workOf_18 rfl rfl ?_
        refine j_iload_n 2 dX9_workOf_19 rfl rfl ?_
        refine j_callVi l_X9_287 ⟨Nat.le_of_ble_eq_true rfl, Nat.le_of_ble_eq_true rfl⟩ ⟨rfl, rfl⟩ dX9_workOf_20 ob_74 (c_X9_isLine M v5 h d (by first | assumption | omega)) rfl rfl (Nat.le_of_ble_eq_true rfl) (fun r_3 M_4 h_5 => ?_)
        obtain ⟨er_3, nh_5⟩ := h_5
        refine j_eqM nh_5 ?_
        clear nh_5
        refine j_if_eq (tgt := 99) dX9_workOf_23 (by decide) (fun c23_6 => ?_) (fun c23_6 => ?_)
        · skip
          obtain ⟨v5_7, ev5_7⟩ : ∃ y : Int, y = v5 + 1 := ⟨_, rfl⟩
          refine j_iinc (y := v5_7) (ls' := [(0, jR 74), (1, jI h), (2, jI d), (3, jI w), (4, jI v4), (5, jI v5_7)]) 5 dX9_workOf_99 rfl ev5_7 (by omega) (by decide) rfl ?_
          refine j_goto (tgt := 6) dX9_workOf_102 (by decide) ?_
          exact ih6 v4 v5_7 ⟨by first | omega | grind, by rw [ev5_7, toNat_s h1.1]; unfold fWork fPart; rw [← h4, toNat_c h1.1]; grind⟩ (by omega)
        · skip
          refine j_aload_n 0 dX9_workOf_26 rfl rfl ?_
          refine j_getr f_X9_59 r_74_30 dX9_workOf_27 ?_
          refine j_iload 5 dX9_workOf_30 rfl ?_
          refine j_iald a_91 dX9_workOf_32 (by omega) (by omega) ?_
          have g_8 := h_rlwhere v5
          refine j_bipush dX9_workOf_33 (by decide) ?_
          have hJ_9 : ∀ zz : Int, (¬ (M 91 v5) = (-9) ∧ zz = 0) ∨ ((M 91 v5) = (-9) ∧ zz = 1) → jG D_X9_workOf X FJ shJ 0 0 (jqI (q_X9_workOf M h d w)) 43 [(0, jR 74), (1, jI h), (2, jI d), (3, jI w), (4, jI v4), (5, jI v5)] (jI zz :: []) M := by
            intro t_10 et_10
            refine j_istore (ls' := [(0, jR 74), (1, jI h), (2, jI d), (3, jI w), (4, jI v4), (5, jI v5), (6, jI t_10)]) dX9_workOf_43 (by decide) rfl ?_
            refine j_iload 4 dX9_workOf_45 rfl ?_
            refine j_iload 6 dX9_workOf_47 rfl ?_
            refine j_iload_n 3 dX9_workOf_49 rfl rfl ?_
            refine j_iconst dX9_workOf_50 (by decide) ?_
            have hJ_11 : ∀ zz : Int, (¬ w = 2 ∧ zz = 0) ∨ (w = 2 ∧ zz = 1) → jG D_X9_workOf X FJ shJ 0 0 (jqI (q_X9_workOf M h d w)) 59 [(0, jR 74), (1, jI h), (2, jI d), (3, jI w), (4, jI v4), (5, jI v5), (6, jI t_10)] (jI zz :: jI t_10 :: jI v4 :: []) M := by
              intro t_12 et_12
              refine j_icmp_eq (tgt := 66) dX9_workOf_59 (by decide) (fun c59_13 => ?_) (fun c59_13 => ?_)
              · skip
                refine j_iload 6 dX9_workOf_66 rfl ?_
                refine j_if_eq (tgt := 89) dX9_workOf_68 (by decide) (fun c68_14 => ?_) (fun c68_14 => ?_)
                · skip
                  refine j_aload_n 0 dX9_workOf_89 rfl rfl ?_
                  refine j_iload 5 dX9_workOf_90 rfl ?_
                  refine j_iload_n 3 dX9_workOf_92 rfl rfl ?_
                  refine j_callVi l_X9_290 ⟨Nat.le_of_ble_eq_true rfl, Nat.le_of_ble_eq_true rfl⟩ ⟨rfl, rfl⟩ dX9_workOf_93 ob_74 (c_X9_longOf M v5 w h_rchecks h_rcerr h_rlwhere h_rlout h_rlin (by first | assumption | omega)) rfl rfl (Nat.le_of_ble_eq_true rfl) (fun r_15 M_16 h_17 => ?_)
                  obtain ⟨er_15, nh_17⟩ := h_17
                  refine j_eqM nh_17 ?_
                  clear nh_17
                  refine j_iadd dX9_workOf_96 (by omega) ?_
                  refine j_nm (fun v4_18 ev4_18 => ?_)
                  refine j_istore (ls' := [(0, jR 74), (1, jI h), (2, jI d), (3, jI w), (4, jI v4_18), (5, jI v5), (6, jI t_10)]) dX9_workOf_97 (by decide) rfl ?_
                  obtain ⟨v5_19, ev5_19⟩ : ∃ y : Int, y = v5 + 1 := ⟨_, rfl⟩
                  refine j_iinc (y := v5_19) (ls' := [(0, jR 74), (1, jI h), (2, jI d), (3, jI w), (4, jI v4_18), (5, jI v5_19), (6, jI t_10)]) 5 dX9_workOf_99 rfl ev5_19 (by omega) (by decide) rfl ?_
                  refine j_goto (tgt := 6) dX9_workOf_102 (by decide) ?_
                  refine j_sub (ls' := [(0, jR 74), (1, jI h), (2, jI d), (3, jI w), (4, jI v4_18), (5, jI v5_19)]) [0, 1, 2, 3, 4, 5] rfl ?_
                  exact ih6 v4_18 v5_19 ⟨by first | omega | grind, by rw [ev5_19, toNat_s h1.1]; unfold fWork fPart; rw [← h4, toNat_c h1.1]; grind⟩ (by omega)
                · skip
                  refine j_aload_n 0 dX9_workOf_71 rfl rfl ?_
                  refine j_getr f_X9_65 r_74_32 dX9_workOf_72 ?_
                  refine j_iload 5 dX9_workOf_75 rfl ?_
                  refine j_iald a_93 dX9_workOf_77 (by omega) (by omega) ?_
                  have g_20 := h_rlout v5
                  refine j_aload_n 0 dX9_workOf_78 rfl rfl ?_
                  refine j_getr f_X9_62 r_74_31 dX9_workOf_79 ?_
                  refine j_iload 5 dX9_workOf_82 rfl ?_
                  refine j_iald a_92 dX9_workOf_84 (by omega) (by omega) ?_
                  have g_21 := h_rlin v5
                  refine j_isub dX9_workOf_85 (by omega) ?_
                  refine j_goto (tgt := 96) dX9_workOf_86 (by decide) ?_
                  refine j_iadd dX9_workOf_96 (by omega) ?_
                  refine j_nm (fun v4_22 ev4_22 => ?_)
                  refine j_istore (ls' := [(0, jR 74), (1, jI h), (2, jI d), (3, jI w), (4, jI v4_22), (5, jI v5), (6, jI t_10)]) dX9_workOf_97 (by decide) rfl ?_
                  obtain ⟨v5_23, ev5_23⟩ : ∃ y : Int, y = v5 + 1 := ⟨_, rfl⟩
                  refine j_iinc (y := v5_23) (ls' := [(0, jR 74), (1, jI h), (2, jI d), (3, jI w), (4, jI v4_22), (5, jI v5_23), (6, jI t_10)]) 5 dX9_workOf_99 rfl ev5_23 (by omega) (by decide) rfl ?_
                  refine j_goto (tgt := 6) dX9_workOf_102 (by decide) ?_
                  refine j_sub (ls' := [(0, jR 74), (1, jI h), (2, jI d), (3, jI w), (4, jI v4_22), (5, jI v5_23)]) [0, 1, 2, 3, 4, 5] rfl ?_
                  exact ih6 v4_22 v5_23 ⟨by first | omega | grind, by rw [ev5_23, toNat_s h1.1]; unfold fWork fPart; rw [← h4, toNat_c h1.1]; grind⟩ (by omega)
              · skip
                refine j_iconst dX9_workOf_62 (by decide) ?_
                refine j_goto (tgt := 96) dX9_workOf_63 (by decide) ?_
                refine j_iadd dX9_workOf_96 (by omega) ?_
                refine j_nm (fun v4_24 ev4_24 => ?_)
                refine j_istore (ls' := [(0, jR 74), (1, jI h), (2, jI d), (3, jI w), (4, jI v4_24), (5, jI v5), (6, jI t_10)]) dX9_workOf_97 (by decide) rfl ?_
                obtain ⟨v5_25, ev5_25⟩ : ∃ y : Int, y = v5 + 1 := ⟨_, rfl⟩
                refine j_iinc (y := v5_25) (ls' := [(0, jR 74), (1, jI h), (2, jI d), (3, jI w), (4, jI v4_24), (5, jI v5_25), (6, jI t_10)]) 5 dX9_workOf_99 rfl ev5_25 (by omega) (by decide) rfl ?_
                refine j_goto (tgt := 6) dX9_workOf_102 (by decide) ?_
                refine j_sub (ls' := [(0, jR 74), (1, jI h), (2, jI d), (3, jI w), (4, jI v4_24), (5, jI v5_25)]) [0, 1, 2, 3, 4, 5] rfl ?_
                exact ih6 v4_24 v5_25 ⟨by first | omega | grind, by rw [ev5_25, toNat_s h1.1]; unfold fWork fPart; rw [← h4, toNat_c h1.1]; grind⟩ (by omega)
            refine j_icmp_ne (tgt := 58) dX9_workOf_51 (by decide) (fun c51_26 => ?_) (fun c51_26 => ?_)
            · skip
              refine j_iconst dX9_workOf_58 (by decide) ?_
              exact hJ_11 _ (Or.inl ⟨c51_26, rfl⟩)
            · skip
              refine j_iconst dX9_workOf_54 (by decide) ?_
              refine j_goto (tgt := 59) dX9_workOf_55 (by decide) ?_
              exact hJ_11 _ (Or.inr (⟨c51_26, rfl⟩))
          refine j_icmp_ne (tgt := 42) dX9_workOf_35 (by decide) (fun c35_27 => ?_) (fun c35_27 => ?_)
          · skip
            refine j_iconst dX9_workOf_42 (by decide) ?_
            exact hJ_9 _ (Or.inl ⟨c35_27, rfl⟩)
          · skip
            refine j_iconst dX9_workOf_38 (by decide) ?_
            refine j_goto (tgt := 43) dX9_workOf_39 (by decide) ?_
            exact hJ_9 _ (Or.inr (⟨c35_27, rfl⟩))
  exact lp6_1 _ 0 0 ⟨by first | omega | rfl, by first | omega | rfl⟩ (Nat.lt_succ_self _)
abbrev q_X9_work (M : jM)  (h d w : Int) : Int → jM → Prop := fun r N => r = (if 0 ≤ h ∧ h < M 74 8 ∧ 0 ≤ d ∧ d ≤ 359 ∧ 0 ≤ w ∧ w ≤ 2 then fWork (M 94) (M 95) (M 96) (M 89) (M 90) (M 91) (M 92) (M 93) h d w (M 74 27).toNat else -1) ∧ N = jup M 74 0 0
set_option maxHeartbeats 4000000 in
set_option maxRecDepth 20000 in
theorem c_X9_work {X : jX} (M : jM)  (h d w : Int) (h_rhands : 0 ≤ M 74 8 ∧ M 74 8 ≤ 24) (h_rlines : 0 ≤ M 74 27 ∧ M 74 27 ≤ 60) (h_rchecks : ∀ i, 0 ≤ M 94 i ∧ M 94 i ≤ 4) (h_rcerr : ∀ i, -90 ≤ M 96 i ∧ M 96 i ≤ 90) (h_rlwhere : ∀ i, M 91 i = -9 ∨ (0 ≤ M 91 i ∧ M 91 i < 6)) (h_rlin : ∀ i, 0 ≤ M 92 i ∧ M 92 i ≤ 1439) (h_rlout : ∀ i, 0 ≤ M 93 i ∧ M 93 i ≤ 1440) : jC yX9_work D_X9_work X FJ shJ [jR 74, jI h, jI d, jI w] M (jqI (q_X9_work M h d w)) := by
  refine jC_of (by decide) rfl (fun ad => Nat.le_of_ble_eq_true rfl) (by decide) ?_
  show jG D_X9_work X FJ shJ 0 0 (jqI (q_X9_work M h d w)) 0 [(0, jR 74), (1, jI h), (2, jI d), (3, jI w)] [] M
  refine j_aload_n 0 dX9_work_0 rfl rfl ?_
  refine j_iconst dX9_work_1 (by decide) ?_
  refine j_puti (k' := 0) f_X9_124 o_74_0 dX9_work_2 rfl ?_
  refine j_nmM (fun M_1 eM_1 => ?_)
  refine j_aload_n 0 dX9_work_5 rfl rfl ?_
  refine j_iload_n 1 dX9_work_6 rfl rfl ?_
  refine j_callVi l_X9_144 ⟨Nat.le_of_ble_eq_true rfl, Nat.le_of_ble_eq_true rfl⟩ ⟨rfl, rfl⟩ dX9_work_7 ob_74 (c_X9_isHand M_1 h (by rw [((congrFun (congrFun eM_1 74) 8).trans (jup_ne (by decide)))]; exact h_rhands)) rfl rfl (Nat.le_of_ble_eq_true rfl) (fun r_2 M_3 h_4 => ?_)
  obtain ⟨er_2, nh_4⟩ := h_4
  refine j_eqM nh_4 ?_
  clear nh_4
  simp only [((congrFun (congrFun eM_1 74) 8).trans (jup_ne (by decide)))] at er_2
  refine j_if_eq (tgt := 39) dX9_work_10 (by decide) (fun c10_5 => ?_) (fun c10_5 => ?_)
  · skip
    refine j_iconst dX9_work_39 (by decide) ?_
    refine j_iret rfl rfl rfl rfl dX9_work_40 ?_
    exact ⟨by split <;> first | omega | grind, by rw [eM_1]⟩
  · skip
    refine j_iload_n 2 dX9_work_13 rfl rfl ?_
    refine j_callSi l_X9_166 ⟨Nat.le_of_ble_eq_true rfl, Nat.le_of_ble_eq_true rfl⟩ ⟨rfl, rfl⟩ dX9_work_14 (c_X9_isDay M_1 d) rfl rfl (Nat.le_of_ble_eq_true rfl) (fun r_6 M_7 h_8 => ?_)
    obtain ⟨er_6, nh_8⟩ := h_8
    refine j_eqM nh_8 ?_
    clear nh_8
    refine j_if_eq (tgt := 39) dX9_work_17 (by decide) (fun c17_9 => ?_) (fun c17_9 => ?_)
    · skip
      refine j_iconst dX9_work_39 (by decide) ?_
      refine j_iret rfl rfl rfl rfl dX9_work_40 ?_
      exact ⟨by split <;> first | omega | grind, by rw [eM_1]⟩
    · skip
      refine j_iload_n 3 dX9_work_20 rfl rfl ?_
      refine j_iconst dX9_work_21 (by decide) ?_
      refine j_iconst dX9_work_22 (by decide) ?_
      refine j_callSi l_X9_137 ⟨Nat.le_of_ble_eq_true rfl, Nat.le_of_ble_eq_true rfl⟩ ⟨rfl, rfl⟩ dX9_work_23 (c_X9_in M_1 w 0 2) rfl rfl (Nat.le_of_ble_eq_true rfl) (fun r_10 M_11 h_12 => ?_)
      obtain ⟨er_10, nh_12⟩ := h_12
      refine j_eqM nh_12 ?_
      clear nh_12
      refine j_if_eq (tgt := 39) dX9_work_26 (by decide) (fun c26_13 => ?_) (fun c26_13 => ?_)
      · skip
        refine j_iconst dX9_work_39 (by decide) ?_
        refine j_iret rfl rfl rfl rfl dX9_work_40 ?_
        exact ⟨by split <;> first | omega | grind, by rw [eM_1]⟩
      · skip
        refine j_aload_n 0 dX9_work_29 rfl rfl ?_
        refine j_iload_n 1 dX9_work_30 rfl rfl ?_
        refine j_iload_n 2 dX9_work_31 rfl rfl ?_
        refine j_iload_n 3 dX9_work_32 rfl rfl ?_
        refine j_callVi l_X9_293 ⟨Nat.le_of_ble_eq_true rfl, Nat.le_of_ble_eq_true rfl⟩ ⟨rfl, rfl⟩ dX9_work_33 ob_74 (c_X9_workOf M_1 h d w (by rw [((congrFun (congrFun eM_1 74) 27).trans (jup_ne (by decide)))]; exact h_rlines) (by rw [((congrFun eM_1 94).trans (jup_cell (by decide)))]; exact h_rchecks) (by rw [((congrFun eM_1 96).trans (jup_cell (by decide)))]; exact h_rcerr) (by rw [((congrFun eM_1 91).trans (jup_cell (by decide)))]; exact h_rlwhere) (by rw [((congrFun eM_1 92).trans (jup_cell (by decide)))]; exact h_rlin) (by rw [((congrFun eM_1 93).trans (jup_cell (by decide)))]; exact h_rlout) (by first | assumption | omega)) rfl rfl (Nat.le_of_ble_eq_true rfl) (fun r_14 M_15 h_16 => ?_)
        obtain ⟨er_14, nh_16⟩ := h_16
        refine j_eqM nh_16 ?_
        clear nh_16
        simp only [((congrFun eM_1 94).trans (jup_cell (by decide))), ((congrFun eM_1 95).trans (jup_cell (by decide))), ((congrFun eM_1 96).trans (jup_cell (by decide))), ((congrFun eM_1 89).trans (jup_cell (by decide))), ((congrFun eM_1 90).trans (jup_cell (by decide))), ((congrFun eM_1 91).trans (jup_cell (by decide))), ((congrFun eM_1 92).trans (jup_cell (by decide))), ((congrFun eM_1 93).trans (jup_cell (by decide))), ((congrFun (congrFun eM_1 74) 27).trans (jup_ne (by decide)))] at er_14
        refine j_goto (tgt := 40) dX9_work_36 (by decide) ?_
        refine j_iret rfl rfl rfl rfl dX9_work_40 ?_
        exact ⟨by split <;> first | omega | grind, by rw [eM_1]⟩
