abbrev q_X8_within (M : jM)  (v lo hi : Int) : Int → jM → Prop := fun r N => ((r = 1 ∧ (lo ≤ v ∧ v ≤ hi)) ∨ (r = 0 ∧ ¬ (lo ≤ v ∧ v ≤ hi))) ∧ N = M
set_option maxHeartbeats 4000000 in
set_option maxRecDepth 20000 in
theorem c_X8_within {X : jX} (M : jM)  (v lo hi : Int)  : jC yX8_within D_X8_within X FJ shJ [jI v, jI lo, jI hi] M (jqI (q_X8_within M v lo hi)) := by
  refine jC_of (by decide) rfl (fun ad => Nat.le_of_ble_eq_true rfl) (by decide) ?_
  show jG D_X8_within X FJ shJ 0 0 (jqI (q_X8_within M v lo hi)) 0 [(0, jI v), (1, jI lo), (2, jI hi)] [] M
  refine j_iload_n 0 dX8_within_0 rfl rfl ?_
  refine j_iload_n 1 dX8_within_1 rfl rfl ?_
  have hJ_1 : ∀ zz : Int, (v < lo ∧ zz = 0) ∨ (¬ (v < lo) ∧ hi < v ∧ zz = 0) ∨ (¬ (v < lo) ∧ ¬ (hi < v) ∧ zz = 1) → jG D_X8_within X FJ shJ 0 0 (jqI (q_X8_within M v lo hi)) 15 [(0, jI v), (1, jI lo), (2, jI hi)] (jI zz :: []) M := by
    intro t_2 et_2
    refine j_zret rfl rfl rfl rfl dX8_within_15 (by omega) ?_
    exact ⟨by omega, rfl⟩
  refine j_icmp_lt (tgt := 14) dX8_within_2 (by decide) (fun c2_3 => ?_) (fun c2_3 => ?_)
  · skip
    refine j_iconst dX8_within_14 (by decide) ?_
    exact hJ_1 _ (Or.inl ⟨c2_3, rfl⟩)
  · skip
    refine j_iload_n 0 dX8_within_5 rfl rfl ?_
    refine j_iload_n 2 dX8_within_6 rfl rfl ?_
    refine j_icmp_gt (tgt := 14) dX8_within_7 (by decide) (fun c7_4 => ?_) (fun c7_4 => ?_)
    · skip
      refine j_iconst dX8_within_14 (by decide) ?_
      exact hJ_1 _ (Or.inr (Or.inl ⟨c2_3, c7_4, rfl⟩))
    · skip
      refine j_iconst dX8_within_10 (by decide) ?_
      refine j_goto (tgt := 15) dX8_within_11 (by decide) ?_
      exact hJ_1 _ (Or.inr (Or.inr (⟨c2_3, c7_4, rfl⟩)))
abbrev q_X8_isDay (M : jM)  (day : Int) : Int → jM → Prop := fun r N => ((r = 1 ∧ (0 ≤ day ∧ day ≤ 359)) ∨ (r = 0 ∧ ¬ (0 ≤ day ∧ day ≤ 359))) ∧ N = M
set_option maxHeartbeats 4000000 in
set_option maxRecDepth 20000 in
theorem c_X8_isDay {X : jX} (M : jM)  (day : Int)  : jC yX8_isDay D_X8_isDay X FJ shJ [jI day] M (jqI (q_X8_isDay M day)) := by
  refine jC_of (by decide) rfl (fun ad => Nat.le_of_ble_eq_true rfl) (by decide) ?_
  show jG D_X8_isDay X FJ shJ 0 0 (jqI (q_X8_isDay M day)) 0 [(0, jI day)] [] M
  refine j_iload_n 0 dX8_isDay_0 rfl rfl ?_
  refine j_iconst dX8_isDay_1 (by decide) ?_
  refine j_sipush dX8_isDay_2 (by decide) ?_
  refine j_callSi l_X8_74 ⟨Nat.le_of_ble_eq_true rfl, Nat.le_of_ble_eq_true rfl⟩ ⟨rfl, rfl⟩ dX8_isDay_5 (c_X8_within M day 0 359) rfl rfl (Nat.le_of_ble_eq_true rfl) (fun r_1 M_2 h_3 => ?_)
  obtain ⟨er_1, nh_3⟩ := h_3
  refine j_eqM nh_3 ?_
  clear nh_3
  refine j_zret rfl rfl rfl rfl dX8_isDay_8 (by omega) ?_
  exact ⟨by omega, rfl⟩
abbrev q_X4_knows (M : jM)  (m : Int) : Int → jM → Prop := fun r N => ((r = 1 ∧ (0 ≤ m ∧ m < M 1 0)) ∨ (r = 0 ∧ ¬ (0 ≤ m ∧ m < M 1 0))) ∧ N = M
set_option maxHeartbeats 4000000 in
set_option maxRecDepth 20000 in
theorem c_X4_knows {X : jX} (M : jM)  (m : Int)  : jC yX4_knows D_X4_knows X FJ shJ [jR 1, jI m] M (jqI (q_X4_knows M m)) := by
  refine jC_of (by decide) rfl (fun ad => Nat.le_of_ble_eq_true rfl) (by decide) ?_
  show jG D_X4_knows X FJ shJ 0 0 (jqI (q_X4_knows M m)) 0 [(0, jR 1), (1, jI m)] [] M
  refine j_iload_n 1 dX4_knows_0 rfl rfl ?_
  have hJ_1 : ∀ zz : Int, (m < 0 ∧ zz = 0) ∨ (¬ (m < 0) ∧ (M 1 0) ≤ m ∧ zz = 0) ∨ (¬ (m < 0) ∧ ¬ ((M 1 0) ≤ m) ∧ zz = 1) → jG D_X4_knows X FJ shJ 0 0 (jqI (q_X4_knows M m)) 17 [(0, jR 1), (1, jI m)] (jI zz :: []) M := by
    intro t_2 et_2
    refine j_zret rfl rfl rfl rfl dX4_knows_17 (by omega) ?_
    exact ⟨by omega, rfl⟩
  refine j_if_lt (tgt := 16) dX4_knows_1 (by decide) (fun c1_3 => ?_) (fun c1_3 => ?_)
  · skip
    refine j_iconst dX4_knows_16 (by decide) ?_
    exact hJ_1 _ (Or.inl ⟨c1_3, rfl⟩)
  · skip
    refine j_iload_n 1 dX4_knows_4 rfl rfl ?_
    refine j_aload_n 0 dX4_knows_5 rfl rfl ?_
    refine j_geti (k' := 0) f_X4_33 o_1_0 dX4_knows_6 rfl ?_
    refine j_icmp_ge (tgt := 16) dX4_knows_9 (by decide) (fun c9_4 => ?_) (fun c9_4 => ?_)
    · skip
      refine j_iconst dX4_knows_16 (by decide) ?_
      exact hJ_1 _ (Or.inr (Or.inl ⟨c1_3, c9_4, rfl⟩))
    · skip
      refine j_iconst dX4_knows_12 (by decide) ?_
      refine j_goto (tgt := 17) dX4_knows_13 (by decide) ?_
      exact hJ_1 _ (Or.inr (Or.inr (⟨c1_3, c9_4, rfl⟩)))
abbrev q_X4_add (M : jM)  (a b c : Int) : Int → jM → Prop := fun r N => r = (if M 1 0 = 6 then -3 else M 1 0) ∧ N = (if M 1 0 = 6 then M else jup (jup (jup (jup M 2 (M 1 0) a) 3 (M 1 0) b) 4 (M 1 0) c) 1 0 (M 1 0 + 1))
set_option maxHeartbeats 4000000 in
set_option maxRecDepth 20000 in
theorem c_X4_add {X : jX} (M : jM)  (a b c : Int) (h_cmills : 0 ≤ M 1 0 ∧ M 1 0 ≤ 6) : jC yX4_add D_X4_add X FJ shJ [jR 1, jI a, jI b, jI c] M (jqI (q_X4_add M a b c)) := by
  refine jC_of (by decide) rfl (fun ad => Nat.le_of_ble_eq_true rfl) (by decide) ?_
  show jG D_X4_add X FJ shJ 0 0 (jqI (q_X4_add M a b c)) 0 [(0, jR 1), (1, jI a), (2, jI b), (3, jI c)] [] M
  refine j_aload_n 0 dX4_add_0 rfl rfl ?_
  refine j_geti (k' := 0) f_X4_33 o_1_0 dX4_add_1 rfl ?_
  refine j_bipush dX4_add_4 (by decide) ?_
  refine j_icmp_ne (tgt := 12) dX4_add_6 (by decide) (fun c6_1 => ?_) (fun c6_1 => ?_)
  · skip
    refine j_aload_n 0 dX4_add_12 rfl rfl ?_
    refine j_getr f_X4_11 r_1_1 dX4_add_13 ?_
    refine j_aload_n 0 dX4_add_16 rfl rfl ?_
    refine j_geti (k' := 0) f_X4_33 o_1_0 dX4_add_17 rfl ?_
    refine j_iload_n 1 dX4_add_20 rfl rfl ?_
    refine j_iast a_2 dX4_add_21 (by omega) (by omega) ?_
    refine j_nmM (fun M_2 eM_2 => ?_)
    refine j_aload_n 0 dX4_add_22 rfl rfl ?_
    refine j_getr f_X4_15 r_1_2 dX4_add_23 ?_
    refine j_aload_n 0 dX4_add_26 rfl rfl ?_
    refine j_geti (k' := 0) f_X4_33 o_1_0 dX4_add_27 rfl ?_
    refine j_eq (congrFun ((congrFun eM_2 1).trans (jup_cell (by decide))) 0) ?_
    refine j_iload_n 2 dX4_add_30 rfl rfl ?_
    refine j_iast a_3 dX4_add_31 (by omega) (by omega) ?_
    refine j_nmM (fun M_3 eM_3 => ?_)
    refine j_aload_n 0 dX4_add_32 rfl rfl ?_
    refine j_getr f_X4_18 r_1_3 dX4_add_33 ?_
    refine j_aload_n 0 dX4_add_36 rfl rfl ?_
    refine j_geti (k' := 0) f_X4_33 o_1_0 dX4_add_37 rfl ?_
    refine j_eq (Eq.trans (congrFun ((congrFun eM_3 1).trans (jup_cell (by decide))) 0) (congrFun ((congrFun eM_2 1).trans (jup_cell (by decide))) 0)) ?_
    refine j_iload_n 3 dX4_add_40 rfl rfl ?_
    refine j_iast a_4 dX4_add_41 (by omega) (by omega) ?_
    refine j_nmM (fun M_4 eM_4 => ?_)
    refine j_aload_n 0 dX4_add_42 rfl rfl ?_
    refine j_dup dX4_add_43 rfl ?_
    refine j_geti (k' := 0) f_X4_33 o_1_0 dX4_add_44 rfl ?_
    refine j_eq (Eq.trans (congrFun ((congrFun eM_4 1).trans (jup_cell (by decide))) 0) (Eq.trans (congrFun ((congrFun eM_3 1).trans (jup_cell (by decide))) 0) (congrFun ((congrFun eM_2 1).trans (jup_cell (by decide))) 0))) ?_
    refine j_dup_x1 dX4_add_47 rfl rfl ?_
    refine j_iconst dX4_add_48 (by decide) ?_
    refine j_iadd dX4_add_49 (by omega) ?_
    refine j_puti (k' := 0) f_X4_33 o_1_0 dX4_add_50 rfl ?_
    refine j_nmM (fun M_5 eM_5 => ?_)
    refine j_iret rfl rfl rfl rfl dX4_add_53 ?_
    refine ⟨by (repeat' split) <;> omega, ?_⟩
    first | (rw [if_pos (by omega), eM_5, eM_4, eM_3, eM_2]; done) | (rw [if_neg (by omega), eM_5, eM_4, eM_3, eM_2]; done) | (rw [if_pos (by omega)]; done) | (rw [if_neg (by omega)]; done) | (rw [if_neg (by omega), eM_5, eM_4, eM_3, eM_2, jup_zz]; done)
  · skip
    refine j_bipush dX4_add_9 (by decide) ?_
    refine j_iret rfl rfl rfl rfl dX4_add_11 ?_
    refine ⟨by (repeat' split) <;> omega, ?_⟩
    first | (rw [if_pos (by omega), jup_zz]; done) | (rw [if_neg (by omega), jup_zz]; done) | (rw [if_pos (by omega)]; done) | (rw [if_neg (by omega)]; done) | (rw [if_neg (by omega), jup_zz, jup_zz]; done)
abbrev q_X4_addCheck (M : jM)  (m t e : Int) : Int → jM → Prop := fun r N => r = (if M 6 m = 4 then -3 else M 6 m + 1) ∧ N = (if M 6 m = 4 then M else jup (jup (jup M 7 (m * 4 + M 6 m) t) 8 (m * 4 + M 6 m) e) 6 m (M 6 m + 1))
set_option maxHeartbeats 4000000 in
set_option maxRecDepth 20000 in
theorem c_X4_addCheck {X : jX} (M : jM)  (m t e : Int) (h_cchecks : ∀ i, 0 ≤ M 6 i ∧ M 6 i ≤ 4) (h0 : 0 ≤ m ∧ m < 6) : jC yX4_addCheck D_X4_addCheck X FJ shJ [jR 1, jI m, jI t, jI e] M (jqI (q_X4_addCheck M m t e)) := by
  refine jC_of (by decide) rfl (fun ad => Nat.le_of_ble_eq_true rfl) (by decide) ?_
  show jG D_X4_addCheck X FJ shJ 0 0 (jqI (q_X4_addCheck M m t e)) 0 [(0, jR 1), (1, jI m), (2, jI t), (3, jI e)] [] M
  refine j_aload_n 0 dX4_addCheck_0 rfl rfl ?_
  refine j_getr f_X4_24 r_1_5 dX4_addCheck_1 ?_
  refine j_iload_n 1 dX4_addCheck_4 rfl rfl ?_
  refine j_iald a_6 dX4_addCheck_5 (by omega) (by omega) ?_
  have g_1 := h_cchecks m
  refine j_iconst dX4_addCheck_6 (by decide) ?_
  refine j_icmp_ne (tgt := 13) dX4_addCheck_7 (by decide) (fun c7_2 => ?_) (fun c7_2 => ?_)
  · skip
    refine j_iload_n 1 dX4_addCheck_13 rfl rfl ?_
    refine j_iconst dX4_addCheck_14 (by decide) ?_
    refine j_imul dX4_addCheck_15 (by omega) ?_
    refine j_aload_n 0 dX4_addCheck_16 rfl rfl ?_
    refine j_getr f_X4_24 r_1_5 dX4_addCheck_17 ?_
    refine j_iload_n 1 dX4_addCheck_20 rfl rfl ?_
    refine j_iald a_6 dX4_addCheck_21 (by omega) (by omega) ?_
    have g_3 := h_cchecks m
    refine j_iadd dX4_addCheck_22 (by omega) ?_
    refine j_nm (fun v4_4 ev4_4 => ?_)
    refine j_istore (ls' := [(0, jR 1), (1, jI m), (2, jI t), (3, jI e), (4, jI v4_4)]) dX4_addCheck_23 (by decide) rfl ?_
    refine j_aload_n 0 dX4_addCheck_25 rfl rfl ?_
    refine j_getr f_X4_27 r_1_6 dX4_addCheck_26 ?_
    refine j_iload 4 dX4_addCheck_29 rfl ?_
    refine j_iload_n 2 dX4_addCheck_31 rfl rfl ?_
    refine j_iast a_7 dX4_addCheck_32 (by omega) (by omega) ?_
    refine j_nmM (fun M_5 eM_5 => ?_)
    refine j_aload_n 0 dX4_addCheck_33 rfl rfl ?_
    refine j_getr f_X4_30 r_1_7 dX4_addCheck_34 ?_
    refine j_iload 4 dX4_addCheck_37 rfl ?_
    refine j_iload_n 3 dX4_addCheck_39 rfl rfl ?_
    refine j_iast a_8 dX4_addCheck_40 (by omega) (by omega) ?_
    refine j_nmM (fun M_6 eM_6 => ?_)
    refine j_aload_n 0 dX4_addCheck_41 rfl rfl ?_
    refine j_getr f_X4_24 r_1_5 dX4_addCheck_42 ?_
    refine j_iload_n 1 dX4_addCheck_45 rfl rfl ?_
    refine j_dup2 dX4_addCheck_46 rfl rfl ?_
    refine j_iald a_6 dX4_addCheck_47 (by omega) (by omega) ?_
    refine j_eq (Eq.trans (congrFun ((congrFun eM_6 6).trans (jup_cell (by decide))) m) (congrFun ((congrFun eM_5 6).trans (jup_cell (by decide))) m)) ?_
    have g_7 := h_cchecks m
    refine j_iconst dX4_addCheck_48 (by decide) ?_
    refine j_iadd dX4_addCheck_49 (by omega) ?_
    refine j_iast a_6 dX4_addCheck_50 (by omega) (by omega) ?_
    refine j_nmM (fun M_8 eM_8 => ?_)
    refine j_aload_n 0 dX4_addCheck_51 rfl rfl ?_
    refine j_getr f_X4_24 r_1_5 dX4_addCheck_52 ?_
    refine j_iload_n 1 dX4_addCheck_55 rfl rfl ?_
    refine j_iald a_6 dX4_addCheck_56 (by omega) (by omega) ?_
    refine j_eq ((congrFun (congrFun eM_8 6) m).trans (jup_self _ _ _ _)) ?_
    refine j_iret rfl rfl rfl rfl dX4_addCheck_57 ?_
    refine ⟨by (repeat' split) <;> omega, ?_⟩
    first | (rw [if_pos (by omega), eM_8, eM_6, eM_5]; done) | (rw [if_neg (by omega), eM_8, eM_6, eM_5]; done) | (rw [if_pos (by omega)]; done) | (rw [if_neg (by omega)]; done) | (rw [if_neg (by omega), eM_8, eM_6, eM_5, ev4_4]; done)
  · skip
    refine j_bipush dX4_addCheck_10 (by decide) ?_
    refine j_iret rfl rfl rfl rfl dX4_addCheck_12 ?_
    refine ⟨by (repeat' split) <;> omega, ?_⟩
    first | (rw [if_pos (by omega), jup_zz]; done) | (rw [if_neg (by omega), jup_zz]; done) | (rw [if_pos (by omega)]; done) | (rw [if_neg (by omega)]; done) | (rw [if_neg (by omega), jup_zz, jup_zz]; done)
abbrev q_X4_checkAhead (M : jM)  (m t : Int) : Int → jM → Prop := fun r N => r = tAhead (M 7) (4 * m) t (M 6 m).toNat ∧ N = M
set_option maxHeartbeats 4000000 in
set_option maxRecDepth 20000 in
theorem c_X4_checkAhead {X : jX} (M : jM)  (m t : Int) (h_cchecks : ∀ i, 0 ≤ M 6 i ∧ M 6 i ≤ 4) (h0 : 0 ≤ m ∧ m < 6) : jC yX4_checkAhead D_X4_checkAhead X FJ shJ [jR 1, jI m, jI t] M (jqI (q_X4_checkAhead M m t)) := by
  refine jC_of (by decide) rfl (fun ad => Nat.le_of_ble_eq_true rfl) (by decide) ?_
  show jG D_X4_checkAhead X FJ shJ 0 0 (jqI (q_X4_checkAhead M m t)) 0 [(0, jR 1), (1, jI m), (2, jI t)] [] M
  refine j_bipush dX4_checkAhead_0 (by decide) ?_
  refine j_istore_n (ls' := [(0, jR 1), (1, jI m), (2, jI t), (3, jI (-9))]) dX4_checkAhead_2 rfl (by decide) rfl ?_
  refine j_iload_n 1 dX4_checkAhead_3 rfl rfl ?_
  refine j_iconst dX4_checkAhead_4 (by decide) ?_
  refine j_imul dX4_checkAhead_5 (by omega) ?_
  refine j_nm (fun v4_1 ev4_1 => ?_)
  refine j_istore (ls' := [(0, jR 1), (1, jI m), (2, jI t), (3, jI (-9)), (4, jI v4_1)]) dX4_checkAhead_6 (by decide) rfl ?_
  refine j_iload 4 dX4_checkAhead_8 rfl ?_
  refine j_istore (ls' := [(0, jR 1), (1, jI m), (2, jI t), (3, jI (-9)), (4, jI v4_1), (5, jI v4_1)]) dX4_checkAhead_10 (by decide) rfl ?_
  have lp12_2 : ∀ n12 : Nat, ∀ (v3 v5 : Int), (4 * m ≤ v5 ∧ v5 ≤ 4 * m + M 6 m) ∧ (v3 = tAhead (M 7) (4 * m) t (v5 - 4 * m).toNat) → (4 * m + M 6 m - v5).toNat < n12 → jG D_X4_checkAhead X FJ shJ 0 0 (jqI (q_X4_checkAhead M m t)) 12 [(0, jR 1), (1, jI m), (2, jI t), (3, jI v3), (4, jI v4_1), (5, jI v5)] ([]) M := by
    intro n12
    induction n12 with
    | zero => intro v3 v5  _ hz; exact absurd hz (Nat.not_lt_zero _)
    | succ n12 ih12 =>
      intro v3 v5  hinv hm
      obtain ⟨h1, h3⟩ := hinv
      have hcm := h_cchecks m
      have q3 := tAhead_in (M 7) (4 * m) t (v5 - 4 * m).toNat
      rw [← h3] at q3
      have e9 : (v5 + 1 - 4 * m).toNat = (v5 - 4 * m).toNat + 1 := by omega
      have e8 : 4 * m + ((v5 - 4 * m).toNat : Int) = v5 := by omega
      refine j_iload 5 dX4_checkAhead_12 rfl ?_
      refine j_iload 4 dX4_checkAhead_14 rfl ?_
      refine j_aload_n 0 dX4_checkAhead_16 rfl rfl ?_
      refine j_getr f_X4_24 r_1_5 dX4_checkAhead_17 ?_
      refine j_iload_n 1 dX4_checkAhead_20 rfl rfl ?_
      refine j_iald a_6 dX4_checkAhead_21 (by omega) (by omega) ?_
      have g_3 := h_cchecks m
      refine j_iadd dX4_checkAhead_22 (by omega) ?_
      refine j_icmp_ge (tgt := 68) dX4_checkAhead_23 (by decide) (fun c23_4 => ?_) (fun c23_4 => ?_)
      · skip
        refine j_iload_n 3 dX4_checkAhead_68 rfl rfl ?_
        refine j_iret rfl rfl rfl rfl dX4_checkAhead_69 ?_
        have e6 : (v5 - 4 * m).toNat = (M 6 m).toNat := by omega
        rw [e6] at h3
        exact ⟨h3, rfl⟩
      · skip
        refine j_aload_n 0 dX4_checkAhead_26 rfl rfl ?_
        refine j_getr f_X4_27 r_1_6 dX4_checkAhead_27 ?_
        refine j_iload 5 dX4_checkAhead_30 rfl ?_
        refine j_iald a_7 dX4_checkAhead_32 (by omega) (by omega) ?_
        refine j_iload_n 2 dX4_checkAhead_33 rfl rfl ?_
        refine j_icmp_gt (tgt := 62) dX4_checkAhead_34 (by decide) (fun c34_5 => ?_) (fun c34_5 => ?_)
        · skip
          obtain ⟨v5_6, ev5_6⟩ : ∃ y : Int, y = v5 + 1 := ⟨_, rfl⟩
          refine j_iinc (y := v5_6) (ls' := [(0, jR 1), (1, jI m), (2, jI t), (3, jI v3), (4, jI v4_1), (5, jI v5_6)]) 5 dX4_checkAhead_62 rfl ev5_6 (by omega) (by decide) rfl ?_
          refine j_goto (tgt := 12) dX4_checkAhead_65 (by decide) ?_
          exact ih12 v3 v5_6 ⟨by first | omega | grind, by rw [ev5_6, e9]; unfold tAhead; rw [← h3, e8]; grind⟩ (by omega)
        · skip
          refine j_iload_n 3 dX4_checkAhead_37 rfl rfl ?_
          refine j_bipush dX4_checkAhead_38 (by decide) ?_
          refine j_icmp_eq (tgt := 59) dX4_checkAhead_40 (by decide) (fun c40_7 => ?_) (fun c40_7 => ?_)
          · skip
            refine j_iload 5 dX4_checkAhead_59 rfl ?_
            refine j_istore_n (ls' := [(0, jR 1), (1, jI m), (2, jI t), (3, jI v5), (4, jI v4_1), (5, jI v5)]) dX4_checkAhead_61 rfl (by decide) rfl ?_
            obtain ⟨v5_8, ev5_8⟩ : ∃ y : Int, y = v5 + 1 := ⟨_, rfl⟩
            refine j_iinc (y := v5_8) (ls' := [(0, jR 1), (1, jI m), (2, jI t), (3, jI v5), (4, jI v4_1), (5, jI v5_8)]) 5 dX4_checkAhead_62 rfl ev5_8 (by omega) (by decide) rfl ?_
            refine j_goto (tgt := 12) dX4_checkAhead_65 (by decide) ?_
            exact ih12 v5 v5_8 ⟨by first | omega | grind, by rw [ev5_8, e9]; unfold tAhead; rw [← h3, e8]; grind⟩ (by omega)
          · skip
            refine j_aload_n 0 dX4_checkAhead_43 rfl rfl ?_
            refine j_getr f_X4_27 r_1_6 dX4_checkAhead_44 ?_
            refine j_iload 5 dX4_checkAhead_47 rfl ?_
            refine j_iald a_7 dX4_checkAhead_49 (by omega) (by omega) ?_
            refine j_aload_n 0 dX4_checkAhead_50 rfl rfl ?_
            refine j_getr f_X4_27 r_1_6 dX4_checkAhead_51 ?_
            refine j_iload_n 3 dX4_checkAhead_54 rfl rfl ?_
            refine j_iald a_7 dX4_checkAhead_55 (by omega) (by omega) ?_
            refine j_icmp_lt (tgt := 62) dX4_checkAhead_56 (by decide) (fun c56_9 => ?_) (fun c56_9 => ?_)
            · skip
              obtain ⟨v5_10, ev5_10⟩ : ∃ y : Int, y = v5 + 1 := ⟨_, rfl⟩
              refine j_iinc (y := v5_10) (ls' := [(0, jR 1), (1, jI m), (2, jI t), (3, jI v3), (4, jI v4_1), (5, jI v5_10)]) 5 dX4_checkAhead_62 rfl ev5_10 (by omega) (by decide) rfl ?_
              refine j_goto (tgt := 12) dX4_checkAhead_65 (by decide) ?_
              exact ih12 v3 v5_10 ⟨by first | omega | grind, by rw [ev5_10, e9]; unfold tAhead; rw [← h3, e8]; grind⟩ (by omega)
            · skip
              refine j_iload 5 dX4_checkAhead_59 rfl ?_
              refine j_istore_n (ls' := [(0, jR 1), (1, jI m), (2, jI t), (3, jI v5), (4, jI v4_1), (5, jI v5)]) dX4_checkAhead_61 rfl (by decide) rfl ?_
              obtain ⟨v5_11, ev5_11⟩ : ∃ y : Int, y = v5 + 1 := ⟨_, rfl⟩
              refine j_iinc (y := v5_11) (ls' := [(0, jR 1), (1, jI m), (2, jI t), (3, jI v5), (4, jI v4_1), (5, jI v5_11)]) 5 dX4_checkAhead_62 rfl ev5_11 (by omega) (by decide) rfl ?_
              refine j_goto (tgt := 12) dX4_checkAhead_65 (by decide) ?_
              exact ih12 v5 v5_11 ⟨by first | omega | grind, by rw [ev5_11, e9]; unfold tAhead; rw [← h3, e8]; grind⟩ (by omega)
  exact lp12_2 _ (-9) v4_1 ⟨by have := h_cchecks m; omega, by rw [show (v4_1 - 4 * m).toNat = 0 by omega]; rfl⟩ (Nat.lt_succ_self _)
abbrev q_X4_checkBehind (M : jM)  (m t : Int) : Int → jM → Prop := fun r N => r = tBehind (M 7) (4 * m) t (M 6 m).toNat ∧ N = M
set_option maxHeartbeats 4000000 in
set_option maxRecDepth 20000 in
theorem c_X4_checkBehind {X : jX} (M : jM)  (m t : Int) (h_cchecks : ∀ i, 0 ≤ M 6 i ∧ M 6 i ≤ 4) (h0 : 0 ≤ m ∧ m < 6) : jC yX4_checkBehind D_X4_checkBehind X FJ shJ [jR 1, jI m, jI t] M (jqI (q_X4_checkBehind M m t)) := by
  refine jC_of (by decide) rfl (fun ad => Nat.le_of_ble_eq_true rfl) (by decide) ?_
  show jG D_X4_checkBehind X FJ shJ 0 0 (jqI (q_X4_checkBehind M m t)) 0 [(0, jR 1), (1, jI m), (2, jI t)] [] M
  refine j_bipush dX4_checkBehind_0 (by decide) ?_
  refine j_istore_n (ls' := [(0, jR 1), (1, jI m), (2, jI t), (3, jI (-9))]) dX4_checkBehind_2 rfl (by decide) rfl ?_
  refine j_iload_n 1 dX4_checkBehind_3 rfl rfl ?_
  refine j_iconst dX4_checkBehind_4 (by decide) ?_
  refine j_imul dX4_checkBehind_5 (by omega) ?_
  refine j_nm (fun v4_1 ev4_1 => ?_)
  refine j_istore (ls' := [(0, jR 1), (1, jI m), (2, jI t), (3, jI (-9)), (4, jI v4_1)]) dX4_checkBehind_6 (by decide) rfl ?_
  refine j_iload 4 dX4_checkBehind_8 rfl ?_
  refine j_istore (ls' := [(0, jR 1), (1, jI m), (2, jI t), (3, jI (-9)), (4, jI v4_1), (5, jI v4_1)]) dX4_checkBehind_10 (by decide) rfl ?_
  have lp12_2 : ∀ n12 : Nat, ∀ (v3 v5 : Int), (4 * m ≤ v5 ∧ v5 ≤ 4 * m + M 6 m) ∧ (v3 = tBehind (M 7) (4 * m) t (v5 - 4 * m).toNat) → (4 * m + M 6 m - v5).toNat < n12 → jG D_X4_checkBehind X FJ shJ 0 0 (jqI (q_X4_checkBehind M m t)) 12 [(0, jR 1), (1, jI m), (2, jI t), (3, jI v3), (4, jI v4_1), (5, jI v5)] ([]) M := by
    intro n12
    induction n12 with
    | zero => intro v3 v5  _ hz; exact absurd hz (Nat.not_lt_zero _)
    | succ n12 ih12 =>
      intro v3 v5  hinv hm
      obtain ⟨h1, h3⟩ := hinv
      have hcm := h_cchecks m
      have q3 := tBehind_in (M 7) (4 * m) t (v5 - 4 * m).toNat
      rw [← h3] at q3
      have e9 : (v5 + 1 - 4 * m).toNat = (v5 - 4 * m).toNat + 1 := by omega
      have e8 : 4 * m + ((v5 - 4 * m).toNat : Int) = v5 := by omega
      refine j_iload 5 dX4_checkBehind_12 rfl ?_
      refine j_iload 4 dX4_checkBehind_14 rfl ?_
      refine j_aload_n 0 dX4_checkBehind_16 rfl rfl ?_
      refine j_getr f_X4_24 r_1_5 dX4_checkBehind_17 ?_
      refine j_iload_n 1 dX4_checkBehind_20 rfl rfl ?_
      refine j_iald a_6 dX4_checkBehind_21 (by omega) (by omega) ?_
      have g_3 := h_cchecks m
      refine j_iadd dX4_checkBehind_22 (by omega) ?_
      refine j_icmp_ge (tgt := 68) dX4_checkBehind_23 (by decide) (fun c23_4 => ?_) (fun c23_4 => ?_)
      · skip
        refine j_iload_n 3 dX4_checkBehind_68 rfl rfl ?_
        refine j_iret rfl rfl rfl rfl dX4_checkBehind_69 ?_
        have e6 : (v5 - 4 * m).toNat = (M 6 m).toNat := by omega
        rw [e6] at h3
        exact ⟨h3, rfl⟩
      · skip
        refine j_aload_n 0 dX4_checkBehind_26 rfl rfl ?_
        refine j_getr f_X4_27 r_1_6 dX4_checkBehind_27 ?_
        refine j_iload 5 dX4_checkBehind_30 rfl ?_
        refine j_iald a_7 dX4_checkBehind_32 (by omega) (by omega) ?_
        refine j_iload_n 2 dX4_checkBehind_33 rfl rfl ?_
        refine j_icmp_lt (tgt := 62) dX4_checkBehind_34 (by decide) (fun c34_5 => ?_) (fun c34_5 => ?_)
        · skip
          obtain ⟨v5_6, ev5_6⟩ : ∃ y : Int, y = v5 + 1 := ⟨_, rfl⟩
          refine j_iinc (y := v5_6) (ls' := [(0, jR 1), (1, jI m), (2, jI t), (3, jI v3), (4, jI v4_1), (5, jI v5_6)]) 5 dX4_checkBehind_62 rfl ev5_6 (by omega) (by decide) rfl ?_
          refine j_goto (tgt := 12) dX4_checkBehind_65 (by decide) ?_
          exact ih12 v3 v5_6 ⟨by first | omega | grind, by rw [ev5_6, e9]; unfold tBehind; rw [← h3, e8]; grind⟩ (by omega)
        · skip
          refine j_iload_n 3 dX4_checkBehind_37 rfl rfl ?_
          refine j_bipush dX4_checkBehind_38 (by decide) ?_
          refine j_icmp_eq (tgt := 59) dX4_checkBehind_40 (by decide) (fun c40_7 => ?_) (fun c40_7 => ?_)
          · skip
            refine j_iload 5 dX4_checkBehind_59 rfl ?_
            refine j_istore_n (ls' := [(0, jR 1), (1, jI m), (2, jI t), (3, jI v5), (4, jI v4_1), (5, jI v5)]) dX4_checkBehind_61 rfl (by decide) rfl ?_
            obtain ⟨v5_8, ev5_8⟩ : ∃ y : Int, y = v5 + 1 := ⟨_, rfl⟩
            refine j_iinc (y := v5_8) (ls' := [(0, jR 1), (1, jI m), (2, jI t), (3, jI v5), (4, jI v4_1), (5, jI v5_8)]) 5 dX4_checkBehind_62 rfl ev5_8 (by omega) (by decide) rfl ?_
            refine j_goto (tgt := 12) dX4_checkBehind_65 (by decide) ?_
            exact ih12 v5 v5_8 ⟨by first | omega | grind, by rw [ev5_8, e9]; unfold tBehind; rw [← h3, e8]; grind⟩ (by omega)
          · skip
            refine j_aload_n 0 dX4_checkBehind_43 rfl rfl ?_
            refine j_getr f_X4_27 r_1_6 dX4_checkBehind_44 ?_
            refine j_iload 5 dX4_checkBehind_47 rfl ?_
            refine j_iald a_7 dX4_checkBehind_49 (by omega) (by omega) ?_
            refine j_aload_n 0 dX4_checkBehind_50 rfl rfl ?_
            refine j_getr f_X4_27 r_1_6 dX4_checkBehind_51 ?_
            refine j_iload_n 3 dX4_checkBehind_54 rfl rfl ?_
            refine j_iald a_7 dX4_checkBehind_55 (by omega) (by omega) ?_
            refine j_icmp_gt (tgt := 62) dX4_checkBehind_56 (by decide) (fun c56_9 => ?_) (fun c56_9 => ?_)
            · skip
              obtain ⟨v5_10, ev5_10⟩ : ∃ y : Int, y = v5 + 1 := ⟨_, rfl⟩
              refine j_iinc (y := v5_10) (ls' := [(0, jR 1), (1, jI m), (2, jI t), (3, jI v3), (4, jI v4_1), (5, jI v5_10)]) 5 dX4_checkBehind_62 rfl ev5_10 (by omega) (by decide) rfl ?_
              refine j_goto (tgt := 12) dX4_checkBehind_65 (by decide) ?_
              exact ih12 v3 v5_10 ⟨by first | omega | grind, by rw [ev5_10, e9]; unfold tBehind; rw [← h3, e8]; grind⟩ (by omega)
            · skip
              refine j_iload 5 dX4_checkBehind_59 rfl ?_
              refine j_istore_n (ls' := [(0, jR 1), (1, jI m), (2, jI t), (3, jI v5), (4, jI v4_1), (5, jI v5)]) dX4_checkBehind_61 rfl (by decide) rfl ?_
              obtain ⟨v5_11, ev5_11⟩ : ∃ y : Int, y = v5 + 1 := ⟨_, rfl⟩
              refine j_iinc (y := v5_11) (ls' := [(0, jR 1), (1, jI m), (2, jI t), (3, jI v5), (4, jI v4_1), (5, jI v5_11)]) 5 dX4_checkBehind_62 rfl ev5_11 (by omega) (by decide) rfl ?_
              refine j_goto (tgt := 12) dX4_checkBehind_65 (by decide) ?_
              exact ih12 v5 v5_11 ⟨by first | omega | grind, by rw [ev5_11, e9]; unfold tBehind; rw [← h3, e8]; grind⟩ (by omega)
  exact lp12_2 _ (-9) v4_1 ⟨by have := h_cchecks m; omega, by rw [show (v4_1 - 4 * m).toNat = 0 by omega]; rfl⟩ (Nat.lt_succ_self _)
abbrev q_X4_inTruth (M : jM)  (m t g : Int) : Int → jM → Prop := fun r N => r = fTruth (M 6) (M 7) (M 8) m t g ∧ N = M
set_option maxHeartbeats 4000000 in
set_option maxRecDepth 20000 in
theorem c_X4_inTruth {X : jX} (M : jM)  (m t g : Int) (h_cchecks : ∀ i, 0 ≤ M 6 i ∧ M 6 i ≤ 4) (h_ccerr : ∀ i, -90 ≤ M 8 i ∧ M 8 i ≤ 90) (h0 : m = -9 ∨ (0 ≤ m ∧ m < 6)) (ht : 0 ≤ t ∧ t ≤ 1440) : jC yX4_inTruth D_X4_inTruth X FJ shJ [jR 1, jI m, jI t, jI g] M (jqI (q_X4_inTruth M m t g)) := by
  refine jC_of (by decide) rfl (fun ad => Nat.le_of_ble_eq_true rfl) (by decide) ?_
  show jG D_X4_inTruth X FJ shJ 0 0 (jqI (q_X4_inTruth M m t g)) 0 [(0, jR 1), (1, jI m), (2, jI t), (3, jI g)] [] M
  have q1 := tAhead_in (M 7) (4 * m) t (M 6 m).toNat
  have q2 := tBehind_in (M 7) (4 * m) t (M 6 m).toNat
  have q3 := h_cchecks m
  refine j_iload_n 1 dX4_inTruth_0 rfl rfl ?_
  refine j_bipush dX4_inTruth_1 (by decide) ?_
  refine j_icmp_ne (tgt := 8) dX4_inTruth_3 (by decide) (fun c3_1 => ?_) (fun c3_1 => ?_)
  · skip
    refine j_aload_n 0 dX4_inTruth_8 rfl rfl ?_
    refine j_iload_n 1 dX4_inTruth_9 rfl rfl ?_
    refine j_iload_n 2 dX4_inTruth_10 rfl rfl ?_
    refine j_callVi l_X4_37 ⟨Nat.le_of_ble_eq_true rfl, Nat.le_of_ble_eq_true rfl⟩ ⟨rfl, rfl⟩ dX4_inTruth_11 ob_1 (c_X4_checkAhead M m t h_cchecks (by first | assumption | omega)) rfl rfl (Nat.le_of_ble_eq_true rfl) (fun r_2 M_3 h_4 => ?_)
    obtain ⟨er_2, nh_4⟩ := h_4
    refine j_eqM nh_4 ?_
    clear nh_4
    refine j_istore (ls' := [(0, jR 1), (1, jI m), (2, jI t), (3, jI g), (4, jI r_2)]) dX4_inTruth_14 (by decide) rfl ?_
    refine j_aload_n 0 dX4_inTruth_16 rfl rfl ?_
    refine j_iload_n 1 dX4_inTruth_17 rfl rfl ?_
    refine j_iload_n 2 dX4_inTruth_18 rfl rfl ?_
    refine j_callVi l_X4_41 ⟨Nat.le_of_ble_eq_true rfl, Nat.le_of_ble_eq_true rfl⟩ ⟨rfl, rfl⟩ dX4_inTruth_19 ob_1 (c_X4_checkBehind M m t h_cchecks (by first | assumption | omega)) rfl rfl (Nat.le_of_ble_eq_true rfl) (fun r_5 M_6 h_7 => ?_)
    obtain ⟨er_5, nh_7⟩ := h_7
    refine j_eqM nh_7 ?_
    clear nh_7
    refine j_istore (ls' := [(0, jR 1), (1, jI m), (2, jI t), (3, jI g), (4, jI r_2), (5, jI r_5)]) dX4_inTruth_22 (by decide) rfl ?_
    refine j_iload 4 dX4_inTruth_24 rfl ?_
    refine j_bipush dX4_inTruth_26 (by decide) ?_
    refine j_icmp_ne (tgt := 40) dX4_inTruth_28 (by decide) (fun c28_8 => ?_) (fun c28_8 => ?_)
    · skip
      refine j_iload 4 dX4_inTruth_40 rfl ?_
      refine j_bipush dX4_inTruth_42 (by decide) ?_
      refine j_icmp_eq (tgt := 54) dX4_inTruth_44 (by decide) (fun c44_9 => ?_) (fun c44_9 => ?_)
      · skip
        refine j_aload_n 0 dX4_inTruth_54 rfl rfl ?_
        refine j_getr f_X4_30 r_1_7 dX4_inTruth_55 ?_
        refine j_iload 4 dX4_inTruth_58 rfl ?_
        refine j_bipush dX4_inTruth_60 (by decide) ?_
        have hJ_10 : ∀ zz : Int, (¬ r_2 = (-9) ∧ zz = r_2) ∨ (r_2 = (-9) ∧ zz = r_5) → jG D_X4_inTruth X FJ shJ 0 0 (jqI (q_X4_inTruth M m t g)) 72 [(0, jR 1), (1, jI m), (2, jI t), (3, jI g), (4, jI r_2), (5, jI r_5)] (jI zz :: jR 8 :: []) M := by
          intro t_11 et_11
          refine j_iald a_8 dX4_inTruth_72 (by omega) (by omega) ?_
          have g_12 := h_ccerr t_11
          refine j_nm (fun v6_13 ev6_13 => ?_)
          refine j_istore (ls' := [(0, jR 1), (1, jI m), (2, jI t), (3, jI g), (4, jI r_2), (5, jI r_5), (6, jI v6_13)]) dX4_inTruth_73 (by decide) rfl ?_
          refine j_iload_n 2 dX4_inTruth_75 rfl rfl ?_
          refine j_iload 6 dX4_inTruth_76 rfl ?_
          refine j_iadd dX4_inTruth_78 (by omega) ?_
          refine j_iload_n 3 dX4_inTruth_79 rfl rfl ?_
          have hJ_14 : ∀ zz : Int, (g = 0 ∧ zz = (-10)) ∨ (¬ g = 0 ∧ zz = 10) → jG D_X4_inTruth X FJ shJ 0 0 (jqI (q_X4_inTruth M m t g)) 90 [(0, jR 1), (1, jI m), (2, jI t), (3, jI g), (4, jI r_2), (5, jI r_5), (6, jI v6_13)] (jI zz :: jI (t + v6_13) :: []) M := by
            intro t_15 et_15
            refine j_iadd dX4_inTruth_90 (by omega) ?_
            refine j_iret rfl rfl rfl rfl dX4_inTruth_91 ?_
            exact ⟨by unfold fTruth tJoin; (repeat' split) <;> first | omega | grind, rfl⟩
          refine j_if_eq (tgt := 88) dX4_inTruth_80 (by decide) (fun c80_16 => ?_) (fun c80_16 => ?_)
          · skip
            refine j_bipush dX4_inTruth_88 (by decide) ?_
            exact hJ_14 _ (Or.inl ⟨c80_16, rfl⟩)
          · skip
            refine j_bipush dX4_inTruth_83 (by decide) ?_
            refine j_goto (tgt := 90) dX4_inTruth_85 (by decide) ?_
            exact hJ_14 _ (Or.inr (⟨c80_16, rfl⟩))
        refine j_icmp_ne (tgt := 70) dX4_inTruth_62 (by decide) (fun c62_17 => ?_) (fun c62_17 => ?_)
        · skip
          refine j_iload 4 dX4_inTruth_70 rfl ?_
          exact hJ_10 _ (Or.inl ⟨c62_17, rfl⟩)
        · skip
          refine j_iload 5 dX4_inTruth_65 rfl ?_
          refine j_goto (tgt := 72) dX4_inTruth_67 (by decide) ?_
          exact hJ_10 _ (Or.inr (⟨c62_17, rfl⟩))
      · skip
        refine j_iload 5 dX4_inTruth_47 rfl ?_
        refine j_bipush dX4_inTruth_49 (by decide) ?_
        refine j_icmp_ne (tgt := 92) dX4_inTruth_51 (by decide) (fun c51_18 => ?_) (fun c51_18 => ?_)
        · skip
          refine j_aload_n 0 dX4_inTruth_92 rfl rfl ?_
          refine j_getr f_X4_30 r_1_7 dX4_inTruth_93 ?_
          refine j_iload 4 dX4_inTruth_96 rfl ?_
          refine j_iald a_8 dX4_inTruth_98 (by omega) (by omega) ?_
          have g_19 := h_ccerr r_2
          refine j_nm (fun v6_20 ev6_20 => ?_)
          refine j_istore (ls' := [(0, jR 1), (1, jI m), (2, jI t), (3, jI g), (4, jI r_2), (5, jI r_5), (6, jI v6_20)]) dX4_inTruth_99 (by decide) rfl ?_
          refine j_aload_n 0 dX4_inTruth_101 rfl rfl ?_
          refine j_getr f_X4_30 r_1_7 dX4_inTruth_102 ?_
          refine j_iload 5 dX4_inTruth_105 rfl ?_
          refine j_iald a_8 dX4_inTruth_107 (by omega) (by omega) ?_
          have g_21 := h_ccerr r_5
          refine j_nm (fun v7_22 ev7_22 => ?_)
          refine j_istore (ls' := [(0, jR 1), (1, jI m), (2, jI t), (3, jI g), (4, jI r_2), (5, jI r_5), (6, jI v6_20), (7, jI v7_22)]) dX4_inTruth_108 (by decide) rfl ?_
          refine j_iload_n 2 dX4_inTruth_110 rfl rfl ?_
          refine j_iload_n 3 dX4_inTruth_111 rfl rfl ?_
          refine j_if_eq (tgt := 125) dX4_inTruth_112 (by decide) (fun c112_23 => ?_) (fun c112_23 => ?_)
          · skip
            refine j_iload 6 dX4_inTruth_125 rfl ?_
            refine j_iload 7 dX4_inTruth_127 rfl ?_
            refine j_mmin lm_X4_49 lm_min ⟨Nat.le_of_ble_eq_true rfl, Nat.le_of_ble_eq_true rfl⟩ ⟨Nat.le_of_ble_eq_true rfl, Nat.le_of_ble_eq_true rfl⟩ dX4_inTruth_129 ?_
            refine j_iadd dX4_inTruth_132 (by omega) ?_
            refine j_iret rfl rfl rfl rfl dX4_inTruth_133 ?_
            exact ⟨by unfold fTruth tJoin; (repeat' split) <;> first | omega | grind, rfl⟩
          · skip
            refine j_iload 6 dX4_inTruth_115 rfl ?_
            refine j_iload 7 dX4_inTruth_117 rfl ?_
            refine j_mmax lm_X4_44 lm_max ⟨Nat.le_of_ble_eq_true rfl, Nat.le_of_ble_eq_true rfl⟩ ⟨Nat.le_of_ble_eq_true rfl, Nat.le_of_ble_eq_true rfl⟩ dX4_inTruth_119 ?_
            refine j_goto (tgt := 132) dX4_inTruth_122 (by decide) ?_
            refine j_iadd dX4_inTruth_132 (by omega) ?_
            refine j_iret rfl rfl rfl rfl dX4_inTruth_133 ?_
            exact ⟨by unfold fTruth tJoin; (repeat' split) <;> first | omega | grind, rfl⟩
        · skip
          refine j_aload_n 0 dX4_inTruth_54 rfl rfl ?_
          refine j_getr f_X4_30 r_1_7 dX4_inTruth_55 ?_
          refine j_iload 4 dX4_inTruth_58 rfl ?_
          refine j_bipush dX4_inTruth_60 (by decide) ?_
          have hJ_24 : ∀ zz : Int, (¬ r_2 = (-9) ∧ zz = r_2) ∨ (r_2 = (-9) ∧ zz = r_5) → jG D_X4_inTruth X FJ shJ 0 0 (jqI (q_X4_inTruth M m t g)) 72 [(0, jR 1), (1, jI m), (2, jI t), (3, jI g), (4, jI r_2), (5, jI r_5)] (jI zz :: jR 8 :: []) M := by
            intro t_25 et_25
            refine j_iald a_8 dX4_inTruth_72 (by omega) (by omega) ?_
            have g_26 := h_ccerr t_25
            refine j_nm (fun v6_27 ev6_27 => ?_)
            refine j_istore (ls' := [(0, jR 1), (1, jI m), (2, jI t), (3, jI g), (4, jI r_2), (5, jI r_5), (6, jI v6_27)]) dX4_inTruth_73 (by decide) rfl ?_
            refine j_iload_n 2 dX4_inTruth_75 rfl rfl ?_
            refine j_iload 6 dX4_inTruth_76 rfl ?_
            refine j_iadd dX4_inTruth_78 (by omega) ?_
            refine j_iload_n 3 dX4_inTruth_79 rfl rfl ?_
            have hJ_28 : ∀ zz : Int, (g = 0 ∧ zz = (-10)) ∨ (¬ g = 0 ∧ zz = 10) → jG D_X4_inTruth X FJ shJ 0 0 (jqI (q_X4_inTruth M m t g)) 90 [(0, jR 1), (1, jI m), (2, jI t), (3, jI g), (4, jI r_2), (5, jI r_5), (6, jI v6_27)] (jI zz :: jI (t + v6_27) :: []) M := by
              intro t_29 et_29
              refine j_iadd dX4_inTruth_90 (by omega) ?_
              refine j_iret rfl rfl rfl rfl dX4_inTruth_91 ?_
              exact ⟨by unfold fTruth tJoin; (repeat' split) <;> first | omega | grind, rfl⟩
            refine j_if_eq (tgt := 88) dX4_inTruth_80 (by decide) (fun c80_30 => ?_) (fun c80_30 => ?_)
            · skip
              refine j_bipush dX4_inTruth_88 (by decide) ?_
              exact hJ_28 _ (Or.inl ⟨c80_30, rfl⟩)
            · skip
              refine j_bipush dX4_inTruth_83 (by decide) ?_
              refine j_goto (tgt := 90) dX4_inTruth_85 (by decide) ?_
              exact hJ_28 _ (Or.inr (⟨c80_30, rfl⟩))
          refine j_icmp_ne (tgt := 70) dX4_inTruth_62 (by decide) (fun c62_31 => ?_) (fun c62_31 => ?_)
          · skip
            refine j_iload 4 dX4_inTruth_70 rfl ?_
            exact hJ_24 _ (Or.inl ⟨c62_31, rfl⟩)
          · skip
            refine j_iload 5 dX4_inTruth_65 rfl ?_
            refine j_goto (tgt := 72) dX4_inTruth_67 (by decide) ?_
            exact hJ_24 _ (Or.inr (⟨c62_31, rfl⟩))
    · skip
      refine j_iload 5 dX4_inTruth_31 rfl ?_
      refine j_bipush dX4_inTruth_33 (by decide) ?_
      refine j_icmp_ne (tgt := 40) dX4_inTruth_35 (by decide) (fun c35_32 => ?_) (fun c35_32 => ?_)
      · skip
        refine j_iload 4 dX4_inTruth_40 rfl ?_
        refine j_bipush dX4_inTruth_42 (by decide) ?_
        refine j_icmp_eq (tgt := 54) dX4_inTruth_44 (by decide) (fun c44_33 => ?_) (fun c44_33 => ?_)
        · skip
          refine j_aload_n 0 dX4_inTruth_54 rfl rfl ?_
          refine j_getr f_X4_30 r_1_7 dX4_inTruth_55 ?_
          refine j_iload 4 dX4_inTruth_58 rfl ?_
          refine j_bipush dX4_inTruth_60 (by decide) ?_
          have hJ_34 : ∀ zz : Int, (¬ r_2 = (-9) ∧ zz = r_2) ∨ (r_2 = (-9) ∧ zz = r_5) → jG D_X4_inTruth X FJ shJ 0 0 (jqI (q_X4_inTruth M m t g)) 72 [(0, jR 1), (1, jI m), (2, jI t), (3, jI g), (4, jI r_2), (5, jI r_5)] (jI zz :: jR 8 :: []) M := by
            intro t_35 et_35
            refine j_iald a_8 dX4_inTruth_72 (by omega) (by omega) ?_
            have g_36 := h_ccerr t_35
            refine j_nm (fun v6_37 ev6_37 => ?_)
            refine j_istore (ls' := [(0, jR 1), (1, jI m), (2, jI t), (3, jI g), (4, jI r_2), (5, jI r_5), (6, jI v6_37)]) dX4_inTruth_73 (by decide) rfl ?_
            refine j_iload_n 2 dX4_inTruth_75 rfl rfl ?_
            refine j_iload 6 dX4_inTruth_76 rfl ?_
            refine j_iadd dX4_inTruth_78 (by omega) ?_
            refine j_iload_n 3 dX4_inTruth_79 rfl rfl ?_
            have hJ_38 : ∀ zz : Int, (g = 0 ∧ zz = (-10)) ∨ (¬ g = 0 ∧ zz = 10) → jG D_X4_inTruth X FJ shJ 0 0 (jqI (q_X4_inTruth M m t g)) 90 [(0, jR 1), (1, jI m), (2, jI t), (3, jI g), (4, jI r_2), (5, jI r_5), (6, jI v6_37)] (jI zz :: jI (t + v6_37) :: []) M := by
              intro t_39 et_39
              refine j_iadd dX4_inTruth_90 (by omega) ?_
              refine j_iret rfl rfl rfl rfl dX4_inTruth_91 ?_
              exact ⟨by unfold fTruth tJoin; (repeat' split) <;> first | omega | grind, rfl⟩
            refine j_if_eq (tgt := 88) dX4_inTruth_80 (by decide) (fun c80_40 => ?_) (fun c80_40 => ?_)
            · skip
              refine j_bipush dX4_inTruth_88 (by decide) ?_
              exact hJ_38 _ (Or.inl ⟨c80_40, rfl⟩)
            · skip
              refine j_bipush dX4_inTruth_83 (by decide) ?_
              refine j_goto (tgt := 90) dX4_inTruth_85 (by decide) ?_
              exact hJ_38 _ (Or.inr (⟨c80_40, rfl⟩))
          refine j_icmp_ne (tgt := 70) dX4_inTruth_62 (by decide) (fun c62_41 => ?_) (fun c62_41 => ?_)
          · skip
            refine j_iload 4 dX4_inTruth_70 rfl ?_
            exact hJ_34 _ (Or.inl ⟨c62_41, rfl⟩)
          · skip
            refine j_iload 5 dX4_inTruth_65 rfl ?_
            refine j_goto (tgt := 72) dX4_inTruth_67 (by decide) ?_
            exact hJ_34 _ (Or.inr (⟨c62_41, rfl⟩))
        · skip
          refine j_iload 5 dX4_inTruth_47 rfl ?_
          refine j_bipush dX4_inTruth_49 (by decide) ?_
          refine j_icmp_ne (tgt := 92) dX4_inTruth_51 (by decide) (fun c51_42 => ?_) (fun c51_42 => ?_)
          · skip
            refine j_aload_n 0 dX4_inTruth_92 rfl rfl ?_
            refine j_getr f_X4_30 r_1_7 dX4_inTruth_93 ?_
            refine j_iload 4 dX4_inTruth_96 rfl ?_
            refine j_iald a_8 dX4_inTruth_98 (by omega) (by omega) ?_
            have g_43 := h_ccerr r_2
            refine j_nm (fun v6_44 ev6_44 => ?_)
            refine j_istore (ls' := [(0, jR 1), (1, jI m), (2, jI t), (3, jI g), (4, jI r_2), (5, jI r_5), (6, jI v6_44)]) dX4_inTruth_99 (by decide) rfl ?_
            refine j_aload_n 0 dX4_inTruth_101 rfl rfl ?_
            refine j_getr f_X4_30 r_1_7 dX4_inTruth_102 ?_
            refine j_iload 5 dX4_inTruth_105 rfl ?_
            refine j_iald a_8 dX4_inTruth_107 (by omega) (by omega) ?_
            have g_45 := h_ccerr r_5
            refine j_nm (fun v7_46 ev7_46 => ?_)
            refine j_istore (ls' := [(0, jR 1), (1, jI m), (2, jI t), (3, jI g), (4, jI r_2), (5, jI r_5), (6, jI v6_44), (7, jI v7_46)]) dX4_inTruth_108 (by decide) rfl ?_
            refine j_iload_n 2 dX4_inTruth_110 rfl rfl ?_
            refine j_iload_n 3 dX4_inTruth_111 rfl rfl ?_
            refine j_if_eq (tgt := 125) dX4_inTruth_112 (by decide) (fun c112_47 => ?_) (fun c112_47 => ?_)
            · skip
              refine j_iload 6 dX4_inTruth_125 rfl ?_
              refine j_iload 7 dX4_inTruth_127 rfl ?_
              refine j_mmin lm_X4_49 lm_min ⟨Nat.le_of_ble_eq_true rfl, Nat.le_of_ble_eq_true rfl⟩ ⟨Nat.le_of_ble_eq_true rfl, Nat.le_of_ble_eq_true rfl⟩ dX4_inTruth_129 ?_
              refine j_iadd dX4_inTruth_132 (by omega) ?_
              refine j_iret rfl rfl rfl rfl dX4_inTruth_133 ?_
              exact ⟨by unfold fTruth tJoin; (repeat' split) <;> first | omega | grind, rfl⟩
            · skip
              refine j_iload 6 dX4_inTruth_115 rfl ?_
              refine j_iload 7 dX4_inTruth_117 rfl ?_
              refine j_mmax lm_X4_44 lm_max ⟨Nat.le_of_ble_eq_true rfl, Nat.le_of_ble_eq_true rfl⟩ ⟨Nat.le_of_ble_eq_true rfl, Nat.le_of_ble_eq_true rfl⟩ dX4_inTruth_119 ?_
              refine j_goto (tgt := 132) dX4_inTruth_122 (by decide) ?_
              refine j_iadd dX4_inTruth_132 (by omega) ?_
              refine j_iret rfl rfl rfl rfl dX4_inTruth_133 ?_
              exact ⟨by unfold fTruth tJoin; (repeat' split) <;> first | omega | grind, rfl⟩
          · skip
            refine j_aload_n 0 dX4_inTruth_54 rfl rfl ?_
            refine j_getr f_X4_30 r_1_7 dX4_inTruth_55 ?_
            refine j_iload 4 dX4_inTruth_58 rfl ?_
            refine j_bipush dX4_inTruth_60 (by decide) ?_
            have hJ_48 : ∀ zz : Int, (¬ r_2 = (-9) ∧ zz = r_2) ∨ (r_2 = (-9) ∧ zz = r_5) → jG D_X4_inTruth X FJ shJ 0 0 (jqI (q_X4_inTruth M m t g)) 72 [(0, jR 1), (1, jI m), (2, jI t), (3, jI g), (4, jI r_2), (5, jI r_5)] (jI zz :: jR 8 :: []) M := by
              intro t_49 et_49
              refine j_iald a_8 dX4_inTruth_72 (by omega) (by omega) ?_
              have g_50 := h_ccerr t_49
              refine j_nm (fun v6_51 ev6_51 => ?_)
              refine j_istore (ls' := [(0, jR 1), (1, jI m), (2, jI t), (3, jI g), (4, jI r_2), (5, jI r_5), (6, jI v6_51)]) dX4_inTruth_73 (by decide) rfl ?_
              refine j_iload_n 2 dX4_inTruth_75 rfl rfl ?_
              refine j_iload 6 dX4_inTruth_76 rfl ?_
              refine j_iadd dX4_inTruth_78 (by omega) ?_
              refine j_iload_n 3 dX4_inTruth_79 rfl rfl ?_
              have hJ_52 : ∀ zz : Int, (g = 0 ∧ zz = (-10)) ∨ (¬ g = 0 ∧ zz = 10) → jG D_X4_inTruth X FJ shJ 0 0 (jqI (q_X4_inTruth M m t g)) 90 [(0, jR 1), (1, jI m), (2, jI t), (3, jI g), (4, jI r_2), (5, jI r_5), (6, jI v6_51)] (jI zz :: jI (t + v6_51) :: []) M := by
                intro t_53 et_53
                refine j_iadd dX4_inTruth_90 (by omega) ?_
                refine j_iret rfl rfl rfl rfl dX4_inTruth_91 ?_
                exact ⟨by unfold fTruth tJoin; (repeat' split) <;> first | omega | grind, rfl⟩
              refine j_if_eq (tgt := 88) dX4_inTruth_80 (by decide) (fun c80_54 => ?_) (fun c80_54 => ?_)
              · skip
                refine j_bipush dX4_inTruth_88 (by decide) ?_
                exact hJ_52 _ (Or.inl ⟨c80_54, rfl⟩)
              · skip
                refine j_bipush dX4_inTruth_83 (by decide) ?_
                refine j_goto (tgt := 90) dX4_inTruth_85 (by decide) ?_
                exact hJ_52 _ (Or.inr (⟨c80_54, rfl⟩))
            refine j_icmp_ne (tgt := 70) dX4_inTruth_62 (by decide) (fun c62_55 => ?_) (fun c62_55 => ?_)
            · skip
              refine j_iload 4 dX4_inTruth_70 rfl ?_
              exact hJ_48 _ (Or.inl ⟨c62_55, rfl⟩)
            · skip
              refine j_iload 5 dX4_inTruth_65 rfl ?_
              refine j_goto (tgt := 72) dX4_inTruth_67 (by decide) ?_
              exact hJ_48 _ (Or.inr (⟨c62_55, rfl⟩))
      · skip
        refine j_iload_n 2 dX4_inTruth_38 rfl rfl ?_
        refine j_iret rfl rfl rfl rfl dX4_inTruth_39 ?_
        exact ⟨by unfold fTruth tJoin; (repeat' split) <;> first | omega | grind, rfl⟩
  · skip
    refine j_iload_n 2 dX4_inTruth_6 rfl rfl ?_
    refine j_iret rfl rfl rfl rfl dX4_inTruth_7 ?_
    exact ⟨by unfold fTruth tJoin; (repeat' split) <;> first | omega | grind, rfl⟩
abbrev q_X3_knows (M : jM)  (h : Int) : Int → jM → Prop := fun r N => ((r = 1 ∧ (0 ≤ h ∧ h < M 9 0)) ∨ (r = 0 ∧ ¬ (0 ≤ h ∧ h < M 9 0))) ∧ N = M
set_option maxHeartbeats 4000000 in
set_option maxRecDepth 20000 in
theorem c_X3_knows {X : jX} (M : jM)  (h : Int)  : jC yX3_knows D_X3_knows X FJ shJ [jR 9, jI h] M (jqI (q_X3_knows M h)) := by
  refine jC_of (by decide) rfl (fun ad => Nat.le_of_ble_eq_true rfl) (by decide) ?_
  show jG D_X3_knows X FJ shJ 0 0 (jqI (q_X3_knows M h)) 0 [(0, jR 9), (1, jI h)] [] M
  refine j_iload_n 1 dX3_knows_0 rfl rfl ?_
  have hJ_1 : ∀ zz : Int, (h < 0 ∧ zz = 0) ∨ (¬ (h < 0) ∧ (M 9 0) ≤ h ∧ zz = 0) ∨ (¬ (h < 0) ∧ ¬ ((M 9 0) ≤ h) ∧ zz = 1) → jG D_X3_knows X FJ shJ 0 0 (jqI (q_X3_knows M h)) 17 [(0, jR 9), (1, jI h)] (jI zz :: []) M := by
    intro t_2 et_2
    refine j_zret rfl rfl rfl rfl dX3_knows_17 (by omega) ?_
    exact ⟨by omega, rfl⟩
  refine j_if_lt (tgt := 16) dX3_knows_1 (by decide) (fun c1_3 => ?_) (fun c1_3 => ?_)
  · skip
    refine j_iconst dX3_knows_16 (by decide) ?_
    exact hJ_1 _ (Or.inl ⟨c1_3, rfl⟩)
  · skip
    refine j_iload_n 1 dX3_knows_4 rfl rfl ?_
    refine j_aload_n 0 dX3_knows_5 rfl rfl ?_
    refine j_geti (k' := 0) f_X3_31 o_9_0 dX3_knows_6 rfl ?_
    refine j_icmp_ge (tgt := 16) dX3_knows_9 (by decide) (fun c9_4 => ?_) (fun c9_4 => ?_)
    · skip
      refine j_iconst dX3_knows_16 (by decide) ?_
      exact hJ_1 _ (Or.inr (Or.inl ⟨c1_3, c9_4, rfl⟩))
    · skip
      refine j_iconst dX3_knows_12 (by decide) ?_
      refine j_goto (tgt := 17) dX3_knows_13 (by decide) ?_
      exact hJ_1 _ (Or.inr (Or.inr (⟨c1_3, c9_4, rfl⟩)))
abbrev q_X3_add (M : jM)  (a b : Int) : Int → jM → Prop := fun r N => r = (if M 9 0 = 24 then -3 else M 9 0) ∧ N = (if M 9 0 = 24 then M else jup (jup (jup (jup (jup M 10 (M 9 0) a) 15 (M 9 0) b) 12 (M 9 0) 0) 13 (M 9 0) 10799) 9 0 (M 9 0 + 1))
set_option maxHeartbeats 4000000 in
set_option maxRecDepth 20000 in
theorem c_X3_add {X : jX} (M : jM)  (a b : Int) (h_chands : 0 ≤ M 9 0 ∧ M 9 0 ≤ 24) : jC yX3_add D_X3_add X FJ shJ [jR 9, jI a, jI b] M (jqI (q_X3_add M a b)) := by
  refine jC_of (by decide) rfl (fun ad => Nat.le_of_ble_eq_true rfl) (by decide) ?_
  show jG D_X3_add X FJ shJ 0 0 (jqI (q_X3_add M a b)) 0 [(0, jR 9), (1, jI a), (2, jI b)] [] M
  refine j_aload_n 0 dX3_add_0 rfl rfl ?_
  refine j_geti (k' := 0) f_X3_31 o_9_0 dX3_add_1 rfl ?_
  refine j_bipush dX3_add_4 (by decide) ?_
  refine j_icmp_ne (tgt := 12) dX3_add_6 (by decide) (fun c6_1 => ?_) (fun c6_1 => ?_)
  · skip
    refine j_aload_n 0 dX3_add_12 rfl rfl ?_
    refine j_getr f_X3_11 r_9_1 dX3_add_13 ?_
    refine j_aload_n 0 dX3_add_16 rfl rfl ?_
    refine j_geti (k' := 0) f_X3_31 o_9_0 dX3_add_17 rfl ?_
    refine j_iload_n 1 dX3_add_20 rfl rfl ?_
    refine j_iast a_10 dX3_add_21 (by omega) (by omega) ?_
    refine j_nmM (fun M_2 eM_2 => ?_)
    refine j_aload_n 0 dX3_add_22 rfl rfl ?_
    refine j_getr f_X3_28 r_9_6 dX3_add_23 ?_
    refine j_aload_n 0 dX3_add_26 rfl rfl ?_
    refine j_geti (k' := 0) f_X3_31 o_9_0 dX3_add_27 rfl ?_
    refine j_eq (congrFun ((congrFun eM_2 9).trans (jup_cell (by decide))) 0) ?_
    refine j_iload_n 2 dX3_add_30 rfl rfl ?_
    refine j_iast a_15 dX3_add_31 (by omega) (by omega) ?_
    refine j_nmM (fun M_3 eM_3 => ?_)
    refine j_aload_n 0 dX3_add_32 rfl rfl ?_
    refine j_getr f_X3_18 r_9_3 dX3_add_33 ?_
    refine j_aload_n 0 dX3_add_36 rfl rfl ?_
    refine j_geti (k' := 0) f_X3_31 o_9_0 dX3_add_37 rfl ?_
    refine j_eq (Eq.trans (congrFun ((congrFun eM_3 9).trans (jup_cell (by decide))) 0) (congrFun ((congrFun eM_2 9).trans (jup_cell (by decide))) 0)) ?_
    refine j_iconst dX3_add_40 (by decide) ?_
    refine j_iast a_12 dX3_add_41 (by omega) (by omega) ?_
    refine j_nmM (fun M_4 eM_4 => ?_)
    refine j_aload_n 0 dX3_add_42 rfl rfl ?_
    refine j_getr f_X3_21 r_9_4 dX3_add_43 ?_
    refine j_aload_n 0 dX3_add_46 rfl rfl ?_
    refine j_geti (k' := 0) f_X3_31 o_9_0 dX3_add_47 rfl ?_
    refine j_eq (Eq.trans (congrFun ((congrFun eM_4 9).trans (jup_cell (by decide))) 0) (Eq.trans (congrFun ((congrFun eM_3 9).trans (jup_cell (by decide))) 0) (congrFun ((congrFun eM_2 9).trans (jup_cell (by decide))) 0))) ?_
    refine j_sipush dX3_add_50 (by decide) ?_
    refine j_iast a_13 dX3_add_53 (by omega) (by omega) ?_
    refine j_nmM (fun M_5 eM_5 => ?_)
    refine j_aload_n 0 dX3_add_54 rfl rfl ?_
    refine j_dup dX3_add_55 rfl ?_
    refine j_geti (k' := 0) f_X3_31 o_9_0 dX3_add_56 rfl ?_
    refine j_eq (Eq.trans (congrFun ((congrFun eM_5 9).trans (jup_cell (by decide))) 0) (Eq.trans (congrFun ((congrFun eM_4 9).trans (jup_cell (by decide))) 0) (Eq.trans (congrFun ((congrFun eM_3 9).trans (jup_cell (by decide))) 0) (congrFun ((congrFun eM_2 9).trans (jup_cell (by decide))) 0)))) ?_
    refine j_dup_x1 dX3_add_59 rfl rfl ?_
    refine j_iconst dX3_add_60 (by decide) ?_
    refine j_iadd dX3_add_61 (by omega) ?_
    refine j_puti (k' := 0) f_X3_31 o_9_0 dX3_add_62 rfl ?_
    refine j_nmM (fun M_6 eM_6 => ?_)
    refine j_iret rfl rfl rfl rfl dX3_add_65 ?_
    refine ⟨by (repeat' split) <;> omega, ?_⟩
    first | (rw [if_pos (by omega), eM_6, eM_5, eM_4, eM_3, eM_2]; done) | (rw [if_neg (by omega), eM_6, eM_5, eM_4, eM_3, eM_2]; done) | (rw [if_pos (by omega)]; done) | (rw [if_neg (by omega)]; done) | (rw [if_neg (by omega), eM_6, eM_5, eM_4, eM_3, eM_2, jup_zz]; done)
  · skip
    refine j_bipush dX3_add_9 (by decide) ?_
    refine j_iret rfl rfl rfl rfl dX3_add_11 ?_
    refine ⟨by (repeat' split) <;> omega, ?_⟩
    first | (rw [if_pos (by omega), jup_zz]; done) | (rw [if_neg (by omega), jup_zz]; done) | (rw [if_pos (by omega)]; done) | (rw [if_neg (by omega)]; done) | (rw [if_neg (by omega), jup_zz, jup_zz]; done)
abbrev q_X3_traceOf (M : jM)  (k : Int) : Int → jM → Prop := fun r N => r = fTrace k ∧ N = M
set_option maxHeartbeats 4000000 in
set_option maxRecDepth 20000 in
theorem c_X3_traceOf {X : jX} (M : jM)  (k : Int) (h0 : 0 ≤ k ∧ k ≤ 5) : jC yX3_traceOf D_X3_traceOf X FJ shJ [jI k] M (jqI (q_X3_traceOf M k)) := by
  refine jC_of (by decide) rfl (fun ad => Nat.le_of_ble_eq_true rfl) (by decide) ?_
  show jG D_X3_traceOf X FJ shJ 0 0 (jqI (q_X3_traceOf M k)) 0 [(0, jI k)] [] M
  refine j_iload_n 0 dX3_traceOf_0 rfl rfl ?_
  rcases (show k = 1 ∨ k = 2 ∨ k = 3 ∨ k = 4 ∨ k = 5 ∨ k < 1 ∨ 5 < k from by omega) with s_1 | s_1 | s_1 | s_1 | s_1 | s_1 | s_1
  · refine j_tswIn (tgt := 36) 1 s_1 dX3_traceOf_1 (by decide) (by decide) rfl (by decide) ?_
    refine j_bipush dX3_traceOf_36 (by decide) ?_
    refine j_iret rfl rfl rfl rfl dX3_traceOf_38 ?_
    exact ⟨by unfold fTrace; (repeat' split) <;> omega, rfl⟩
  · refine j_tswIn (tgt := 39) 2 s_1 dX3_traceOf_1 (by decide) (by decide) rfl (by decide) ?_
    refine j_bipush dX3_traceOf_39 (by decide) ?_
    refine j_iret rfl rfl rfl rfl dX3_traceOf_41 ?_
    exact ⟨by unfold fTrace; (repeat' split) <;> omega, rfl⟩
  · refine j_tswIn (tgt := 42) 3 s_1 dX3_traceOf_1 (by decide) (by decide) rfl (by decide) ?_
    refine j_sipush dX3_traceOf_42 (by decide) ?_
    refine j_iret rfl rfl rfl rfl dX3_traceOf_45 ?_
    exact ⟨by unfold fTrace; (repeat' split) <;> omega, rfl⟩
  · refine j_tswIn (tgt := 46) 4 s_1 dX3_traceOf_1 (by decide) (by decide) rfl (by decide) ?_
    refine j_sipush dX3_traceOf_46 (by decide) ?_
    refine j_iret rfl rfl rfl rfl dX3_traceOf_49 ?_
    exact ⟨by unfold fTrace; (repeat' split) <;> omega, rfl⟩
  · refine j_tswIn (tgt := 50) 5 s_1 dX3_traceOf_1 (by decide) (by decide) rfl (by decide) ?_
    refine j_ldc (n := 100011) dX3_traceOf_50 c_X3_35 (by decide) ?_
    refine j_iret rfl rfl rfl rfl dX3_traceOf_52 ?_
    exact ⟨by unfold fTrace; (repeat' split) <;> omega, rfl⟩
  · refine j_tswOut (tgt := 53) dX3_traceOf_1 (Or.inl s_1) (by decide) ?_
    refine j_iconst dX3_traceOf_53 (by decide) ?_
    refine j_iret rfl rfl rfl rfl dX3_traceOf_54 ?_
    exact ⟨by unfold fTrace; (repeat' split) <;> omega, rfl⟩
  · refine j_tswOut (tgt := 53) dX3_traceOf_1 (Or.inr s_1) (by decide) ?_
    refine j_iconst dX3_traceOf_53 (by decide) ?_
    refine j_iret rfl rfl rfl rfl dX3_traceOf_54 ?_
    exact ⟨by unfold fTrace; (repeat' split) <;> omega, rfl⟩
abbrev q_X3_customAs (M : jM)  (k h : Int) : Int → jM → Prop := fun r N => r = fCustom k (M 15 h) (M 11 h) ∧ N = M
set_option maxHeartbeats 4000000 in
set_option maxRecDepth 20000 in
theorem c_X3_customAs {X : jX} (M : jM)  (k h : Int) (h_cgrade : ∀ i, 0 ≤ M 15 i ∧ M 15 i ≤ 3) (h_cpapers : ∀ i, 0 ≤ M 11 i ∧ M 11 i ≤ 3) (h0 : 0 ≤ h ∧ h < 24) (hk : 0 ≤ k ∧ k ≤ 5) : jC yX3_customAs D_X3_customAs X FJ shJ [jR 9, jI k, jI h] M (jqI (q_X3_customAs M k h)) := by
  refine jC_of (by decide) rfl (fun ad => Nat.le_of_ble_eq_true rfl) (by decide) ?_
  show jG D_X3_customAs X FJ shJ 0 0 (jqI (q_X3_customAs M k h)) 0 [(0, jR 9), (1, jI k), (2, jI h)] [] M
  refine j_sipush dX3_customAs_0 (by decide) ?_
  refine j_bipush dX3_customAs_3 (by decide) ?_
  refine j_aload_n 0 dX3_customAs_5 rfl rfl ?_
  refine j_getr f_X3_28 r_9_6 dX3_customAs_6 ?_
  refine j_iload_n 2 dX3_customAs_9 rfl rfl ?_
  refine j_iald a_15 dX3_customAs_10 (by omega) (by omega) ?_
  have g_1 := h_cgrade h
  refine j_imul dX3_customAs_11 (by omega) ?_
  refine j_isub dX3_customAs_12 (by omega) ?_
  refine j_nm (fun v3_2 ev3_2 => ?_)
  refine j_istore_n (ls' := [(0, jR 9), (1, jI k), (2, jI h), (3, jI v3_2)]) dX3_customAs_13 rfl (by decide) rfl ?_
  refine j_iload_n 3 dX3_customAs_14 rfl rfl ?_
  refine j_iconst dX3_customAs_15 (by decide) ?_
  refine j_idiv dX3_customAs_16 (by omega) (by omega) ?_
  refine j_bipush dX3_customAs_17 (by decide) ?_
  refine j_iadd dX3_customAs_19 (by omega) ?_
  refine j_nm (fun v4_3 ev4_3 => ?_)
  refine j_istore (ls' := [(0, jR 9), (1, jI k), (2, jI h), (3, jI v3_2), (4, jI v4_3)]) dX3_customAs_20 (by decide) rfl ?_
  refine j_iload_n 1 dX3_customAs_22 rfl rfl ?_
  rcases (show k = 1 ∨ k = 2 ∨ k = 3 ∨ k = 4 ∨ k = 5 ∨ k < 1 ∨ 5 < k from by omega) with s_4 | s_4 | s_4 | s_4 | s_4 | s_4 | s_4
  · refine j_tswIn (tgt := 56) 1 s_4 dX3_customAs_23 (by decide) (by decide) rfl (by decide) ?_
    refine j_iload 4 dX3_customAs_56 rfl ?_
    refine j_iret rfl rfl rfl rfl dX3_customAs_58 ?_
    exact ⟨by unfold fCustom; (repeat' split) <;> omega, rfl⟩
  · refine j_tswIn (tgt := 59) 2 s_4 dX3_customAs_23 (by decide) (by decide) rfl (by decide) ?_
    refine j_iload_n 3 dX3_customAs_59 rfl rfl ?_
    refine j_sipush dX3_customAs_60 (by decide) ?_
    refine j_isub dX3_customAs_63 (by omega) ?_
    refine j_iret rfl rfl rfl rfl dX3_customAs_64 ?_
    exact ⟨by unfold fCustom; (repeat' split) <;> omega, rfl⟩
  · refine j_tswIn (tgt := 65) 3 s_4 dX3_customAs_23 (by decide) (by decide) rfl (by decide) ?_
    refine j_iload 4 dX3_customAs_65 rfl ?_
    refine j_bipush dX3_customAs_67 (by decide) ?_
    refine j_isub dX3_customAs_69 (by omega) ?_
    refine j_iret rfl rfl rfl rfl dX3_customAs_70 ?_
    exact ⟨by unfold fCustom; (repeat' split) <;> omega, rfl⟩
  · refine j_tswIn (tgt := 71) 4 s_4 dX3_customAs_23 (by decide) (by decide) rfl (by decide) ?_
    refine j_iload_n 3 dX3_customAs_71 rfl rfl ?_
    refine j_iload_n 3 dX3_customAs_72 rfl rfl ?_
    refine j_bipush dX3_customAs_73 (by decide) ?_
    refine j_idiv dX3_customAs_75 (by omega) (by omega) ?_
    refine j_isub dX3_customAs_76 (by omega) ?_
    refine j_iret rfl rfl rfl rfl dX3_customAs_77 ?_
    exact ⟨by unfold fCustom; (repeat' split) <;> omega, rfl⟩
  · refine j_tswIn (tgt := 78) 5 s_4 dX3_customAs_23 (by decide) (by decide) rfl (by decide) ?_
    refine j_iload 4 dX3_customAs_78 rfl ?_
    refine j_bipush dX3_customAs_80 (by decide) ?_
    refine j_aload_n 0 dX3_customAs_82 rfl rfl ?_
    refine j_getr f_X3_15 r_9_2 dX3_customAs_83 ?_
    refine j_iload_n 2 dX3_customAs_86 rfl rfl ?_
    refine j_iald a_11 dX3_customAs_87 (by omega) (by omega) ?_
    have g_5 := h_cpapers h
    refine j_imul dX3_customAs_88 (by omega) ?_
    refine j_iadd dX3_customAs_89 (by omega) ?_
    refine j_iret rfl rfl rfl rfl dX3_customAs_90 ?_
    exact ⟨by unfold fCustom; (repeat' split) <;> omega, rfl⟩
  · refine j_tswOut (tgt := 91) dX3_customAs_23 (Or.inl s_4) (by decide) ?_
    refine j_iload_n 3 dX3_customAs_91 rfl rfl ?_
    refine j_iret rfl rfl rfl rfl dX3_customAs_92 ?_
    exact ⟨by unfold fCustom; (repeat' split) <;> omega, rfl⟩
  · refine j_tswOut (tgt := 91) dX3_customAs_23 (Or.inr s_4) (by decide) ?_
    refine j_iload_n 3 dX3_customAs_91 rfl rfl ?_
    refine j_iret rfl rfl rfl rfl dX3_customAs_92 ?_
    exact ⟨by unfold fCustom; (repeat' split) <;> omega, rfl⟩
abbrev q_X3_mostOf (M : jM)  (s : Int) : Int → jM → Prop := fun r N => r = (if s = 0 then 9999 else if s = 1 then 32 else 30) ∧ N = M
set_option maxHeartbeats 4000000 in
set_option maxRecDepth 20000 in
theorem c_X3_mostOf {X : jX} (M : jM)  (s : Int)  : jC yX3_mostOf D_X3_mostOf X FJ shJ [jI s] M (jqI (q_X3_mostOf M s)) := by
  refine jC_of (by decide) rfl (fun ad => Nat.le_of_ble_eq_true rfl) (by decide) ?_
  show jG D_X3_mostOf X FJ shJ 0 0 (jqI (q_X3_mostOf M s)) 0 [(0, jI s)] [] M
  refine j_iload_n 0 dX3_mostOf_0 rfl rfl ?_
  by_cases s_1_0 : s = 0
  · refine j_lsw (tgt := 28) dX3_mostOf_1 (by decide) (by rw [s_1_0] <;> rfl) (by decide) ?_
    refine j_sipush dX3_mostOf_28 (by decide) ?_
    refine j_iret rfl rfl rfl rfl dX3_mostOf_31 ?_
    exact ⟨by (repeat' split) <;> omega, rfl⟩
  by_cases s_1_1 : s = 1
  · refine j_lsw (tgt := 32) dX3_mostOf_1 (by decide) (by rw [s_1_1] <;> rfl) (by decide) ?_
    refine j_bipush dX3_mostOf_32 (by decide) ?_
    refine j_iret rfl rfl rfl rfl dX3_mostOf_34 ?_
    exact ⟨by (repeat' split) <;> omega, rfl⟩
  refine j_lsw (tgt := 35) dX3_mostOf_1 (by decide) (j_lswD (by simp; omega)) (by decide) ?_
  refine j_bipush dX3_mostOf_35 (by decide) ?_
  refine j_iret rfl rfl rfl rfl dX3_mostOf_37 ?_
  exact ⟨by (repeat' split) <;> omega, rfl⟩
abbrev q_X3_narrow (M : jM)  (h a b : Int) : jM → Prop := fun N => N = nNarrow M h a b
set_option maxHeartbeats 4000000 in
set_option maxRecDepth 20000 in
theorem c_X3_narrow {X : jX} (M : jM)  (h a b : Int) (h_cfrom : ∀ i, 0 ≤ M 12 i ∧ M 12 i ≤ 99999) (h_cto : ∀ i, 0 ≤ M 13 i ∧ M 13 i ≤ 10799) (h_ccon : ∀ i, 0 ≤ M 14 i ∧ M 14 i ≤ 1) (h0 : 0 ≤ h ∧ h < 24) : jC yX3_narrow D_X3_narrow X FJ shJ [jR 9, jI h, jI a, jI b] M (jqV (q_X3_narrow M h a b)) := by
  refine jC_of (by decide) rfl (fun ad => Nat.le_of_ble_eq_true rfl) (by decide) ?_
  show jG D_X3_narrow X FJ shJ 0 0 (jqV (q_X3_narrow M h a b)) 0 [(0, jR 9), (1, jI h), (2, jI a), (3, jI b)] [] M
  refine j_aload_n 0 dX3_narrow_0 rfl rfl ?_
  refine j_getr f_X3_24 r_9_5 dX3_narrow_1 ?_
  refine j_iload_n 1 dX3_narrow_4 rfl rfl ?_
  refine j_zald a_14 dX3_narrow_5 (by omega) (by omega) ?_
  have g_1 := h_ccon h
  refine j_if_eq (tgt := 10) dX3_narrow_6 (by decide) (fun c6_2 => ?_) (fun c6_2 => ?_)
  · skip
    refine j_aload_n 0 dX3_narrow_10 rfl rfl ?_
    refine j_getr f_X3_18 r_9_3 dX3_narrow_11 ?_
    refine j_iload_n 1 dX3_narrow_14 rfl rfl ?_
    refine j_aload_n 0 dX3_narrow_15 rfl rfl ?_
    refine j_getr f_X3_18 r_9_3 dX3_narrow_16 ?_
    refine j_iload_n 1 dX3_narrow_19 rfl rfl ?_
    refine j_iald a_12 dX3_narrow_20 (by omega) (by omega) ?_
    have g_3 := h_cfrom h
    refine j_iload_n 2 dX3_narrow_21 rfl rfl ?_
    refine j_mmax lm_X3_40 lm_max ⟨Nat.le_of_ble_eq_true rfl, Nat.le_of_ble_eq_true rfl⟩ ⟨Nat.le_of_ble_eq_true rfl, Nat.le_of_ble_eq_true rfl⟩ dX3_narrow_22 ?_
    refine j_iast a_12 dX3_narrow_25 (by omega) (by omega) ?_
    refine j_nmM (fun M_4 eM_4 => ?_)
    refine j_aload_n 0 dX3_narrow_26 rfl rfl ?_
    refine j_getr f_X3_21 r_9_4 dX3_narrow_27 ?_
    refine j_iload_n 1 dX3_narrow_30 rfl rfl ?_
    refine j_aload_n 0 dX3_narrow_31 rfl rfl ?_
    refine j_getr f_X3_21 r_9_4 dX3_narrow_32 ?_
    refine j_iload_n 1 dX3_narrow_35 rfl rfl ?_
    refine j_iald a_13 dX3_narrow_36 (by omega) (by omega) ?_
    refine j_eq (congrFun ((congrFun eM_4 13).trans (jup_cell (by decide))) h) ?_
    have g_5 := h_cto h
    refine j_iload_n 3 dX3_narrow_37 rfl rfl ?_
    refine j_mmin lm_X3_46 lm_min ⟨Nat.le_of_ble_eq_true rfl, Nat.le_of_ble_eq_true rfl⟩ ⟨Nat.le_of_ble_eq_true rfl, Nat.le_of_ble_eq_true rfl⟩ dX3_narrow_38 ?_
    refine j_iast a_13 dX3_narrow_41 (by omega) (by omega) ?_
    refine j_nmM (fun M_6 eM_6 => ?_)
    refine j_aload_n 0 dX3_narrow_42 rfl rfl ?_
    refine j_getr f_X3_18 r_9_3 dX3_narrow_43 ?_
    refine j_iload_n 1 dX3_narrow_46 rfl rfl ?_
    refine j_iald a_12 dX3_narrow_47 (by omega) (by omega) ?_
    refine j_eq (Eq.trans (congrFun ((congrFun eM_6 12).trans (jup_cell (by decide))) h) ((congrFun (congrFun eM_4 12) h).trans (jup_self _ _ _ _))) ?_
    refine j_aload_n 0 dX3_narrow_48 rfl rfl ?_
    refine j_getr f_X3_21 r_9_4 dX3_narrow_49 ?_
    refine j_iload_n 1 dX3_narrow_52 rfl rfl ?_
    refine j_iald a_13 dX3_narrow_53 (by omega) (by omega) ?_
    refine j_eq ((congrFun (congrFun eM_6 13) h).trans (jup_self _ _ _ _)) ?_
    refine j_icmp_le (tgt := 80) dX3_narrow_54 (by decide) (fun c54_7 => ?_) (fun c54_7 => ?_)
    · skip
      refine j_vret rfl rfl rfl rfl dX3_narrow_80 ?_
      show M_6 = nNarrow M h a b
      unfold nNarrow
      first | (rw [if_pos (by omega)]; done) | (rw [if_neg (by omega), if_pos (by omega), eM_6, eM_4]; done) | (rw [if_neg (by omega), if_neg (by omega), eM_6, eM_4])
    · skip
      refine j_aload_n 0 dX3_narrow_57 rfl rfl ?_
      refine j_getr f_X3_24 r_9_5 dX3_narrow_58 ?_
      refine j_iload_n 1 dX3_narrow_61 rfl rfl ?_
      refine j_iconst dX3_narrow_62 (by decide) ?_
      refine j_zast a_14 dX3_narrow_63 (by omega) (by omega) (by omega) ?_
      refine j_nmM (fun M_8 eM_8 => ?_)
      refine j_aload_n 0 dX3_narrow_64 rfl rfl ?_
      refine j_getr f_X3_18 r_9_3 dX3_narrow_65 ?_
      refine j_iload_n 1 dX3_narrow_68 rfl rfl ?_
      refine j_iconst dX3_narrow_69 (by decide) ?_
      refine j_iast a_12 dX3_narrow_70 (by omega) (by omega) ?_
      refine j_nmM (fun M_9 eM_9 => ?_)
      refine j_aload_n 0 dX3_narrow_71 rfl rfl ?_
      refine j_getr f_X3_21 r_9_4 dX3_narrow_72 ?_
      refine j_iload_n 1 dX3_narrow_75 rfl rfl ?_
      refine j_sipush dX3_narrow_76 (by decide) ?_
      refine j_iast a_13 dX3_narrow_79 (by omega) (by omega) ?_
      refine j_nmM (fun M_10 eM_10 => ?_)
      refine j_vret rfl rfl rfl rfl dX3_narrow_80 ?_
      show M_10 = nNarrow M h a b
      unfold nNarrow
      first | (rw [if_pos (by omega)]; done) | (rw [if_neg (by omega), if_pos (by omega), eM_10, eM_9, eM_8, eM_6, eM_4]; done) | (rw [if_neg (by omega), if_neg (by omega), eM_10, eM_9, eM_8, eM_6, eM_4])
  · skip
    refine j_vret rfl rfl rfl rfl dX3_narrow_9 ?_
    show M = nNarrow M h a b
    unfold nNarrow
    first | (rw [if_pos (by omega)]; done) | (rw [if_neg (by omega), if_pos (by omega), jup_zz]; done) | (rw [if_neg (by omega), if_neg (by omega), jup_zz])
abbrev q_X3_addPaper (M : jM)  (h s n d : Int) : Int → jM → Prop := fun r N => r = (if M 11 h = 3 then -3 else M 11 h + 1) ∧ N = (if M 11 h = 3 then M else nPaper M h s n d)
set_option maxHeartbeats 4000000 in
set_option maxRecDepth 20000 in
theorem c_X3_addPaper {X : jX} (M : jM)  (h s n d : Int) (h_cpapers : ∀ i, 0 ≤ M 11 i ∧ M 11 i ≤ 3) (h_cfrom : ∀ i, 0 ≤ M 12 i ∧ M 12 i ≤ 99999) (h_cto : ∀ i, 0 ≤ M 13 i ∧ M 13 i ≤ 10799) (h_ccon : ∀ i, 0 ≤ M 14 i ∧ M 14 i ≤ 1) (h0 : 0 ≤ h ∧ h < 24) (hn : 0 ≤ n ∧ n ≤ 9999) (hs : 0 ≤ s ∧ s ≤ 2) (hd : 0 < s → 0 ≤ d ∧ d ≤ 359) : jC yX3_addPaper D_X3_addPaper X FJ shJ [jR 9, jI h, jI s, jI n, jI d] M (jqI (q_X3_addPaper M h s n d)) := by
  refine jC_of (by decide) rfl (fun ad => Nat.le_of_ble_eq_true rfl) (by decide) ?_
  show jG D_X3_addPaper X FJ shJ 0 0 (jqI (q_X3_addPaper M h s n d)) 0 [(0, jR 9), (1, jI h), (2, jI s), (3, jI n), (4, jI d)] [] M
  refine j_aload_n 0 dX3_addPaper_0 rfl rfl ?_
  refine j_getr f_X3_15 r_9_2 dX3_addPaper_1 ?_
  refine j_iload_n 1 dX3_addPaper_4 rfl rfl ?_
  refine j_iald a_11 dX3_addPaper_5 (by omega) (by omega) ?_
  have g_1 := h_cpapers h
  refine j_iconst dX3_addPaper_6 (by decide) ?_
  refine j_icmp_ne (tgt := 13) dX3_addPaper_7 (by decide) (fun c7_2 => ?_) (fun c7_2 => ?_)
  · skip
    refine j_iload_n 2 dX3_addPaper_13 rfl rfl ?_
    refine j_if_ne (tgt := 27) dX3_addPaper_14 (by decide) (fun c14_3 => ?_) (fun c14_3 => ?_)
    · skip
      refine j_iload_n 2 dX3_addPaper_27 rfl rfl ?_
      refine j_iconst dX3_addPaper_28 (by decide) ?_
      refine j_icmp_ne (tgt := 64) dX3_addPaper_29 (by decide) (fun c29_4 => ?_) (fun c29_4 => ?_)
      · skip
        refine j_aload_n 0 dX3_addPaper_64 rfl rfl ?_
        refine j_iload_n 1 dX3_addPaper_65 rfl rfl ?_
        refine j_iload_n 3 dX3_addPaper_66 rfl rfl ?_
        refine j_sipush dX3_addPaper_67 (by decide) ?_
        refine j_imul dX3_addPaper_70 (by omega) ?_
        refine j_iload 4 dX3_addPaper_71 rfl ?_
        refine j_isub dX3_addPaper_73 (by omega) ?_
        refine j_sipush dX3_addPaper_74 (by decide) ?_
        refine j_callVv l_X3_36 ⟨Nat.le_of_ble_eq_true rfl, Nat.le_of_ble_eq_true rfl⟩ ⟨rfl, rfl⟩ dX3_addPaper_77 ob_9 (c_X3_narrow M h (((n * 360) - d)) 10799 h_cfrom h_cto h_ccon (by first | assumption | omega)) rfl rfl (Nat.le_of_ble_eq_true rfl) (fun M_6 h_7 => ?_)
        have eM_6 := h_7
        unfold q_X3_narrow at eM_6
        have frh_7 : ∀ c, c ≠ 12 → c ≠ 13 → c ≠ 14 → M_6 c = M c := fun c z1 z2 z3 => by rw [eM_6]; exact nNarrow_fr z1 z2 z3
        refine j_aload_n 0 dX3_addPaper_80 rfl rfl ?_
        refine j_getr f_X3_15 r_9_2 dX3_addPaper_81 ?_
        refine j_iload_n 1 dX3_addPaper_84 rfl rfl ?_
        refine j_dup2 dX3_addPaper_85 rfl rfl ?_
        refine j_iald a_11 dX3_addPaper_86 (by omega) (by omega) ?_
        refine j_eq (congrFun (frh_7 11 (by decide) (by decide) (by decide)) h) ?_
        have g_8 := h_cpapers h
        refine j_iconst dX3_addPaper_87 (by decide) ?_
        refine j_iadd dX3_addPaper_88 (by omega) ?_
        refine j_iast a_11 dX3_addPaper_89 (by omega) (by omega) ?_
        refine j_nmM (fun M_9 eM_9 => ?_)
        refine j_aload_n 0 dX3_addPaper_90 rfl rfl ?_
        refine j_getr f_X3_15 r_9_2 dX3_addPaper_91 ?_
        refine j_iload_n 1 dX3_addPaper_94 rfl rfl ?_
        refine j_iald a_11 dX3_addPaper_95 (by omega) (by omega) ?_
        refine j_eq ((congrFun (congrFun eM_9 11) h).trans (jup_self _ _ _ _)) ?_
        refine j_iret rfl rfl rfl rfl dX3_addPaper_96 ?_
        refine ⟨by (repeat' split) <;> omega, ?_⟩
        first | (rw [if_pos (by omega)]; done) | (rw [if_neg (by omega), eM_9]; unfold nPaper cLeast cMost; subst_vars; (repeat' split) <;> first | rfl | (exfalso; omega) | grind)
      · skip
        refine j_aload_n 0 dX3_addPaper_32 rfl rfl ?_
        refine j_iload_n 1 dX3_addPaper_33 rfl rfl ?_
        refine j_iload_n 3 dX3_addPaper_34 rfl rfl ?_
        refine j_iconst dX3_addPaper_35 (by decide) ?_
        refine j_idiv dX3_addPaper_36 (by omega) (by omega) ?_
        refine j_sipush dX3_addPaper_37 (by decide) ?_
        refine j_imul dX3_addPaper_40 (by omega) ?_
        refine j_iload 4 dX3_addPaper_41 rfl ?_
        refine j_isub dX3_addPaper_43 (by omega) ?_
        refine j_iload_n 3 dX3_addPaper_44 rfl rfl ?_
        refine j_iconst dX3_addPaper_45 (by decide) ?_
        refine j_idiv dX3_addPaper_46 (by omega) (by omega) ?_
        refine j_iconst dX3_addPaper_47 (by decide) ?_
        refine j_iadd dX3_addPaper_48 (by omega) ?_
        refine j_sipush dX3_addPaper_49 (by decide) ?_
        refine j_imul dX3_addPaper_52 (by omega) ?_
        refine j_iload 4 dX3_addPaper_53 rfl ?_
        refine j_isub dX3_addPaper_55 (by omega) ?_
        refine j_iconst dX3_addPaper_56 (by decide) ?_
        refine j_isub dX3_addPaper_57 (by omega) ?_
        refine j_callVv l_X3_36 ⟨Nat.le_of_ble_eq_true rfl, Nat.le_of_ble_eq_true rfl⟩ ⟨rfl, rfl⟩ dX3_addPaper_58 ob_9 (c_X3_narrow M h ((((n / 3) * 360) - d)) ((((((n / 2) + 5) * 360) - d) - 1)) h_cfrom h_cto h_ccon (by first | assumption | omega)) rfl rfl (Nat.le_of_ble_eq_true rfl) (fun M_11 h_12 => ?_)
        have eM_11 := h_12
        unfold q_X3_narrow at eM_11
        have frh_12 : ∀ c, c ≠ 12 → c ≠ 13 → c ≠ 14 → M_11 c = M c := fun c z1 z2 z3 => by rw [eM_11]; exact nNarrow_fr z1 z2 z3
        refine j_goto (tgt := 80) dX3_addPaper_61 (by decide) ?_
        refine j_aload_n 0 dX3_addPaper_80 rfl rfl ?_
        refine j_getr f_X3_15 r_9_2 dX3_addPaper_81 ?_
        refine j_iload_n 1 dX3_addPaper_84 rfl rfl ?_
        refine j_dup2 dX3_addPaper_85 rfl rfl ?_
        refine j_iald a_11 dX3_addPaper_86 (by omega) (by omega) ?_
        refine j_eq (congrFun (frh_12 11 (by decide) (by decide) (by decide)) h) ?_
        have g_13 := h_cpapers h
        refine j_iconst dX3_addPaper_87 (by decide) ?_
        refine j_iadd dX3_addPaper_88 (by omega) ?_
        refine j_iast a_11 dX3_addPaper_89 (by omega) (by omega) ?_
        refine j_nmM (fun M_14 eM_14 => ?_)
        refine j_aload_n 0 dX3_addPaper_90 rfl rfl ?_
        refine j_getr f_X3_15 r_9_2 dX3_addPaper_91 ?_
        refine j_iload_n 1 dX3_addPaper_94 rfl rfl ?_
        refine j_iald a_11 dX3_addPaper_95 (by omega) (by omega) ?_
        refine j_eq ((congrFun (congrFun eM_14 11) h).trans (jup_self _ _ _ _)) ?_
        refine j_iret rfl rfl rfl rfl dX3_addPaper_96 ?_
        refine ⟨by (repeat' split) <;> omega, ?_⟩
        first | (rw [if_pos (by omega)]; done) | (rw [if_neg (by omega), eM_14]; unfold nPaper cLeast cMost; subst_vars; (repeat' split) <;> first | rfl | (exfalso; omega) | grind)
    · skip
      refine j_aload_n 0 dX3_addPaper_17 rfl rfl ?_
      refine j_iload_n 1 dX3_addPaper_18 rfl rfl ?_
      refine j_iload_n 3 dX3_addPaper_19 rfl rfl ?_
      refine j_iload_n 3 dX3_addPaper_20 rfl rfl ?_
      refine j_callVv l_X3_36 ⟨Nat.le_of_ble_eq_true rfl, Nat.le_of_ble_eq_true rfl⟩ ⟨rfl, rfl⟩ dX3_addPaper_21 ob_9 (c_X3_narrow M h n n h_cfrom h_cto h_ccon (by first | assumption | omega)) rfl rfl (Nat.le_of_ble_eq_true rfl) (fun M_16 h_17 => ?_)
      have eM_16 := h_17
      unfold q_X3_narrow at eM_16
      have frh_17 : ∀ c, c ≠ 12 → c ≠ 13 → c ≠ 14 → M_16 c = M c := fun c z1 z2 z3 => by rw [eM_16]; exact nNarrow_fr z1 z2 z3
      refine j_goto (tgt := 80) dX3_addPaper_24 (by decide) ?_
      refine j_aload_n 0 dX3_addPaper_80 rfl rfl ?_
      refine j_getr f_X3_15 r_9_2 dX3_addPaper_81 ?_
      refine j_iload_n 1 dX3_addPaper_84 rfl rfl ?_
      refine j_dup2 dX3_addPaper_85 rfl rfl ?_
      refine j_iald a_11 dX3_addPaper_86 (by omega) (by omega) ?_
      refine j_eq (congrFun (frh_17 11 (by decide) (by decide) (by decide)) h) ?_
      have g_18 := h_cpapers h
      refine j_iconst dX3_addPaper_87 (by decide) ?_
      refine j_iadd dX3_addPaper_88 (by omega) ?_
      refine j_iast a_11 dX3_addPaper_89 (by omega) (by omega) ?_
      refine j_nmM (fun M_19 eM_19 => ?_)
      refine j_aload_n 0 dX3_addPaper_90 rfl rfl ?_
      refine j_getr f_X3_15 r_9_2 dX3_addPaper_91 ?_
      refine j_iload_n 1 dX3_addPaper_94 rfl rfl ?_
      refine j_iald a_11 dX3_addPaper_95 (by omega) (by omega) ?_
      refine j_eq ((congrFun (congrFun eM_19 11) h).trans (jup_self _ _ _ _)) ?_
      refine j_iret rfl rfl rfl rfl dX3_addPaper_96 ?_
      refine ⟨by (repeat' split) <;> omega, ?_⟩
      first | (rw [if_pos (by omega)]; done) | (rw [if_neg (by omega), eM_19]; unfold nPaper cLeast cMost; subst_vars; (repeat' split) <;> first | rfl | (exfalso; omega) | grind)
  · skip
    refine j_bipush dX3_addPaper_10 (by decide) ?_
    refine j_iret rfl rfl rfl rfl dX3_addPaper_12 ?_
    refine ⟨by (repeat' split) <;> omega, ?_⟩
    first | (rw [if_pos (by omega)]; done) | (rw [if_neg (by omega), jup_zz]; unfold nPaper cLeast cMost; subst_vars; (repeat' split) <;> first | rfl | (exfalso; omega) | grind)
abbrev q_X3_ageFrom (M : jM)  (h d : Int) : Int → jM → Prop := fun r N => r = (M 12 h + d) / 360 ∧ N = M
set_option maxHeartbeats 4000000 in
set_option maxRecDepth 20000 in
theorem c_X3_ageFrom {X : jX} (M : jM)  (h d : Int) (h_cfrom : ∀ i, 0 ≤ M 12 i ∧ M 12 i ≤ 99999) (h0 : 0 ≤ h ∧ h < 24) (hd : 0 ≤ d ∧ d ≤ 359) : jC yX3_ageFrom D_X3_ageFrom X FJ shJ [jR 9, jI h, jI d] M (jqI (q_X3_ageFrom M h d)) := by
  refine jC_of (by decide) rfl (fun ad => Nat.le_of_ble_eq_true rfl) (by decide) ?_
  show jG D_X3_ageFrom X FJ shJ 0 0 (jqI (q_X3_ageFrom M h d)) 0 [(0, jR 9), (1, jI h), (2, jI d)] [] M
  refine j_aload_n 0 dX3_ageFrom_0 rfl rfl ?_
  refine j_getr f_X3_18 r_9_3 dX3_ageFrom_1 ?_
  refine j_iload_n 1 dX3_ageFrom_4 rfl rfl ?_
  refine j_iald a_12 dX3_ageFrom_5 (by omega) (by omega) ?_
  have g_1 := h_cfrom h
  refine j_iload_n 2 dX3_ageFrom_6 rfl rfl ?_
  refine j_iadd dX3_ageFrom_7 (by omega) ?_
  refine j_sipush dX3_ageFrom_8 (by decide) ?_
  refine j_idiv dX3_ageFrom_11 (by omega) (by omega) ?_
  refine j_iret rfl rfl rfl rfl dX3_ageFrom_12 ?_
  exact ⟨rfl, rfl⟩
abbrev q_X3_ageTo (M : jM)  (h d : Int) : Int → jM → Prop := fun r N => r = (M 13 h + d) / 360 ∧ N = M
set_option maxHeartbeats 4000000 in
set_option maxRecDepth 20000 in
theorem c_X3_ageTo {X : jX} (M : jM)  (h d : Int) (h_cto : ∀ i, 0 ≤ M 13 i ∧ M 13 i ≤ 10799) (h0 : 0 ≤ h ∧ h < 24) (hd : 0 ≤ d ∧ d ≤ 359) : jC yX3_ageTo D_X3_ageTo X FJ shJ [jR 9, jI h, jI d] M (jqI (q_X3_ageTo M h d)) := by
  refine jC_of (by decide) rfl (fun ad => Nat.le_of_ble_eq_true rfl) (by decide) ?_
  show jG D_X3_ageTo X FJ shJ 0 0 (jqI (q_X3_ageTo M h d)) 0 [(0, jR 9), (1, jI h), (2, jI d)] [] M
  refine j_aload_n 0 dX3_ageTo_0 rfl rfl ?_
  refine j_getr f_X3_21 r_9_4 dX3_ageTo_1 ?_
  refine j_iload_n 1 dX3_ageTo_4 rfl rfl ?_
  refine j_iald a_13 dX3_ageTo_5 (by omega) (by omega) ?_
  have g_1 := h_cto h
  refine j_iload_n 2 dX3_ageTo_6 rfl rfl ?_
  refine j_iadd dX3_ageTo_7 (by omega) ?_
  refine j_sipush dX3_ageTo_8 (by decide) ?_
  refine j_idiv dX3_ageTo_11 (by omega) (by omega) ?_
  refine j_iret rfl rfl rfl rfl dX3_ageTo_12 ?_
  exact ⟨rfl, rfl⟩
abbrev q_X8_isPlaced (M : jM)  (h m day : Int) : Int → jM → Prop := fun r N => ((r = 1 ∧ ((0 ≤ h ∧ h < M 9 0) ∧ (0 ≤ m ∧ m < M 1 0) ∧ (0 ≤ day ∧ day ≤ 359))) ∨ (r = 0 ∧ ¬ ((0 ≤ h ∧ h < M 9 0) ∧ (0 ≤ m ∧ m < M 1 0) ∧ (0 ≤ day ∧ day ≤ 359)))) ∧ N = M
set_option maxHeartbeats 4000000 in
set_option maxRecDepth 20000 in
theorem c_X8_isPlaced {X : jX} (M : jM)  (h m day : Int)  : jC yX8_isPlaced D_X8_isPlaced X FJ shJ [jR 0, jI h, jI m, jI day] M (jqI (q_X8_isPlaced M h m day)) := by
  refine jC_of (by decide) rfl (fun ad => Nat.le_of_ble_eq_true rfl) (by decide) ?_
  show jG D_X8_isPlaced X FJ shJ 0 0 (jqI (q_X8_isPlaced M h m day)) 0 [(0, jR 0), (1, jI h), (2, jI m), (3, jI day)] [] M
  refine j_aload_n 0 dX8_isPlaced_0 rfl rfl ?_
  refine j_getr f_X8_19 r_0_1 dX8_isPlaced_1 ?_
  refine j_iload_n 1 dX8_isPlaced_4 rfl rfl ?_
  refine j_callVi l_X8_85 ⟨Nat.le_of_ble_eq_true rfl, Nat.le_of_ble_eq_true rfl⟩ ⟨rfl, rfl⟩ dX8_isPlaced_5 ob_9 (c_X3_knows M h) rfl rfl (Nat.le_of_ble_eq_true rfl) (fun r_1 M_2 h_3 => ?_)
  obtain ⟨er_1, nh_3⟩ := h_3
  refine j_eqM nh_3 ?_
  clear nh_3
  refine j_if_eq (tgt := 33) dX8_isPlaced_8 (by decide) (fun c8_4 => ?_) (fun c8_4 => ?_)
  · skip
    refine j_iconst dX8_isPlaced_33 (by decide) ?_
    refine j_zret rfl rfl rfl rfl dX8_isPlaced_34 (by omega) ?_
    exact ⟨by omega, rfl⟩
  · skip
    refine j_aload_n 0 dX8_isPlaced_11 rfl rfl ?_
    refine j_getr f_X8_10 r_0_0 dX8_isPlaced_12 ?_
    refine j_iload_n 2 dX8_isPlaced_15 rfl rfl ?_
    refine j_callVi l_X8_178 ⟨Nat.le_of_ble_eq_true rfl, Nat.le_of_ble_eq_true rfl⟩ ⟨rfl, rfl⟩ dX8_isPlaced_16 ob_1 (c_X4_knows M m) rfl rfl (Nat.le_of_ble_eq_true rfl) (fun r_5 M_6 h_7 => ?_)
    obtain ⟨er_5, nh_7⟩ := h_7
    refine j_eqM nh_7 ?_
    clear nh_7
    refine j_if_eq (tgt := 33) dX8_isPlaced_19 (by decide) (fun c19_8 => ?_) (fun c19_8 => ?_)
    · skip
      refine j_iconst dX8_isPlaced_33 (by decide) ?_
      refine j_zret rfl rfl rfl rfl dX8_isPlaced_34 (by omega) ?_
      exact ⟨by omega, rfl⟩
    · skip
      refine j_iload_n 3 dX8_isPlaced_22 rfl rfl ?_
      refine j_callSi l_X8_103 ⟨Nat.le_of_ble_eq_true rfl, Nat.le_of_ble_eq_true rfl⟩ ⟨rfl, rfl⟩ dX8_isPlaced_23 (c_X8_isDay M day) rfl rfl (Nat.le_of_ble_eq_true rfl) (fun r_9 M_10 h_11 => ?_)
      obtain ⟨er_9, nh_11⟩ := h_11
      refine j_eqM nh_11 ?_
      clear nh_11
      have hJ_12 : ∀ zz : Int, (r_9 = 0 ∧ zz = 0) ∨ (¬ r_9 = 0 ∧ zz = 1) → jG D_X8_isPlaced X FJ shJ 0 0 (jqI (q_X8_isPlaced M h m day)) 34 [(0, jR 0), (1, jI h), (2, jI m), (3, jI day)] (jI zz :: []) M := by
        intro t_13 et_13
        refine j_zret rfl rfl rfl rfl dX8_isPlaced_34 (by omega) ?_
        exact ⟨by omega, rfl⟩
      refine j_if_eq (tgt := 33) dX8_isPlaced_26 (by decide) (fun c26_14 => ?_) (fun c26_14 => ?_)
      · skip
        refine j_iconst dX8_isPlaced_33 (by decide) ?_
        exact hJ_12 _ (Or.inl ⟨c26_14, rfl⟩)
      · skip
        refine j_iconst dX8_isPlaced_29 (by decide) ?_
        refine j_goto (tgt := 34) dX8_isPlaced_30 (by decide) ?_
        exact hJ_12 _ (Or.inr (⟨c26_14, rfl⟩))
abbrev q_X8_mill (M : jM)  (a b c : Int) : Int → jM → Prop := fun r N => r = fMill (M 1 0) a b c ∧ N = (if 0 ≤ fMill (M 1 0) a b c then jup (jup (jup (jup M 2 (M 1 0) a) 3 (M 1 0) b) 4 (M 1 0) c) 1 0 (M 1 0 + 1) else M)
set_option maxHeartbeats 4000000 in
set_option maxRecDepth 20000 in
theorem c_X8_mill {X : jX} (M : jM)  (a b c : Int) (h_cmills : 0 ≤ M 1 0 ∧ M 1 0 ≤ 6) : jC yX8_mill D_X8_mill X FJ shJ [jR 0, jI a, jI b, jI c] M (jqI (q_X8_mill M a b c)) := by
  refine jC_of (by decide) rfl (fun ad => Nat.le_of_ble_eq_true rfl) (by decide) ?_
  show jG D_X8_mill X FJ shJ 0 0 (jqI (q_X8_mill M a b c)) 0 [(0, jR 0), (1, jI a), (2, jI b), (3, jI c)] [] M
  refine j_iload_n 1 dX8_mill_0 rfl rfl ?_
  refine j_iconst dX8_mill_1 (by decide) ?_
  refine j_iconst dX8_mill_2 (by decide) ?_
  refine j_callSi l_X8_74 ⟨Nat.le_of_ble_eq_true rfl, Nat.le_of_ble_eq_true rfl⟩ ⟨rfl, rfl⟩ dX8_mill_3 (c_X8_within M a 0 3) rfl rfl (Nat.le_of_ble_eq_true rfl) (fun r_1 M_2 h_3 => ?_)
  obtain ⟨er_1, nh_3⟩ := h_3
  refine j_eqM nh_3 ?_
  clear nh_3
  refine j_if_eq (tgt := 29) dX8_mill_6 (by decide) (fun c6_4 => ?_) (fun c6_4 => ?_)
  · skip
    refine j_iconst dX8_mill_29 (by decide) ?_
    refine j_iret rfl rfl rfl rfl dX8_mill_30 ?_
    refine ⟨by unfold fMill; (repeat' split) <;> first | omega | grind, ?_⟩
    first | rw [eM] | skip
    unfold fMill
    (repeat' split) <;> first | rfl | (exfalso; omega) | grind
  · skip
    refine j_iload_n 2 dX8_mill_9 rfl rfl ?_
    refine j_iconst dX8_mill_10 (by decide) ?_
    refine j_bipush dX8_mill_11 (by decide) ?_
    refine j_callSi l_X8_74 ⟨Nat.le_of_ble_eq_true rfl, Nat.le_of_ble_eq_true rfl⟩ ⟨rfl, rfl⟩ dX8_mill_13 (c_X8_within M b 1 9) rfl rfl (Nat.le_of_ble_eq_true rfl) (fun r_5 M_6 h_7 => ?_)
    obtain ⟨er_5, nh_7⟩ := h_7
    refine j_eqM nh_7 ?_
    clear nh_7
    refine j_if_eq (tgt := 29) dX8_mill_16 (by decide) (fun c16_8 => ?_) (fun c16_8 => ?_)
    · skip
      refine j_iconst dX8_mill_29 (by decide) ?_
      refine j_iret rfl rfl rfl rfl dX8_mill_30 ?_
      refine ⟨by unfold fMill; (repeat' split) <;> first | omega | grind, ?_⟩
      first | rw [eM] | skip
      unfold fMill
      (repeat' split) <;> first | rfl | (exfalso; omega) | grind
    · skip
      refine j_iload_n 3 dX8_mill_19 rfl rfl ?_
      refine j_iconst dX8_mill_20 (by decide) ?_
      refine j_bipush dX8_mill_21 (by decide) ?_
      refine j_callSi l_X8_74 ⟨Nat.le_of_ble_eq_true rfl, Nat.le_of_ble_eq_true rfl⟩ ⟨rfl, rfl⟩ dX8_mill_23 (c_X8_within M c 1 8) rfl rfl (Nat.le_of_ble_eq_true rfl) (fun r_9 M_10 h_11 => ?_)
      obtain ⟨er_9, nh_11⟩ := h_11
      refine j_eqM nh_11 ?_
      clear nh_11
      refine j_if_ne (tgt := 31) dX8_mill_26 (by decide) (fun c26_12 => ?_) (fun c26_12 => ?_)
      · skip
        refine j_aload_n 0 dX8_mill_31 rfl rfl ?_
        refine j_getr f_X8_10 r_0_0 dX8_mill_32 ?_
        refine j_iload_n 1 dX8_mill_35 rfl rfl ?_
        refine j_iload_n 2 dX8_mill_36 rfl rfl ?_
        refine j_iload_n 3 dX8_mill_37 rfl rfl ?_
        refine j_callVi l_X8_78 ⟨Nat.le_of_ble_eq_true rfl, Nat.le_of_ble_eq_true rfl⟩ ⟨rfl, rfl⟩ dX8_mill_38 ob_1 (c_X4_add M a b c h_cmills) rfl rfl (Nat.le_of_ble_eq_true rfl) (fun r_13 M_14 h_15 => ?_)
        obtain ⟨er_13, eM_14⟩ := h_15
        refine j_iret rfl rfl rfl rfl dX8_mill_41 ?_
        refine ⟨by unfold fMill; (repeat' split) <;> first | omega | grind, ?_⟩
        first | rw [eM_14] | skip
        unfold fMill
        (repeat' split) <;> first | rfl | (exfalso; omega) | grind
      · skip
        refine j_iconst dX8_mill_29 (by decide) ?_
        refine j_iret rfl rfl rfl rfl dX8_mill_30 ?_
        refine ⟨by unfold fMill; (repeat' split) <;> first | omega | grind, ?_⟩
        first | rw [eM] | skip
        unfold fMill
        (repeat' split) <;> first | rfl | (exfalso; omega) | grind
abbrev q_X8_hand (M : jM)  (a b : Int) : Int → jM → Prop := fun r N => r = fHand (M 9 0) a b ∧ N = (if 0 ≤ fHand (M 9 0) a b then jup (jup (jup (jup (jup M 10 (M 9 0) a) 15 (M 9 0) b) 12 (M 9 0) 0) 13 (M 9 0) 10799) 9 0 (M 9 0 + 1) else M)
set_option maxHeartbeats 4000000 in
set_option maxRecDepth 20000 in
theorem c_X8_hand {X : jX} (M : jM)  (a b : Int) (h_chands : 0 ≤ M 9 0 ∧ M 9 0 ≤ 24) : jC yX8_hand D_X8_hand X FJ shJ [jR 0, jI a, jI b] M (jqI (q_X8_hand M a b)) := by
  refine jC_of (by decide) rfl (fun ad => Nat.le_of_ble_eq_true rfl) (by decide) ?_
  show jG D_X8_hand X FJ shJ 0 0 (jqI (q_X8_hand M a b)) 0 [(0, jR 0), (1, jI a), (2, jI b)] [] M
  refine j_iload_n 1 dX8_hand_0 rfl rfl ?_
  refine j_iconst dX8_hand_1 (by decide) ?_
  refine j_iconst dX8_hand_2 (by decide) ?_
  refine j_callSi l_X8_74 ⟨Nat.le_of_ble_eq_true rfl, Nat.le_of_ble_eq_true rfl⟩ ⟨rfl, rfl⟩ dX8_hand_3 (c_X8_within M a 0 5) rfl rfl (Nat.le_of_ble_eq_true rfl) (fun r_1 M_2 h_3 => ?_)
  obtain ⟨er_1, nh_3⟩ := h_3
  refine j_eqM nh_3 ?_
  clear nh_3
  refine j_if_eq (tgt := 18) dX8_hand_6 (by decide) (fun c6_4 => ?_) (fun c6_4 => ?_)
  · skip
    refine j_iconst dX8_hand_18 (by decide) ?_
    refine j_iret rfl rfl rfl rfl dX8_hand_19 ?_
    refine ⟨by unfold fHand; (repeat' split) <;> first | omega | grind, ?_⟩
    first | rw [eM] | skip
    unfold fHand
    (repeat' split) <;> first | rfl | (exfalso; omega) | grind
  · skip
    refine j_iload_n 2 dX8_hand_9 rfl rfl ?_
    refine j_iconst dX8_hand_10 (by decide) ?_
    refine j_iconst dX8_hand_11 (by decide) ?_
    refine j_callSi l_X8_74 ⟨Nat.le_of_ble_eq_true rfl, Nat.le_of_ble_eq_true rfl⟩ ⟨rfl, rfl⟩ dX8_hand_12 (c_X8_within M b 0 3) rfl rfl (Nat.le_of_ble_eq_true rfl) (fun r_5 M_6 h_7 => ?_)
    obtain ⟨er_5, nh_7⟩ := h_7
    refine j_eqM nh_7 ?_
    clear nh_7
    refine j_if_ne (tgt := 20) dX8_hand_15 (by decide) (fun c15_8 => ?_) (fun c15_8 => ?_)
    · skip
      refine j_aload_n 0 dX8_hand_20 rfl rfl ?_
      refine j_getr f_X8_19 r_0_1 dX8_hand_21 ?_
      refine j_iload_n 1 dX8_hand_24 rfl rfl ?_
      refine j_iload_n 2 dX8_hand_25 rfl rfl ?_
      refine j_callVi l_X8_82 ⟨Nat.le_of_ble_eq_true rfl, Nat.le_of_ble_eq_true rfl⟩ ⟨rfl, rfl⟩ dX8_hand_26 ob_9 (c_X3_add M a b h_chands) rfl rfl (Nat.le_of_ble_eq_true rfl) (fun r_9 M_10 h_11 => ?_)
      obtain ⟨er_9, eM_10⟩ := h_11
      refine j_iret rfl rfl rfl rfl dX8_hand_29 ?_
      refine ⟨by unfold fHand; (repeat' split) <;> first | omega | grind, ?_⟩
      first | rw [eM_10] | skip
      unfold fHand
      (repeat' split) <;> first | rfl | (exfalso; omega) | grind
    · skip
      refine j_iconst dX8_hand_18 (by decide) ?_
      refine j_iret rfl rfl rfl rfl dX8_hand_19 ?_
      refine ⟨by unfold fHand; (repeat' split) <;> first | omega | grind, ?_⟩
      first | rw [eM] | skip
      unfold fHand
      (repeat' split) <;> first | rfl | (exfalso; omega) | grind
abbrev q_X8_custom (M : jM)  (k h : Int) : Int → jM → Prop := fun r N => r = fCustomQ (M 9 0) (M 15) (M 11) k h ∧ N = (if 0 ≤ k ∧ k ≤ 5 ∧ 0 ≤ h ∧ h < M 9 0 then jup M 0 9 (M 0 9 + fTrace k) else M)
set_option maxHeartbeats 4000000 in
set_option maxRecDepth 20000 in
theorem c_X8_custom {X : jX} (M : jM)  (k h : Int) (h_chands : 0 ≤ M 9 0 ∧ M 9 0 ≤ 24) (h_cgrade : ∀ i, 0 ≤ M 15 i ∧ M 15 i ≤ 3) (h_cpapers : ∀ i, 0 ≤ M 11 i ∧ M 11 i ≤ 3) : jC yX8_custom D_X8_custom X FJ shJ [jR 0, jI k, jI h] M (jqI (q_X8_custom M k h)) := by
  refine jC_of (by decide) rfl (fun ad => Nat.le_of_ble_eq_true rfl) (by decide) ?_
  show jG D_X8_custom X FJ shJ 0 0 (jqI (q_X8_custom M k h)) 0 [(0, jR 0), (1, jI k), (2, jI h)] [] M
  refine j_iload_n 1 dX8_custom_0 rfl rfl ?_
  refine j_iconst dX8_custom_1 (by decide) ?_
  refine j_iconst dX8_custom_2 (by decide) ?_
  refine j_callSi l_X8_74 ⟨Nat.le_of_ble_eq_true rfl, Nat.le_of_ble_eq_true rfl⟩ ⟨rfl, rfl⟩ dX8_custom_3 (c_X8_within M k 0 5) rfl rfl (Nat.le_of_ble_eq_true rfl) (fun r_1 M_2 h_3 => ?_)
  obtain ⟨er_1, nh_3⟩ := h_3
  refine j_eqM nh_3 ?_
  clear nh_3
  refine j_if_eq (tgt := 20) dX8_custom_6 (by decide) (fun c6_4 => ?_) (fun c6_4 => ?_)
  · skip
    refine j_iconst dX8_custom_20 (by decide) ?_
    refine j_iret rfl rfl rfl rfl dX8_custom_21 ?_
    refine ⟨by unfold fCustomQ; split <;> first | omega | grind, ?_⟩
    first | (rw [if_neg (by omega)]; done) | (rw [if_pos (by omega), jup_zz]; done) | (rw [if_pos (by omega), jup_zz]; congr 1; omega)
  · skip
    refine j_aload_n 0 dX8_custom_9 rfl rfl ?_
    refine j_getr f_X8_19 r_0_1 dX8_custom_10 ?_
    refine j_iload_n 2 dX8_custom_13 rfl rfl ?_
    refine j_callVi l_X8_85 ⟨Nat.le_of_ble_eq_true rfl, Nat.le_of_ble_eq_true rfl⟩ ⟨rfl, rfl⟩ dX8_custom_14 ob_9 (c_X3_knows M h) rfl rfl (Nat.le_of_ble_eq_true rfl) (fun r_5 M_6 h_7 => ?_)
    obtain ⟨er_5, nh_7⟩ := h_7
    refine j_eqM nh_7 ?_
    clear nh_7
    refine j_if_ne (tgt := 22) dX8_custom_17 (by decide) (fun c17_8 => ?_) (fun c17_8 => ?_)
    · skip
      refine j_aload_n 0 dX8_custom_22 rfl rfl ?_
      refine j_dup dX8_custom_23 rfl ?_
      refine j_getl (k' := 9) f_X8_89 o_0_9 dX8_custom_24 rfl ?_
      refine j_iload_n 1 dX8_custom_27 rfl rfl ?_
      refine j_callSi l_X8_93 ⟨Nat.le_of_ble_eq_true rfl, Nat.le_of_ble_eq_true rfl⟩ ⟨rfl, rfl⟩ dX8_custom_28 (c_X3_traceOf M k (by first | assumption | omega)) rfl rfl (Nat.le_of_ble_eq_true rfl) (fun r_9 M_10 h_11 => ?_)
      obtain ⟨er_9, nh_11⟩ := h_11
      refine j_eqM nh_11 ?_
      clear nh_11
      refine j_i2l dX8_custom_31 ?_
      refine j_ladd dX8_custom_32 ?_
      refine j_putl (k' := 9) f_X8_89 o_0_9 dX8_custom_33 rfl ?_
      refine j_nmM (fun M_12 eM_12 => ?_)
      refine j_aload_n 0 dX8_custom_36 rfl rfl ?_
      refine j_getr f_X8_19 r_0_1 dX8_custom_37 ?_
      refine j_iload_n 1 dX8_custom_40 rfl rfl ?_
      refine j_iload_n 2 dX8_custom_41 rfl rfl ?_
      refine j_callVi l_X8_97 ⟨Nat.le_of_ble_eq_true rfl, Nat.le_of_ble_eq_true rfl⟩ ⟨rfl, rfl⟩ dX8_custom_42 ob_9 (c_X3_customAs M_12 k h (by rw [((congrFun eM_12 15).trans (jup_cell (by decide)))]; exact h_cgrade) (by rw [((congrFun eM_12 11).trans (jup_cell (by decide)))]; exact h_cpapers) (by first | assumption | omega) (by first | assumption | omega)) rfl rfl (Nat.le_of_ble_eq_true rfl) (fun r_13 M_14 h_15 => ?_)
      obtain ⟨er_13, nh_15⟩ := h_15
      refine j_eqM nh_15 ?_
      clear nh_15
      simp only [((congrFun eM_12 15).trans (jup_cell (by decide))), ((congrFun eM_12 11).trans (jup_cell (by decide)))] at er_13
      refine j_iret rfl rfl rfl rfl dX8_custom_45 ?_
      refine ⟨by unfold fCustomQ; split <;> first | omega | grind, ?_⟩
      first | (rw [if_neg (by omega)]; done) | (rw [if_pos (by omega), eM_12]; done) | (rw [if_pos (by omega), eM_12]; congr 1; omega)
    · skip
      refine j_iconst dX8_custom_20 (by decide) ?_
      refine j_iret rfl rfl rfl rfl dX8_custom_21 ?_
      refine ⟨by unfold fCustomQ; split <;> first | omega | grind, ?_⟩
      first | (rw [if_neg (by omega)]; done) | (rw [if_pos (by omega), jup_zz]; done) | (rw [if_pos (by omega), jup_zz]; congr 1; omega)
abbrev q_X8_paper (M : jM)  (h s n d : Int) : Int → jM → Prop := fun r N => r = fPaper (M 9 0) (M 11) h s n d ∧ N = (if 0 ≤ fPaper (M 9 0) (M 11) h s n d then nPaper M h s n d else M)
set_option maxHeartbeats 4000000 in
set_option maxRecDepth 20000 in
theorem c_X8_paper {X : jX} (M : jM)  (h s n d : Int) (h_chands : 0 ≤ M 9 0 ∧ M 9 0 ≤ 24) (h_cpapers : ∀ i, 0 ≤ M 11 i ∧ M 11 i ≤ 3) (h_cfrom : ∀ i, 0 ≤ M 12 i ∧ M 12 i ≤ 99999) (h_cto : ∀ i, 0 ≤ M 13 i ∧ M 13 i ≤ 10799) (h_ccon : ∀ i, 0 ≤ M 14 i ∧ M 14 i ≤ 1) : jC yX8_paper D_X8_paper X FJ shJ [jR 0, jI h, jI s, jI n, jI d] M (jqI (q_X8_paper M h s n d)) := by
  refine jC_of (by decide) rfl (fun ad => Nat.le_of_ble_eq_true rfl) (by decide) ?_
  show jG D_X8_paper X FJ shJ 0 0 (jqI (q_X8_paper M h s n d)) 0 [(0, jR 0), (1, jI h), (2, jI s), (3, jI n), (4, jI d)] [] M
  have q1 := h_cpapers h
  refine j_aload_n 0 dX8_paper_0 rfl rfl ?_
  refine j_getr f_X8_19 r_0_1 dX8_paper_1 ?_
  refine j_iload_n 1 dX8_paper_4 rfl rfl ?_
  refine j_callVi l_X8_85 ⟨Nat.le_of_ble_eq_true rfl, Nat.le_of_ble_eq_true rfl⟩ ⟨rfl, rfl⟩ dX8_paper_5 ob_9 (c_X3_knows M h) rfl rfl (Nat.le_of_ble_eq_true rfl) (fun r_1 M_2 h_3 => ?_)
  obtain ⟨er_1, nh_3⟩ := h_3
  refine j_eqM nh_3 ?_
  clear nh_3
  refine j_if_eq (tgt := 32) dX8_paper_8 (by decide) (fun c8_4 => ?_) (fun c8_4 => ?_)
  · skip
    refine j_iconst dX8_paper_32 (by decide) ?_
    refine j_iret rfl rfl rfl rfl dX8_paper_33 ?_
    refine ⟨by unfold fPaper; (repeat' split) <;> first | omega | grind, ?_⟩
    first | rw [eM] | skip
    unfold fPaper
    (repeat' split) <;> first | rfl | (exfalso; omega) | grind
  · skip
    refine j_iload_n 2 dX8_paper_11 rfl rfl ?_
    refine j_iconst dX8_paper_12 (by decide) ?_
    refine j_iconst dX8_paper_13 (by decide) ?_
    refine j_callSi l_X8_74 ⟨Nat.le_of_ble_eq_true rfl, Nat.le_of_ble_eq_true rfl⟩ ⟨rfl, rfl⟩ dX8_paper_14 (c_X8_within M s 0 2) rfl rfl (Nat.le_of_ble_eq_true rfl) (fun r_5 M_6 h_7 => ?_)
    obtain ⟨er_5, nh_7⟩ := h_7
    refine j_eqM nh_7 ?_
    clear nh_7
    refine j_if_eq (tgt := 32) dX8_paper_17 (by decide) (fun c17_8 => ?_) (fun c17_8 => ?_)
    · skip
      refine j_iconst dX8_paper_32 (by decide) ?_
      refine j_iret rfl rfl rfl rfl dX8_paper_33 ?_
      refine ⟨by unfold fPaper; (repeat' split) <;> first | omega | grind, ?_⟩
      first | rw [eM] | skip
      unfold fPaper
      (repeat' split) <;> first | rfl | (exfalso; omega) | grind
    · skip
      refine j_iload_n 3 dX8_paper_20 rfl rfl ?_
      refine j_iconst dX8_paper_21 (by decide) ?_
      refine j_iload_n 2 dX8_paper_22 rfl rfl ?_
      refine j_callSi l_X8_100 ⟨Nat.le_of_ble_eq_true rfl, Nat.le_of_ble_eq_true rfl⟩ ⟨rfl, rfl⟩ dX8_paper_23 (c_X3_mostOf M s) rfl rfl (Nat.le_of_ble_eq_true rfl) (fun r_9 M_10 h_11 => ?_)
      obtain ⟨er_9, nh_11⟩ := h_11
      refine j_eqM nh_11 ?_
      clear nh_11
      refine j_callSi l_X8_74 ⟨Nat.le_of_ble_eq_true rfl, Nat.le_of_ble_eq_true rfl⟩ ⟨rfl, rfl⟩ dX8_paper_26 (c_X8_within M n 0 r_9) rfl rfl (Nat.le_of_ble_eq_true rfl) (fun r_12 M_13 h_14 => ?_)
      obtain ⟨er_12, nh_14⟩ := h_14
      refine j_eqM nh_14 ?_
      clear nh_14
      refine j_if_ne (tgt := 34) dX8_paper_29 (by decide) (fun c29_15 => ?_) (fun c29_15 => ?_)
      · skip
        refine j_iload_n 2 dX8_paper_34 rfl rfl ?_
        refine j_if_eq (tgt := 48) dX8_paper_35 (by decide) (fun c35_16 => ?_) (fun c35_16 => ?_)
        · skip
          refine j_aload_n 0 dX8_paper_48 rfl rfl ?_
          refine j_getr f_X8_19 r_0_1 dX8_paper_49 ?_
          refine j_iload_n 1 dX8_paper_52 rfl rfl ?_
          refine j_iload_n 2 dX8_paper_53 rfl rfl ?_
          refine j_iload_n 3 dX8_paper_54 rfl rfl ?_
          refine j_iload 4 dX8_paper_55 rfl ?_
          refine j_callVi l_X8_106 ⟨Nat.le_of_ble_eq_true rfl, Nat.le_of_ble_eq_true rfl⟩ ⟨rfl, rfl⟩ dX8_paper_57 ob_9 (c_X3_addPaper M h s n d h_cpapers h_cfrom h_cto h_ccon (by first | assumption | omega) (by first | assumption | omega) (by first | assumption | omega) (by first | assumption | omega)) rfl rfl (Nat.le_of_ble_eq_true rfl) (fun r_17 M_18 h_19 => ?_)
          obtain ⟨er_17, eM_18⟩ := h_19
          refine j_iret rfl rfl rfl rfl dX8_paper_60 ?_
          refine ⟨by unfold fPaper; (repeat' split) <;> first | omega | grind, ?_⟩
          first | rw [eM_18] | skip
          unfold fPaper
          (repeat' split) <;> first | rfl | (exfalso; omega) | grind
        · skip
          refine j_iload 4 dX8_paper_38 rfl ?_
          refine j_callSi l_X8_103 ⟨Nat.le_of_ble_eq_true rfl, Nat.le_of_ble_eq_true rfl⟩ ⟨rfl, rfl⟩ dX8_paper_40 (c_X8_isDay M d) rfl rfl (Nat.le_of_ble_eq_true rfl) (fun r_20 M_21 h_22 => ?_)
          obtain ⟨er_20, nh_22⟩ := h_22
          refine j_eqM nh_22 ?_
          clear nh_22
          refine j_if_ne (tgt := 48) dX8_paper_43 (by decide) (fun c43_23 => ?_) (fun c43_23 => ?_)
          · skip
            refine j_aload_n 0 dX8_paper_48 rfl rfl ?_
            refine j_getr f_X8_19 r_0_1 dX8_paper_49 ?_
            refine j_iload_n 1 dX8_paper_52 rfl rfl ?_
            refine j_iload_n 2 dX8_paper_53 rfl rfl ?_
            refine j_iload_n 3 dX8_paper_54 rfl rfl ?_
            refine j_iload 4 dX8_paper_55 rfl ?_
            refine j_callVi l_X8_106 ⟨Nat.le_of_ble_eq_true rfl, Nat.le_of_ble_eq_true rfl⟩ ⟨rfl, rfl⟩ dX8_paper_57 ob_9 (c_X3_addPaper M h s n d h_cpapers h_cfrom h_cto h_ccon (by first | assumption | omega) (by first | assumption | omega) (by first | assumption | omega) (by first | assumption | omega)) rfl rfl (Nat.le_of_ble_eq_true rfl) (fun r_24 M_25 h_26 => ?_)
            obtain ⟨er_24, eM_25⟩ := h_26
            refine j_iret rfl rfl rfl rfl dX8_paper_60 ?_
            refine ⟨by unfold fPaper; (repeat' split) <;> first | omega | grind, ?_⟩
            first | rw [eM_25] | skip
            unfold fPaper
            (repeat' split) <;> first | rfl | (exfalso; omega) | grind
          · skip
            refine j_iconst dX8_paper_46 (by decide) ?_
            refine j_iret rfl rfl rfl rfl dX8_paper_47 ?_
            refine ⟨by unfold fPaper; (repeat' split) <;> first | omega | grind, ?_⟩
            first | rw [eM] | skip
            unfold fPaper
            (repeat' split) <;> first | rfl | (exfalso; omega) | grind
      · skip
        refine j_iconst dX8_paper_32 (by decide) ?_
        refine j_iret rfl rfl rfl rfl dX8_paper_33 ?_
        refine ⟨by unfold fPaper; (repeat' split) <;> first | omega | grind, ?_⟩
        first | rw [eM] | skip
        unfold fPaper
        (repeat' split) <;> first | rfl | (exfalso; omega) | grind
abbrev q_X8_born (M : jM)  (h w : Int) : Int → jM → Prop := fun r N => r = (if 0 ≤ h ∧ h < M 9 0 ∧ 0 ≤ w ∧ w ≤ 2 then (if w = 2 then (if M 14 h = 0 then 0 else 1) else if w = 0 then M 12 h else M 13 h) else -1) ∧ N = M
set_option maxHeartbeats 4000000 in
set_option maxRecDepth 20000 in
theorem c_X8_born {X : jX} (M : jM)  (h w : Int) (h_chands : 0 ≤ M 9 0 ∧ M 9 0 ≤ 24) (h_ccon : ∀ i, 0 ≤ M 14 i ∧ M 14 i ≤ 1) : jC yX8_born D_X8_born X FJ shJ [jR 0, jI h, jI w] M (jqI (q_X8_born M h w)) := by
  refine jC_of (by decide) rfl (fun ad => Nat.le_of_ble_eq_true rfl) (by decide) ?_
  show jG D_X8_born X FJ shJ 0 0 (jqI (q_X8_born M h w)) 0 [(0, jR 0), (1, jI h), (2, jI w)] [] M
  refine j_aload_n 0 dX8_born_0 rfl rfl ?_
  refine j_getr f_X8_19 r_0_1 dX8_born_1 ?_
  refine j_iload_n 1 dX8_born_4 rfl rfl ?_
  refine j_callVi l_X8_85 ⟨Nat.le_of_ble_eq_true rfl, Nat.le_of_ble_eq_true rfl⟩ ⟨rfl, rfl⟩ dX8_born_5 ob_9 (c_X3_knows M h) rfl rfl (Nat.le_of_ble_eq_true rfl) (fun r_1 M_2 h_3 => ?_)
  obtain ⟨er_1, nh_3⟩ := h_3
  refine j_eqM nh_3 ?_
  clear nh_3
  refine j_if_eq (tgt := 20) dX8_born_8 (by decide) (fun c8_4 => ?_) (fun c8_4 => ?_)
  · skip
    refine j_iconst dX8_born_20 (by decide) ?_
    refine j_iret rfl rfl rfl rfl dX8_born_21 ?_
    exact ⟨by (repeat' split) <;> first | omega | grind, rfl⟩
  · skip
    refine j_iload_n 2 dX8_born_11 rfl rfl ?_
    refine j_iconst dX8_born_12 (by decide) ?_
    refine j_iconst dX8_born_13 (by decide) ?_
    refine j_callSi l_X8_74 ⟨Nat.le_of_ble_eq_true rfl, Nat.le_of_ble_eq_true rfl⟩ ⟨rfl, rfl⟩ dX8_born_14 (c_X8_within M w 0 2) rfl rfl (Nat.le_of_ble_eq_true rfl) (fun r_5 M_6 h_7 => ?_)
    obtain ⟨er_5, nh_7⟩ := h_7
    refine j_eqM nh_7 ?_
    clear nh_7
    refine j_if_ne (tgt := 22) dX8_born_17 (by decide) (fun c17_8 => ?_) (fun c17_8 => ?_)
    · skip
      refine j_iload_n 2 dX8_born_22 rfl rfl ?_
      refine j_iconst dX8_born_23 (by decide) ?_
      refine j_icmp_ne (tgt := 45) dX8_born_24 (by decide) (fun c24_9 => ?_) (fun c24_9 => ?_)
      · skip
        refine j_iload_n 2 dX8_born_45 rfl rfl ?_
        have hJ_10 : ∀ zz : Int, (¬ w = 0 ∧ zz = (M 13 h)) ∨ (w = 0 ∧ zz = (M 12 h)) → jG D_X8_born X FJ shJ 0 0 (jqI (q_X8_born M h w)) 70 [(0, jR 0), (1, jI h), (2, jI w)] (jI zz :: []) M := by
          intro t_11 et_11
          refine j_iret rfl rfl rfl rfl dX8_born_70 ?_
          exact ⟨by (repeat' split) <;> first | omega | grind, rfl⟩
        refine j_if_ne (tgt := 61) dX8_born_46 (by decide) (fun c46_12 => ?_) (fun c46_12 => ?_)
        · skip
          refine j_aload_n 0 dX8_born_61 rfl rfl ?_
          refine j_getr f_X8_19 r_0_1 dX8_born_62 ?_
          refine j_getr f_X8_118 r_9_4 dX8_born_65 ?_
          refine j_iload_n 1 dX8_born_68 rfl rfl ?_
          refine j_iald a_13 dX8_born_69 (by omega) (by omega) ?_
          exact hJ_10 _ (Or.inl ⟨c46_12, rfl⟩)
        · skip
          refine j_aload_n 0 dX8_born_49 rfl rfl ?_
          refine j_getr f_X8_19 r_0_1 dX8_born_50 ?_
          refine j_getr f_X8_114 r_9_3 dX8_born_53 ?_
          refine j_iload_n 1 dX8_born_56 rfl rfl ?_
          refine j_iald a_12 dX8_born_57 (by omega) (by omega) ?_
          refine j_goto (tgt := 70) dX8_born_58 (by decide) ?_
          exact hJ_10 _ (Or.inr (⟨c46_12, rfl⟩))
      · skip
        refine j_aload_n 0 dX8_born_27 rfl rfl ?_
        refine j_getr f_X8_19 r_0_1 dX8_born_28 ?_
        refine j_getr f_X8_110 r_9_5 dX8_born_31 ?_
        refine j_iload_n 1 dX8_born_34 rfl rfl ?_
        refine j_zald a_14 dX8_born_35 (by omega) (by omega) ?_
        have g_13 := h_ccon h
        have hJ_14 : ∀ zz : Int, ((M 14 h) = 0 ∧ zz = 0) ∨ (¬ (M 14 h) = 0 ∧ zz = 1) → jG D_X8_born X FJ shJ 0 0 (jqI (q_X8_born M h w)) 44 [(0, jR 0), (1, jI h), (2, jI w)] (jI zz :: []) M := by
          intro t_15 et_15
          refine j_iret rfl rfl rfl rfl dX8_born_44 ?_
          exact ⟨by (repeat' split) <;> first | omega | grind, rfl⟩
        refine j_if_eq (tgt := 43) dX8_born_36 (by decide) (fun c36_16 => ?_) (fun c36_16 => ?_)
        · skip
          refine j_iconst dX8_born_43 (by decide) ?_
          exact hJ_14 _ (Or.inl ⟨c36_16, rfl⟩)
        · skip
          refine j_iconst dX8_born_39 (by decide) ?_
          refine j_goto (tgt := 44) dX8_born_40 (by decide) ?_
          exact hJ_14 _ (Or.inr (⟨c36_16, rfl⟩))
    · skip
      refine j_iconst dX8_born_20 (by decide) ?_
      refine j_iret rfl rfl rfl rfl dX8_born_21 ?_
      exact ⟨by (repeat' split) <;> first | omega | grind, rfl⟩
abbrev q_X8_age (M : jM)  (h d w : Int) : Int → jM → Prop := fun r N => r = (if 0 ≤ h ∧ h < M 9 0 ∧ 0 ≤ d ∧ d ≤ 359 ∧ 0 ≤ w ∧ w ≤ 1 then (if w = 0 then (M 12 h + d) / 360 else (M 13 h + d) / 360) else -1) ∧ N = M
set_option maxHeartbeats 4000000 in
set_option maxRecDepth 20000 in
theorem c_X8_age {X : jX} (M : jM)  (h d w : Int) (h_chands : 0 ≤ M 9 0 ∧ M 9 0 ≤ 24) (h_cfrom : ∀ i, 0 ≤ M 12 i ∧ M 12 i ≤ 99999) (h_cto : ∀ i, 0 ≤ M 13 i ∧ M 13 i ≤ 10799) : jC yX8_age D_X8_age X FJ shJ [jR 0, jI h, jI d, jI w] M (jqI (q_X8_age M h d w)) := by
  refine jC_of (by decide) rfl (fun ad => Nat.le_of_ble_eq_true rfl) (by decide) ?_
  show jG D_X8_age X FJ shJ 0 0 (jqI (q_X8_age M h d w)) 0 [(0, jR 0), (1, jI h), (2, jI d), (3, jI w)] [] M
  refine j_aload_n 0 dX8_age_0 rfl rfl ?_
  refine j_getr f_X8_19 r_0_1 dX8_age_1 ?_
  refine j_iload_n 1 dX8_age_4 rfl rfl ?_
  refine j_callVi l_X8_85 ⟨Nat.le_of_ble_eq_true rfl, Nat.le_of_ble_eq_true rfl⟩ ⟨rfl, rfl⟩ dX8_age_5 ob_9 (c_X3_knows M h) rfl rfl (Nat.le_of_ble_eq_true rfl) (fun r_1 M_2 h_3 => ?_)
  obtain ⟨er_1, nh_3⟩ := h_3
  refine j_eqM nh_3 ?_
  clear nh_3
  refine j_if_eq (tgt := 27) dX8_age_8 (by decide) (fun c8_4 => ?_) (fun c8_4 => ?_)
  · skip
    refine j_iconst dX8_age_27 (by decide) ?_
    refine j_iret rfl rfl rfl rfl dX8_age_28 ?_
    exact ⟨by (repeat' split) <;> first | omega | grind, rfl⟩
  · skip
    refine j_iload_n 2 dX8_age_11 rfl rfl ?_
    refine j_callSi l_X8_103 ⟨Nat.le_of_ble_eq_true rfl, Nat.le_of_ble_eq_true rfl⟩ ⟨rfl, rfl⟩ dX8_age_12 (c_X8_isDay M d) rfl rfl (Nat.le_of_ble_eq_true rfl) (fun r_5 M_6 h_7 => ?_)
    obtain ⟨er_5, nh_7⟩ := h_7
    refine j_eqM nh_7 ?_
    clear nh_7
    refine j_if_eq (tgt := 27) dX8_age_15 (by decide) (fun c15_8 => ?_) (fun c15_8 => ?_)
    · skip
      refine j_iconst dX8_age_27 (by decide) ?_
      refine j_iret rfl rfl rfl rfl dX8_age_28 ?_
      exact ⟨by (repeat' split) <;> first | omega | grind, rfl⟩
    · skip
      refine j_iload_n 3 dX8_age_18 rfl rfl ?_
      refine j_iconst dX8_age_19 (by decide) ?_
      refine j_iconst dX8_age_20 (by decide) ?_
      refine j_callSi l_X8_74 ⟨Nat.le_of_ble_eq_true rfl, Nat.le_of_ble_eq_true rfl⟩ ⟨rfl, rfl⟩ dX8_age_21 (c_X8_within M w 0 1) rfl rfl (Nat.le_of_ble_eq_true rfl) (fun r_9 M_10 h_11 => ?_)
      obtain ⟨er_9, nh_11⟩ := h_11
      refine j_eqM nh_11 ?_
      clear nh_11
      refine j_if_ne (tgt := 29) dX8_age_24 (by decide) (fun c24_12 => ?_) (fun c24_12 => ?_)
      · skip
        refine j_iload_n 3 dX8_age_29 rfl rfl ?_
        refine j_if_ne (tgt := 45) dX8_age_30 (by decide) (fun c30_13 => ?_) (fun c30_13 => ?_)
        · skip
          refine j_aload_n 0 dX8_age_45 rfl rfl ?_
          refine j_getr f_X8_19 r_0_1 dX8_age_46 ?_
          refine j_iload_n 1 dX8_age_49 rfl rfl ?_
          refine j_iload_n 2 dX8_age_50 rfl rfl ?_
          refine j_callVi l_X8_124 ⟨Nat.le_of_ble_eq_true rfl, Nat.le_of_ble_eq_true rfl⟩ ⟨rfl, rfl⟩ dX8_age_51 ob_9 (c_X3_ageTo M h d h_cto (by first | assumption | omega) (by first | assumption | omega)) rfl rfl (Nat.le_of_ble_eq_true rfl) (fun r_14 M_15 h_16 => ?_)
          obtain ⟨er_14, nh_16⟩ := h_16
          refine j_eqM nh_16 ?_
          clear nh_16
          refine j_iret rfl rfl rfl rfl dX8_age_54 ?_
          exact ⟨by (repeat' split) <;> first | omega | grind, rfl⟩
        · skip
          refine j_aload_n 0 dX8_age_33 rfl rfl ?_
          refine j_getr f_X8_19 r_0_1 dX8_age_34 ?_
          refine j_iload_n 1 dX8_age_37 rfl rfl ?_
          refine j_iload_n 2 dX8_age_38 rfl rfl ?_
          refine j_callVi l_X8_121 ⟨Nat.le_of_ble_eq_true rfl, Nat.le_of_ble_eq_true rfl⟩ ⟨rfl, rfl⟩ dX8_age_39 ob_9 (c_X3_ageFrom M h d h_cfrom (by first | assumption | omega) (by first | assumption | omega)) rfl rfl (Nat.le_of_ble_eq_true rfl) (fun r_17 M_18 h_19 => ?_)
          obtain ⟨er_17, nh_19⟩ := h_19
          refine j_eqM nh_19 ?_
          clear nh_19
          refine j_goto (tgt := 54) dX8_age_42 (by decide) ?_
          refine j_iret rfl rfl rfl rfl dX8_age_54 ?_
          exact ⟨by (repeat' split) <;> first | omega | grind, rfl⟩
      · skip
        refine j_iconst dX8_age_27 (by decide) ?_
        refine j_iret rfl rfl rfl rfl dX8_age_28 ?_
        exact ⟨by (repeat' split) <;> first | omega | grind, rfl⟩
abbrev q_X8_check (M : jM)  (m t e : Int) : Int → jM → Prop := fun r N => r = fCheck (M 1 0) (M 6) m t e ∧ N = (if 0 ≤ fCheck (M 1 0) (M 6) m t e then jup (jup (jup M 7 (m * 4 + M 6 m) t) 8 (m * 4 + M 6 m) e) 6 m (M 6 m + 1) else M)
set_option maxHeartbeats 4000000 in
set_option maxRecDepth 20000 in
theorem c_X8_check {X : jX} (M : jM)  (m t e : Int) (h_cmills : 0 ≤ M 1 0 ∧ M 1 0 ≤ 6) (h_cchecks : ∀ i, 0 ≤ M 6 i ∧ M 6 i ≤ 4) : jC yX8_check D_X8_check X FJ shJ [jR 0, jI m, jI t, jI e] M (jqI (q_X8_check M m t e)) := by
  refine jC_of (by decide) rfl (fun ad => Nat.le_of_ble_eq_true rfl) (by decide) ?_
  show jG D_X8_check X FJ shJ 0 0 (jqI (q_X8_check M m t e)) 0 [(0, jR 0), (1, jI m), (2, jI t), (3, jI e)] [] M
  have q1 := h_cchecks m
  refine j_aload_n 0 dX8_check_0 rfl rfl ?_
  refine j_getr f_X8_10 r_0_0 dX8_check_1 ?_
  refine j_iload_n 1 dX8_check_4 rfl rfl ?_
  refine j_callVi l_X8_178 ⟨Nat.le_of_ble_eq_true rfl, Nat.le_of_ble_eq_true rfl⟩ ⟨rfl, rfl⟩ dX8_check_5 ob_1 (c_X4_knows M m) rfl rfl (Nat.le_of_ble_eq_true rfl) (fun r_1 M_2 h_3 => ?_)
  obtain ⟨er_1, nh_3⟩ := h_3
  refine j_eqM nh_3 ?_
  clear nh_3
  refine j_if_eq (tgt := 33) dX8_check_8 (by decide) (fun c8_4 => ?_) (fun c8_4 => ?_)
  · skip
    refine j_iconst dX8_check_33 (by decide) ?_
    refine j_iret rfl rfl rfl rfl dX8_check_34 ?_
    refine ⟨by unfold fCheck; (repeat' split) <;> first | omega | grind, ?_⟩
    first | rw [eM] | skip
    unfold fCheck
    (repeat' split) <;> first | rfl | (exfalso; omega) | grind
  · skip
    refine j_iload_n 2 dX8_check_11 rfl rfl ?_
    refine j_iconst dX8_check_12 (by decide) ?_
    refine j_sipush dX8_check_13 (by decide) ?_
    refine j_callSi l_X8_74 ⟨Nat.le_of_ble_eq_true rfl, Nat.le_of_ble_eq_true rfl⟩ ⟨rfl, rfl⟩ dX8_check_16 (c_X8_within M t 0 1439) rfl rfl (Nat.le_of_ble_eq_true rfl) (fun r_5 M_6 h_7 => ?_)
    obtain ⟨er_5, nh_7⟩ := h_7
    refine j_eqM nh_7 ?_
    clear nh_7
    refine j_if_eq (tgt := 33) dX8_check_19 (by decide) (fun c19_8 => ?_) (fun c19_8 => ?_)
    · skip
      refine j_iconst dX8_check_33 (by decide) ?_
      refine j_iret rfl rfl rfl rfl dX8_check_34 ?_
      refine ⟨by unfold fCheck; (repeat' split) <;> first | omega | grind, ?_⟩
      first | rw [eM] | skip
      unfold fCheck
      (repeat' split) <;> first | rfl | (exfalso; omega) | grind
    · skip
      refine j_iload_n 3 dX8_check_22 rfl rfl ?_
      refine j_bipush dX8_check_23 (by decide) ?_
      refine j_bipush dX8_check_25 (by decide) ?_
      refine j_callSi l_X8_74 ⟨Nat.le_of_ble_eq_true rfl, Nat.le_of_ble_eq_true rfl⟩ ⟨rfl, rfl⟩ dX8_check_27 (c_X8_within M e (-90) 90) rfl rfl (Nat.le_of_ble_eq_true rfl) (fun r_9 M_10 h_11 => ?_)
      obtain ⟨er_9, nh_11⟩ := h_11
      refine j_eqM nh_11 ?_
      clear nh_11
      refine j_if_ne (tgt := 35) dX8_check_30 (by decide) (fun c30_12 => ?_) (fun c30_12 => ?_)
      · skip
        refine j_aload_n 0 dX8_check_35 rfl rfl ?_
        refine j_getr f_X8_10 r_0_0 dX8_check_36 ?_
        refine j_iload_n 1 dX8_check_39 rfl rfl ?_
        refine j_iload_n 2 dX8_check_40 rfl rfl ?_
        refine j_iload_n 3 dX8_check_41 rfl rfl ?_
        refine j_callVi l_X8_182 ⟨Nat.le_of_ble_eq_true rfl, Nat.le_of_ble_eq_true rfl⟩ ⟨rfl, rfl⟩ dX8_check_42 ob_1 (c_X4_addCheck M m t e h_cchecks (by first | assumption | omega)) rfl rfl (Nat.le_of_ble_eq_true rfl) (fun r_13 M_14 h_15 => ?_)
        obtain ⟨er_13, eM_14⟩ := h_15
        refine j_iret rfl rfl rfl rfl dX8_check_45 ?_
        refine ⟨by unfold fCheck; (repeat' split) <;> first | omega | grind, ?_⟩
        first | rw [eM_14] | skip
        unfold fCheck
        (repeat' split) <;> first | rfl | (exfalso; omega) | grind
      · skip
        refine j_iconst dX8_check_33 (by decide) ?_
        refine j_iret rfl rfl rfl rfl dX8_check_34 ?_
        refine ⟨by unfold fCheck; (repeat' split) <;> first | omega | grind, ?_⟩
        first | rw [eM] | skip
        unfold fCheck
        (repeat' split) <;> first | rfl | (exfalso; omega) | grind
abbrev q_X8_truth (M : jM)  (m t w : Int) : Int → jM → Prop := fun r N => r = fTruthQ (M 1 0) (M 6) (M 7) (M 8) m t w ∧ N = M
set_option maxHeartbeats 4000000 in
set_option maxRecDepth 20000 in
theorem c_X8_truth {X : jX} (M : jM)  (m t w : Int) (h_cmills : 0 ≤ M 1 0 ∧ M 1 0 ≤ 6) (h_cchecks : ∀ i, 0 ≤ M 6 i ∧ M 6 i ≤ 4) (h_ccerr : ∀ i, -90 ≤ M 8 i ∧ M 8 i ≤ 90) : jC yX8_truth D_X8_truth X FJ shJ [jR 0, jI m, jI t, jI w] M (jqI (q_X8_truth M m t w)) := by
  refine jC_of (by decide) rfl (fun ad => Nat.le_of_ble_eq_true rfl) (by decide) ?_
  show jG D_X8_truth X FJ shJ 0 0 (jqI (q_X8_truth M m t w)) 0 [(0, jR 0), (1, jI m), (2, jI t), (3, jI w)] [] M
  refine j_aload_n 0 dX8_truth_0 rfl rfl ?_
  refine j_getr f_X8_10 r_0_0 dX8_truth_1 ?_
  refine j_iload_n 1 dX8_truth_4 rfl rfl ?_
  refine j_callVi l_X8_178 ⟨Nat.le_of_ble_eq_true rfl, Nat.le_of_ble_eq_true rfl⟩ ⟨rfl, rfl⟩ dX8_truth_5 ob_1 (c_X4_knows M m) rfl rfl (Nat.le_of_ble_eq_true rfl) (fun r_1 M_2 h_3 => ?_)
  obtain ⟨er_1, nh_3⟩ := h_3
  refine j_eqM nh_3 ?_
  clear nh_3
  refine j_if_eq (tgt := 31) dX8_truth_8 (by decide) (fun c8_4 => ?_) (fun c8_4 => ?_)
  · skip
    refine j_sipush dX8_truth_31 (by decide) ?_
    refine j_iret rfl rfl rfl rfl dX8_truth_34 ?_
    exact ⟨by unfold fTruthQ; (repeat' split) <;> first | omega | grind, rfl⟩
  · skip
    refine j_iload_n 2 dX8_truth_11 rfl rfl ?_
    refine j_iconst dX8_truth_12 (by decide) ?_
    refine j_sipush dX8_truth_13 (by decide) ?_
    refine j_callSi l_X8_74 ⟨Nat.le_of_ble_eq_true rfl, Nat.le_of_ble_eq_true rfl⟩ ⟨rfl, rfl⟩ dX8_truth_16 (c_X8_within M t 0 1440) rfl rfl (Nat.le_of_ble_eq_true rfl) (fun r_5 M_6 h_7 => ?_)
    obtain ⟨er_5, nh_7⟩ := h_7
    refine j_eqM nh_7 ?_
    clear nh_7
    refine j_if_eq (tgt := 31) dX8_truth_19 (by decide) (fun c19_8 => ?_) (fun c19_8 => ?_)
    · skip
      refine j_sipush dX8_truth_31 (by decide) ?_
      refine j_iret rfl rfl rfl rfl dX8_truth_34 ?_
      exact ⟨by unfold fTruthQ; (repeat' split) <;> first | omega | grind, rfl⟩
    · skip
      refine j_iload_n 3 dX8_truth_22 rfl rfl ?_
      refine j_iconst dX8_truth_23 (by decide) ?_
      refine j_iconst dX8_truth_24 (by decide) ?_
      refine j_callSi l_X8_74 ⟨Nat.le_of_ble_eq_true rfl, Nat.le_of_ble_eq_true rfl⟩ ⟨rfl, rfl⟩ dX8_truth_25 (c_X8_within M w 0 1) rfl rfl (Nat.le_of_ble_eq_true rfl) (fun r_9 M_10 h_11 => ?_)
      obtain ⟨er_9, nh_11⟩ := h_11
      refine j_eqM nh_11 ?_
      clear nh_11
      refine j_if_ne (tgt := 35) dX8_truth_28 (by decide) (fun c28_12 => ?_) (fun c28_12 => ?_)
      · skip
        refine j_aload_n 0 dX8_truth_35 rfl rfl ?_
        refine j_getr f_X8_10 r_0_0 dX8_truth_36 ?_
        refine j_iload_n 1 dX8_truth_39 rfl rfl ?_
        refine j_iload_n 2 dX8_truth_40 rfl rfl ?_
        refine j_iload_n 3 dX8_truth_41 rfl rfl ?_
        refine j_iconst dX8_truth_42 (by decide) ?_
        have hJ_13 : ∀ zz : Int, (¬ w = 1 ∧ zz = 0) ∨ (w = 1 ∧ zz = 1) → jG D_X8_truth X FJ shJ 0 0 (jqI (q_X8_truth M m t w)) 51 [(0, jR 0), (1, jI m), (2, jI t), (3, jI w)] (jI zz :: jI t :: jI m :: jR 1 :: []) M := by
          intro t_14 et_14
          refine j_callVi l_X8_185 ⟨Nat.le_of_ble_eq_true rfl, Nat.le_of_ble_eq_true rfl⟩ ⟨rfl, rfl⟩ dX8_truth_51 ob_1 (c_X4_inTruth M m t t_14 h_cchecks h_ccerr (by first | assumption | omega) (by first | assumption | omega)) rfl rfl (Nat.le_of_ble_eq_true rfl) (fun r_15 M_16 h_17 => ?_)
          obtain ⟨er_15, nh_17⟩ := h_17
          refine j_eqM nh_17 ?_
          clear nh_17
          refine j_iret rfl rfl rfl rfl dX8_truth_54 ?_
          exact ⟨by unfold fTruthQ; (repeat' split) <;> first | omega | grind, rfl⟩
        refine j_icmp_ne (tgt := 50) dX8_truth_43 (by decide) (fun c43_18 => ?_) (fun c43_18 => ?_)
        · skip
          refine j_iconst dX8_truth_50 (by decide) ?_
          exact hJ_13 _ (Or.inl ⟨c43_18, rfl⟩)
        · skip
          refine j_iconst dX8_truth_46 (by decide) ?_
          refine j_goto (tgt := 51) dX8_truth_47 (by decide) ?_
          exact hJ_13 _ (Or.inr (⟨c43_18, rfl⟩))
      · skip
        refine j_sipush dX8_truth_31 (by decide) ?_
        refine j_iret rfl rfl rfl rfl dX8_truth_34 ?_
        exact ⟨by unfold fTruthQ; (repeat' split) <;> first | omega | grind, rfl⟩
