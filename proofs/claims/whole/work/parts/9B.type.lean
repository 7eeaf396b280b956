abbrev q_X5_append (M : jM)  (v n : Int) : Int → jM → Prop := fun r N => tyA tyC 72 71 0 M N v n r ∧ ∀ k, k ≠ 0 → N 71 k = M 71 k
set_option maxHeartbeats 4000000 in
set_option maxRecDepth 20000 in
theorem c_X5_append {X : jX} (M : jM)  (v n : Int) (h_ctyped : 0 ≤ M 71 0 ∧ M 71 0 ≤ 900) (h_ctext : ∀ i, -128 ≤ M 72 i ∧ M 72 i ≤ 127) (hn : 1 ≤ n ∧ n ≤ 8) : jC yX5_append D_X5_append X FJ shJ [jR 71, jL v, jI n] M (jqI (q_X5_append M v n)) := by
  refine jC_of (by decide) rfl (fun ad => Nat.le_of_ble_eq_true rfl) (by decide) ?_
  show jG D_X5_append X FJ shJ 0 0 (jqI (q_X5_append M v n)) 0 [(0, jR 71), (1, jL v), (3, jI n)] [] M
  refine j_aload_n 0 dX5_append_0 rfl rfl ?_
  refine j_geti (k' := 0) f_X5_23 o_71_0 dX5_append_1 rfl ?_
  refine j_iload_n 2 dX5_append_4 rfl rfl ?_
  refine j_iadd dX5_append_5 (by omega) ?_
  refine j_sipush dX5_append_6 (by decide) ?_
  refine j_icmp_le (tgt := 15) dX5_append_9 (by decide) (fun c9_1 => ?_) (fun c9_1 => ?_)
  · skip
    refine j_iload_n 2 dX5_append_15 rfl rfl ?_
    refine j_iconst dX5_append_16 (by decide) ?_
    refine j_isub dX5_append_17 (by omega) ?_
    refine j_nm (fun v4_2 ev4_2 => ?_)
    refine j_istore (ls' := [(0, jR 71), (1, jL v), (3, jI n), (4, jI v4_2)]) dX5_append_18 (by decide) rfl ?_
    have lp20_3 : ∀ n20 : Nat, ∀ (v4 : Int), ∀ N20 : jM, (-1 ≤ v4 ∧ v4 < n) ∧ (N20 71 0 = M 71 0 + (n - 1 - v4)) ∧ (∀ j, N20 72 j = if M 71 0 ≤ j ∧ j < M 71 0 + (n - 1 - v4) then tyC v (n - 1 - (j - M 71 0)) else M 72 j) ∧ (∀ c, c ≠ 71 → c ≠ 72 → N20 c = M c) ∧ (∀ k, k ≠ 0 → N20 71 k = M 71 k) → (v4 + 1).toNat < n20 → jG D_X5_append X FJ shJ 0 0 (jqI (q_X5_append M v n)) 20 [(0, jR 71), (1, jL v), (3, jI n), (4, jI v4)] ([]) N20 := by
      intro n20
      induction n20 with
      | zero => intro v4 N20 _ hz; exact absurd hz (Nat.not_lt_zero _)
      | succ n20 ih20 =>
        intro v4 N20 hinv hm
        obtain ⟨h1, hL, hT, hC, hK⟩ := hinv
        refine j_iload 3 dX5_append_20 rfl ?_
        refine j_if_lt (tgt := 59) dX5_append_22 (by decide) (fun c22_4 => ?_) (fun c22_4 => ?_)
        · skip
          refine j_aload_n 0 dX5_append_59 rfl rfl ?_
          refine j_geti (k' := 0) f_X5_23 o_71_0 dX5_append_60 rfl ?_
          refine j_iret rfl rfl rfl rfl dX5_append_63 ?_
          have e4 : v4 = -1 := by omega
          rw [e4] at hL hT
          exact ⟨Or.inr ⟨by omega, by omega, by omega, (by intro j; rw [hT j]; unfold tyF; rw [show n - 1 - -1 = n by omega]), hC⟩, hK⟩
        · skip
          have zty := ty_eq (v := v) (k := v4) (by omega)
          unfold tyC at zty
          refine j_aload_n 0 dX5_append_25 rfl rfl ?_
          refine j_getr f_X5_11 r_71_1 dX5_append_26 ?_
          refine j_aload_n 0 dX5_append_29 rfl rfl ?_
          refine j_geti (k' := 0) f_X5_23 o_71_0 dX5_append_30 rfl ?_
          refine j_lload_n 1 dX5_append_33 rfl rfl ?_
          refine j_bipush dX5_append_34 (by decide) ?_
          refine j_iload 3 dX5_append_36 rfl ?_
          refine j_imul dX5_append_38 (by omega) ?_
          refine j_lushr dX5_append_39 ?_
          refine j_l2i dX5_append_40 ?_
          refine j_i2b dX5_append_41 ?_
          refine j_bast a_72 dX5_append_42 (by omega) (by omega) (by omega) ?_
          refine j_nmM (fun M_5 eM_5 => ?_)
          refine j_aload_n 0 dX5_append_43 rfl rfl ?_
          refine j_dup dX5_append_44 rfl ?_
          refine j_geti (k' := 0) f_X5_23 o_71_0 dX5_append_45 rfl ?_
          refine j_eq (congrFun ((congrFun eM_5 71).trans (jup_cell (by decide))) 0) ?_
          refine j_iconst dX5_append_48 (by decide) ?_
          refine j_iadd dX5_append_49 (by omega) ?_
          refine j_puti (k' := 0) f_X5_23 o_71_0 dX5_append_50 rfl ?_
          refine j_nmM (fun M_6 eM_6 => ?_)
          obtain ⟨v4_7, ev4_7⟩ : ∃ y : Int, y = v4 + (-1) := ⟨_, rfl⟩
          refine j_iinc (y := v4_7) (ls' := [(0, jR 71), (1, jL v), (3, jI n), (4, jI v4_7)]) 3 dX5_append_53 rfl ev4_7 (by omega) (by decide) rfl ?_
          refine j_goto (tgt := 20) dX5_append_56 (by decide) ?_
          exact ih20 v4_7 M_6 ⟨by omega, by rw [eM_6, eM_5, jup_self]; omega, by intro j; rw [eM_6, eM_5, jup_cellk (by decide), jup_at]; by_cases hj : j = M 71 0 + (n - 1 - v4); (· rw [if_pos (by omega), if_pos (by omega), show n - 1 - (j - M 71 0) = v4 by omega]; rfl); (· rw [if_neg (by omega), hT j]; by_cases hz_ : M 71 0 ≤ j ∧ j < M 71 0 + (n - 1 - v4); (· rw [if_pos hz_, if_pos (by omega)]); (· rw [if_neg hz_, if_neg (by omega)])), by intro c a1 a2; rw [eM_6, eM_5, jup_cell a1, jup_cell a2]; exact hC c a1 a2, by intro k a1; rw [eM_6, eM_5, jup_ne (by omega), jup_cellk (by decide)]; exact hK k a1⟩ (by omega)
    exact lp20_3 _ v4_2 M ⟨by omega, by omega, by intro j; rw [if_neg (by omega)], by intro c _ _; rfl, by intro k _; rfl⟩ (Nat.lt_succ_self _)
  · skip
    refine j_bipush dX5_append_12 (by decide) ?_
    refine j_iret rfl rfl rfl rfl dX5_append_14 ?_
    exact ⟨Or.inl ⟨by omega, rfl, rfl⟩, fun k _ => rfl⟩
abbrev q_X8_type (M : jM)  (v n : Int) : Int → jM → Prop := fun r N => (((1 ≤ n ∧ n ≤ 8) ∧ tyA tyC 72 71 0 M N v n r) ∨ (¬ (1 ≤ n ∧ n ≤ 8) ∧ r = -1 ∧ N = M)) ∧ ∀ k, k ≠ 0 → N 71 k = M 71 k
set_option maxHeartbeats 4000000 in
set_option maxRecDepth 20000 in
theorem c_X8_type {X : jX} (M : jM)  (v n : Int) (h_ctyped : 0 ≤ M 71 0 ∧ M 71 0 ≤ 900) (h_ctext : ∀ i, -128 ≤ M 72 i ∧ M 72 i ≤ 127) : jC yX8_type D_X8_type X FJ shJ [jR 0, jL v, jI n] M (jqI (q_X8_type M v n)) := by
  refine jC_of (by decide) rfl (fun ad => Nat.le_of_ble_eq_true rfl) (by decide) ?_
  show jG D_X8_type X FJ shJ 0 0 (jqI (q_X8_type M v n)) 0 [(0, jR 0), (1, jL v), (3, jI n)] [] M
  refine j_iload_n 2 dX8_type_0 rfl rfl ?_
  refine j_iconst dX8_type_1 (by decide) ?_
  refine j_bipush dX8_type_2 (by decide) ?_
  refine j_callSi l_X8_74 ⟨Nat.le_of_ble_eq_true rfl, Nat.le_of_ble_eq_true rfl⟩ ⟨rfl, rfl⟩ dX8_type_4 (c_X8_within M n 1 8) rfl rfl (Nat.le_of_ble_eq_true rfl) (fun r_1 M_2 h_3 => ?_)
  obtain ⟨er_1, nh_3⟩ := h_3
  refine j_eqM nh_3 ?_
  clear nh_3
  refine j_if_ne (tgt := 12) dX8_type_7 (by decide) (fun c7_4 => ?_) (fun c7_4 => ?_)
  · skip
    refine j_aload_n 0 dX8_type_12 rfl rfl ?_
    refine j_getr f_X8_70 r_0_2 dX8_type_13 ?_
    refine j_lload_n 1 dX8_type_16 rfl rfl ?_
    refine j_iload_n 2 dX8_type_17 rfl rfl ?_
    refine j_callVi l_X8_127 ⟨Nat.le_of_ble_eq_true rfl, Nat.le_of_ble_eq_true rfl⟩ ⟨rfl, rfl⟩ dX8_type_18 ob_71 (c_X5_append M v n h_ctyped h_ctext (by omega)) rfl rfl (Nat.le_of_ble_eq_true rfl) (fun r_5 M_6 h_7 => ?_)
    obtain ⟨tah_7, tkh_7⟩ := h_7
    refine j_iret rfl rfl rfl rfl dX8_type_21 ?_
    first | exact ⟨Or.inl ⟨by omega, tah_7⟩, tkh_7⟩ | exact ⟨Or.inr ⟨by omega, rfl, rfl⟩, fun k _ => rfl⟩
  · skip
    refine j_iconst dX8_type_10 (by decide) ?_
    refine j_iret rfl rfl rfl rfl dX8_type_11 ?_
    first | exact ⟨Or.inl ⟨by omega, tah_3⟩, tkh_3⟩ | exact ⟨Or.inr ⟨by omega, rfl, rfl⟩, fun k _ => rfl⟩
abbrev q_X9_type (M : jM)  (v n : Int) : Int → jM → Prop := fun r N => (((1 ≤ n ∧ n ≤ 8) ∧ tyA tyR 84 74 14 (jup M 74 0 0) N v n r) ∨ (¬ (1 ≤ n ∧ n ≤ 8) ∧ r = -1 ∧ N = jup M 74 0 0)) ∧ ∀ k, k ≠ 14 → k ≠ 0 → N 74 k = M 74 k
set_option maxHeartbeats 4000000 in
set_option maxRecDepth 20000 in
theorem c_X9_type {X : jX} (M : jM)  (v n : Int) (h_rtyped : 0 ≤ M 74 14 ∧ M 74 14 ≤ 900) (h_rtext : ∀ i, 0 ≤ M 84 i ∧ M 84 i ≤ 255) : jC yX9_type D_X9_type X FJ shJ [jR 74, jL v, jI n] M (jqI (q_X9_type M v n)) := by
  refine jC_of (by decide) rfl (fun ad => Nat.le_of_ble_eq_true rfl) (by decide) ?_
  show jG D_X9_type X FJ shJ 0 0 (jqI (q_X9_type M v n)) 0 [(0, jR 74), (1, jL v), (3, jI n)] [] M
  refine j_aload_n 0 dX9_type_0 rfl rfl ?_
  refine j_iconst dX9_type_1 (by decide) ?_
  refine j_puti (k' := 0) f_X9_124 o_74_0 dX9_type_2 rfl ?_
  refine j_nmM (fun M_1 eM_1 => ?_)
  refine j_iload_n 2 dX9_type_5 rfl rfl ?_
  refine j_iconst dX9_type_6 (by decide) ?_
  refine j_bipush dX9_type_7 (by decide) ?_
  refine j_callSi l_X9_137 ⟨Nat.le_of_ble_eq_true rfl, Nat.le_of_ble_eq_true rfl⟩ ⟨rfl, rfl⟩ dX9_type_9 (c_X9_in M_1 n 1 8) rfl rfl (Nat.le_of_ble_eq_true rfl) (fun r_2 M_3 h_4 => ?_)
  obtain ⟨er_2, nh_4⟩ := h_4
  refine j_eqM nh_4 ?_
  clear nh_4
  refine j_if_ne (tgt := 17) dX9_type_12 (by decide) (fun c12_5 => ?_) (fun c12_5 => ?_)
  · skip
    refine j_aload_n 0 dX9_type_17 rfl rfl ?_
    refine j_geti (k' := 14) f_X9_176 o_74_14 dX9_type_18 rfl ?_
    refine j_eq ((congrFun (congrFun eM_1 74) 14).trans (jup_ne (by decide))) ?_
    refine j_iload_n 2 dX9_type_21 rfl rfl ?_
    refine j_iadd dX9_type_22 (by omega) ?_
    refine j_sipush dX9_type_23 (by decide) ?_
    refine j_icmp_le (tgt := 32) dX9_type_26 (by decide) (fun c26_6 => ?_) (fun c26_6 => ?_)
    · skip
      refine j_iload_n 2 dX9_type_32 rfl rfl ?_
      refine j_iconst dX9_type_33 (by decide) ?_
      refine j_isub dX9_type_34 (by omega) ?_
      refine j_nm (fun v4_7 ev4_7 => ?_)
      refine j_istore (ls' := [(0, jR 74), (1, jL v), (3, jI n), (4, jI v4_7)]) dX9_type_35 (by decide) rfl ?_
      have lp37_8 : ∀ n37 : Nat, ∀ (v4 : Int), ∀ N37 : jM, (-1 ≤ v4 ∧ v4 < n) ∧ (N37 74 14 = M 74 14 + (n - 1 - v4)) ∧ (∀ j, N37 84 j = if M 74 14 ≤ j ∧ j < M 74 14 + (n - 1 - v4) then tyR v (n - 1 - (j - M 74 14)) else M 84 j) ∧ (∀ c, c ≠ 74 → c ≠ 84 → N37 c = M c) ∧ (∀ k, k ≠ 14 → k ≠ 0 → N37 74 k = M 74 k) → (v4 + 1).toNat < n37 → jG D_X9_type X FJ shJ 0 0 (jqI (q_X9_type M v n)) 37 [(0, jR 74), (1, jL v), (3, jI n), (4, jI v4)] ([]) N37 := by
        intro n37
        induction n37 with
        | zero => intro v4 N37 _ hz; exact absurd hz (Nat.not_lt_zero _)
        | succ n37 ih37 =>
          intro v4 N37 hinv hm
          obtain ⟨h1, hL, hT, hC, hK⟩ := hinv
          refine j_iload 3 dX9_type_37 rfl ?_
          refine j_if_lt (tgt := 79) dX9_type_39 (by decide) (fun c39_9 => ?_) (fun c39_9 => ?_)
          · skip
            refine j_aload_n 0 dX9_type_79 rfl rfl ?_
            refine j_geti (k' := 14) f_X9_176 o_74_14 dX9_type_80 rfl ?_
            refine j_iret rfl rfl rfl rfl dX9_type_83 ?_
            have e4 : v4 = -1 := by omega
            rw [e4] at hL hT
            refine ⟨Or.inl ⟨by omega, Or.inr ⟨?_, ?_, ?_, ?_, ?_⟩⟩, hK⟩
            · rw [jup_ne (by decide)]; omega
            · rw [jup_ne (by decide)]; omega
            · rw [jup_ne (by decide)]; omega
            · intro j; rw [hT j]; unfold tyF; rw [jup_ne (by decide), jup_cell (by decide), show n - 1 - -1 = n by omega]
            · intro c a1 a2; rw [jup_cell a1]; exact hC c a1 a2
          · skip
            have zty := ty_eq (v := v) (k := v4) (by omega)
            unfold tyR at zty
            refine j_aload_n 0 dX9_type_42 rfl rfl ?_
            refine j_getr f_X9_38 r_74_13 dX9_type_43 ?_
            refine j_aload_n 0 dX9_type_46 rfl rfl ?_
            refine j_geti (k' := 14) f_X9_176 o_74_14 dX9_type_47 rfl ?_
            refine j_lload_n 1 dX9_type_50 rfl rfl ?_
            refine j_bipush dX9_type_51 (by decide) ?_
            refine j_iload 3 dX9_type_53 rfl ?_
            refine j_imul dX9_type_55 (by omega) ?_
            refine j_lshr dX9_type_56 ?_
            refine j_ldc2_w (n := 255) dX9_type_57 c_X9_179 ?_
            refine j_land dX9_type_60 ?_
            refine j_l2i dX9_type_61 ?_
            refine j_iast a_84 dX9_type_62 (by omega) (by omega) ?_
            refine j_nmM (fun M_10 eM_10 => ?_)
            refine j_aload_n 0 dX9_type_63 rfl rfl ?_
            refine j_dup dX9_type_64 rfl ?_
            refine j_geti (k' := 14) f_X9_176 o_74_14 dX9_type_65 rfl ?_
            refine j_eq (congrFun ((congrFun eM_10 74).trans (jup_cell (by decide))) 14) ?_
            refine j_iconst dX9_type_68 (by decide) ?_
            refine j_iadd dX9_type_69 (by omega) ?_
            refine j_puti (k' := 14) f_X9_176 o_74_14 dX9_type_70 rfl ?_
            refine j_nmM (fun M_11 eM_11 => ?_)
            obtain ⟨v4_12, ev4_12⟩ : ∃ y : Int, y = v4 + (-1) := ⟨_, rfl⟩
            refine j_iinc (y := v4_12) (ls' := [(0, jR 74), (1, jL v), (3, jI n), (4, jI v4_12)]) 3 dX9_type_73 rfl ev4_12 (by omega) (by decide) rfl ?_
            refine j_goto (tgt := 37) dX9_type_76 (by decide) ?_
            exact ih37 v4_12 M_11 ⟨by omega, by rw [eM_11, eM_10, jup_self]; omega, by intro j; rw [eM_11, eM_10, jup_cellk (by decide), jup_at]; by_cases hj : j = M 74 14 + (n - 1 - v4); (· rw [if_pos (by omega), if_pos (by omega), show n - 1 - (j - M 74 14) = v4 by omega]; rfl); (· rw [if_neg (by omega), hT j]; by_cases hz_ : M 74 14 ≤ j ∧ j < M 74 14 + (n - 1 - v4); (· rw [if_pos hz_, if_pos (by omega)]); (· rw [if_neg hz_, if_neg (by omega)])), by intro c a1 a2; rw [eM_11, eM_10, jup_cell a1, jup_cell a2]; exact hC c a1 a2, by intro k a0 a1; rw [eM_11, eM_10, jup_ne (by omega), jup_cellk (by decide)]; exact hK k a0 a1⟩ (by omega)
      exact lp37_8 _ v4_7 M_1 ⟨by omega, by rw [eM_1, jup_ne (by decide)]; omega, by intro j; rw [if_neg (by omega), eM_1, jup_cellk (by decide)], by intro c a _; rw [eM_1, jup_cell a], by intro k _ a; rw [eM_1, jup_ne (by omega)]⟩ (Nat.lt_succ_self _)
    · skip
      refine j_bipush dX9_type_29 (by decide) ?_
      refine j_iret rfl rfl rfl rfl dX9_type_31 ?_
      exact ⟨Or.inl ⟨by omega, Or.inl ⟨by rw [jup_ne (by decide)]; omega, rfl, by rw [eM_1]⟩⟩, fun k _ a => by rw [eM_1, jup_ne (by omega)]⟩
  · skip
    refine j_iconst dX9_type_15 (by decide) ?_
    refine j_iret rfl rfl rfl rfl dX9_type_16 ?_
    exact ⟨Or.inr ⟨by omega, rfl, by rw [eM_1]⟩, fun k _ a => by rw [eM_1, jup_ne (by omega)]⟩
abbrev q_X8_count (M : jM) (f : Int) (hf : jA f) (w : Int) : Int → jM → Prop := fun r N => r = fCount (M 1 0) (M 9 0) (M f 0) (M 16 0) (M 36 0) (M 36 3) (fStanding (M 42) (M 36 3).toNat) (M 71 0) w ∧ N = M
set_option maxHeartbeats 4000000 in
set_option maxRecDepth 20000 in
theorem c_X8_count {X : jX} (M : jM) (f : Int) (hf : jA f) (w : Int) (h_ccases : 0 ≤ M 36 3 ∧ M 36 3 ≤ 20) (h7 : M 0 7 = f) : jC yX8_count D_X8_count X FJ shJ [jR 0, jI w] M (jqI (q_X8_count M f hf w)) := by
  refine jC_of (by decide) rfl (fun ad => Nat.le_of_ble_eq_true rfl) (by decide) ?_
  show jG D_X8_count X FJ shJ 0 0 (jqI (q_X8_count M f hf w)) 0 [(0, jR 0), (1, jI w)] [] M
  refine j_iload_n 1 dX8_count_0 rfl rfl ?_
  rcases (show w = 0 ∨ w = 1 ∨ w = 2 ∨ w = 3 ∨ w = 4 ∨ w = 5 ∨ w = 6 ∨ w = 7 ∨ w < 0 ∨ 7 < w from by omega) with s_1 | s_1 | s_1 | s_1 | s_1 | s_1 | s_1 | s_1 | s_1 | s_1
  · refine j_tswIn (tgt := 48) 0 s_1 dX8_count_1 (by decide) (by decide) rfl (by decide) ?_
    refine j_aload_n 0 dX8_count_48 rfl rfl ?_
    refine j_getr f_X8_10 r_0_0 dX8_count_49 ?_
    refine j_geti (k' := 0) f_X8_293 o_1_0 dX8_count_52 rfl ?_
    refine j_iret rfl rfl rfl rfl dX8_count_55 ?_
    exact ⟨(by unfold fCount; first | omega | (rw [if_neg (by omega), if_neg (by omega), if_neg (by omega), if_neg (by omega), if_neg (by omega), if_neg (by omega), if_neg (by omega), if_neg (by omega)])), rfl⟩
  · refine j_tswIn (tgt := 56) 1 s_1 dX8_count_1 (by decide) (by decide) rfl (by decide) ?_
    refine j_aload_n 0 dX8_count_56 rfl rfl ?_
    refine j_getr f_X8_19 r_0_1 dX8_count_57 ?_
    refine j_geti (k' := 0) f_X8_296 o_9_0 dX8_count_60 rfl ?_
    refine j_iret rfl rfl rfl rfl dX8_count_63 ?_
    exact ⟨(by unfold fCount; first | omega | (rw [if_neg (by omega), if_neg (by omega), if_neg (by omega), if_neg (by omega), if_neg (by omega), if_neg (by omega), if_neg (by omega), if_neg (by omega)])), rfl⟩
  · refine j_tswIn (tgt := 64) 2 s_1 dX8_count_1 (by decide) (by decide) rfl (by decide) ?_
    refine j_aload_n 0 dX8_count_64 rfl rfl ?_
    refine j_getd (k' := 7) f_X8_58 o_0_7 dX8_count_65 rfl ?_
    refine j_eqR (y := f) (by exact h7) ?_
    refine j_geti (k' := 0) f_X8_139 (oa_0 hf) dX8_count_68 rfl ?_
    refine j_iret rfl rfl rfl rfl dX8_count_71 ?_
    exact ⟨(by unfold fCount; first | omega | (rw [if_neg (by omega), if_neg (by omega), if_neg (by omega), if_neg (by omega), if_neg (by omega), if_neg (by omega), if_neg (by omega), if_neg (by omega)])), rfl⟩
  · refine j_tswIn (tgt := 72) 3 s_1 dX8_count_1 (by decide) (by decide) rfl (by decide) ?_
    refine j_aload_n 0 dX8_count_72 rfl rfl ?_
    refine j_getr f_X8_28 r_0_3 dX8_count_73 ?_
    refine j_geti (k' := 0) f_X8_297 o_16_0 dX8_count_76 rfl ?_
    refine j_iret rfl rfl rfl rfl dX8_count_79 ?_
    exact ⟨(by unfold fCount; first | omega | (rw [if_neg (by omega), if_neg (by omega), if_neg (by omega), if_neg (by omega), if_neg (by omega), if_neg (by omega), if_neg (by omega), if_neg (by omega)])), rfl⟩
  · refine j_tswIn (tgt := 80) 4 s_1 dX8_count_1 (by decide) (by decide) rfl (by decide) ?_
    refine j_aload_n 0 dX8_count_80 rfl rfl ?_
    refine j_getr f_X8_42 r_0_5 dX8_count_81 ?_
    refine j_geti (k' := 0) f_X8_298 o_36_0 dX8_count_84 rfl ?_
    refine j_iret rfl rfl rfl rfl dX8_count_87 ?_
    exact ⟨(by unfold fCount; first | omega | (rw [if_neg (by omega), if_neg (by omega), if_neg (by omega), if_neg (by omega), if_neg (by omega), if_neg (by omega), if_neg (by omega), if_neg (by omega)])), rfl⟩
  · refine j_tswIn (tgt := 88) 5 s_1 dX8_count_1 (by decide) (by decide) rfl (by decide) ?_
    refine j_aload_n 0 dX8_count_88 rfl rfl ?_
    refine j_getr f_X8_42 r_0_5 dX8_count_89 ?_
    refine j_geti (k' := 3) f_X8_301 o_36_3 dX8_count_92 rfl ?_
    refine j_iret rfl rfl rfl rfl dX8_count_95 ?_
    exact ⟨(by unfold fCount; first | omega | (rw [if_neg (by omega), if_neg (by omega), if_neg (by omega), if_neg (by omega), if_neg (by omega), if_neg (by omega), if_neg (by omega), if_neg (by omega)])), rfl⟩
  · refine j_tswIn (tgt := 96) 6 s_1 dX8_count_1 (by decide) (by decide) rfl (by decide) ?_
    refine j_aload_n 0 dX8_count_96 rfl rfl ?_
    refine j_getr f_X8_42 r_0_5 dX8_count_97 ?_
    refine j_callVi l_X8_304 ⟨Nat.le_of_ble_eq_true rfl, Nat.le_of_ble_eq_true rfl⟩ ⟨rfl, rfl⟩ dX8_count_100 ob_36 (c_X2_standing M h_ccases) rfl rfl (Nat.le_of_ble_eq_true rfl) (fun r_2 M_3 h_4 => ?_)
    obtain ⟨er_2, nh_4⟩ := h_4
    refine j_eqM nh_4 ?_
    clear nh_4
    refine j_iret rfl rfl rfl rfl dX8_count_103 ?_
    exact ⟨(by unfold fCount; first | omega | (rw [if_neg (by omega), if_neg (by omega), if_neg (by omega), if_neg (by omega), if_neg (by omega), if_neg (by omega), if_neg (by omega), if_neg (by omega)])), rfl⟩
  · refine j_tswIn (tgt := 104) 7 s_1 dX8_count_1 (by decide) (by decide) rfl (by decide) ?_
    refine j_aload_n 0 dX8_count_104 rfl rfl ?_
    refine j_getr f_X8_70 r_0_2 dX8_count_105 ?_
    refine j_geti (k' := 0) f_X8_307 o_71_0 dX8_count_108 rfl ?_
    refine j_iret rfl rfl rfl rfl dX8_count_111 ?_
    exact ⟨(by unfold fCount; first | omega | (rw [if_neg (by omega), if_neg (by omega), if_neg (by omega), if_neg (by omega), if_neg (by omega), if_neg (by omega), if_neg (by omega), if_neg (by omega)])), rfl⟩
  · refine j_tswOut (tgt := 112) dX8_count_1 (Or.inl s_1) (by decide) ?_
    refine j_iconst dX8_count_112 (by decide) ?_
    refine j_iret rfl rfl rfl rfl dX8_count_113 ?_
    exact ⟨(by unfold fCount; first | omega | (rw [if_neg (by omega), if_neg (by omega), if_neg (by omega), if_neg (by omega), if_neg (by omega), if_neg (by omega), if_neg (by omega), if_neg (by omega)])), rfl⟩
  · refine j_tswOut (tgt := 112) dX8_count_1 (Or.inr s_1) (by decide) ?_
    refine j_iconst dX8_count_112 (by decide) ?_
    refine j_iret rfl rfl rfl rfl dX8_count_113 ?_
    exact ⟨(by unfold fCount; first | omega | (rw [if_neg (by omega), if_neg (by omega), if_neg (by omega), if_neg (by omega), if_neg (by omega), if_neg (by omega), if_neg (by omega), if_neg (by omega)])), rfl⟩
