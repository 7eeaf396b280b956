abbrev q_X0_reason (M : jM) (f : Int) (hf : jA f) (w l : Int) : Int → jM → Prop := fun r N => r = eWhy (fun k => decide (l ≤ M (f + 11) k ∧ ¬ M (f + 6) (k * 7 + w) = -1)) (fun k => M (f + 6) (k * 7 + w)) (M (f + 1)) (eFold (decide (w = 0 ∨ w = 2 ∨ w = 4)) (fun k => decide (l ≤ M (f + 11) k ∧ ¬ M (f + 6) (k * 7 + w) = -1)) (fun k => M (f + 6) (k * 7 + w)) (if w = 0 then M f 13 else if w = 2 ∨ w = 4 then 1440 else 0)  (M f 0).toNat) (M f 0).toNat ∧ N = M
set_option maxHeartbeats 4000000 in
set_option maxRecDepth 20000 in
theorem c_X0_reason {X : jX} (M : jM) (f : Int) (hf : jA f) (w l : Int) (hr : 0 ≤ M f 0 ∧ M f 0 ≤ 16) (hw : 0 ≤ w ∧ w ≤ 6) : jC yX0_reason D_X0_reason X FJ shJ [jR f, jI w, jI l] M (jqI (q_X0_reason M f hf w l)) := by
  refine jC_of (by decide) rfl (fun ad => Nat.le_of_ble_eq_true rfl) (by decide) ?_
  show jG D_X0_reason X FJ shJ 0 0 (jqI (q_X0_reason M f hf w l)) 0 [(0, jR f), (1, jI w), (2, jI l)] [] M
  refine j_aload_n 0 dX0_reason_0 rfl rfl ?_
  refine j_iload_n 1 dX0_reason_1 rfl rfl ?_
  refine j_iload_n 2 dX0_reason_2 rfl rfl ?_
  refine j_callVi l_X0_109 ⟨Nat.le_of_ble_eq_true rfl, Nat.le_of_ble_eq_true rfl⟩ ⟨rfl, rfl⟩ dX0_reason_3 (oba hf) (c_X0_asked M f hf w l (by first | assumption | omega) (by first | assumption | omega)) rfl rfl (Nat.le_of_ble_eq_true rfl) (fun r_1 M_2 h_3 => ?_)
  obtain ⟨er_1, nh_3⟩ := h_3
  refine j_eqM nh_3 ?_
  clear nh_3
  refine j_istore_n (ls' := [(0, jR f), (1, jI w), (2, jI l), (3, jI r_1)]) dX0_reason_6 rfl (by decide) rfl ?_
  have e3 := er_1
  refine j_bipush dX0_reason_7 (by decide) ?_
  refine j_istore (ls' := [(0, jR f), (1, jI w), (2, jI l), (3, jI r_1), (4, jI (-9))]) dX0_reason_9 (by decide) rfl ?_
  refine j_iconst dX0_reason_11 (by decide) ?_
  refine j_istore (ls' := [(0, jR f), (1, jI w), (2, jI l), (3, jI r_1), (4, jI (-9)), (5, jI 0)]) dX0_reason_12 (by decide) rfl ?_
  have lp14_4 : ∀ n14 : Nat, ∀ (v4 v5 : Int), (0 ≤ v5 ∧ v5 ≤ M f 0) ∧ (v4 = eWhy (fun k => decide (l ≤ M (f + 11) k ∧ ¬ M (f + 6) (k * 7 + w) = -1)) (fun k => M (f + 6) (k * 7 + w)) (M (f + 1)) (eFold (decide (w = 0 ∨ w = 2 ∨ w = 4)) (fun k => decide (l ≤ M (f + 11) k ∧ ¬ M (f + 6) (k * 7 + w) = -1)) (fun k => M (f + 6) (k * 7 + w)) (if w = 0 then M f 13 else if w = 2 ∨ w = 4 then 1440 else 0)  (M f 0).toNat)  v5.toNat) → (M f 0 - v5).toNat < n14 → jG D_X0_reason X FJ shJ 0 0 (jqI (q_X0_reason M f hf w l)) 14 [(0, jR f), (1, jI w), (2, jI l), (3, jI r_1), (4, jI v4), (5, jI v5)] ([]) M := by
    intro n14
    induction n14 with
    | zero => intro v4 v5  _ hz; exact absurd hz (Nat.not_lt_zero _)
    | succ n14 ih14 =>
      intro v4 v5  hinv hm
      obtain ⟨h1, h2⟩ := hinv
      refine j_iload 5 dX0_reason_14 rfl ?_
      refine j_aload_n 0 dX0_reason_16 rfl rfl ?_
      refine j_geti (k' := 0) f_X0_53 (oa_0 hf) dX0_reason_17 rfl ?_
      refine j_icmp_ge (tgt := 96) dX0_reason_20 (by decide) (fun c20_5 => ?_) (fun c20_5 => ?_)
      · skip
        refine j_iload 4 dX0_reason_96 rfl ?_
        refine j_iret rfl rfl rfl rfl dX0_reason_98 ?_
        have e6 : v5 = M f 0 := by omega
        rw [e6] at h2
        exact ⟨h2, rfl⟩
      · skip
        refine j_aload_n 0 dX0_reason_23 rfl rfl ?_
        refine j_iload 5 dX0_reason_24 rfl ?_
        refine j_iload_n 1 dX0_reason_26 rfl rfl ?_
        refine j_iload_n 2 dX0_reason_27 rfl rfl ?_
        refine j_callVi l_X0_105 ⟨Nat.le_of_ble_eq_true rfl, Nat.le_of_ble_eq_true rfl⟩ ⟨rfl, rfl⟩ dX0_reason_28 (oba hf) (c_X0_speaks M f hf v5 w l (by first | assumption | omega)) rfl rfl (Nat.le_of_ble_eq_true rfl) (fun r_6 M_7 h_8 => ?_)
        obtain ⟨er_6, nh_8⟩ := h_8
        refine j_eqM nh_8 ?_
        clear nh_8
        have hJ_9 : ∀ zz : Int, (r_6 = 0 ∧ zz = 0) ∨ (¬ r_6 = 0 ∧ ¬ (M (f + 6) ((v5 * 7) + w)) = r_1 ∧ zz = 0) ∨ (¬ r_6 = 0 ∧ (M (f + 6) ((v5 * 7) + w)) = r_1 ∧ zz = 1) → jG D_X0_reason X FJ shJ 0 0 (jqI (q_X0_reason M f hf w l)) 55 [(0, jR f), (1, jI w), (2, jI l), (3, jI r_1), (4, jI v4), (5, jI v5)] (jI zz :: []) M := by
          intro t_10 et_10
          refine j_istore (ls' := [(0, jR f), (1, jI w), (2, jI l), (3, jI r_1), (4, jI v4), (5, jI v5), (6, jI t_10)]) dX0_reason_55 (by decide) rfl ?_
          refine j_iload 6 dX0_reason_57 rfl ?_
          refine j_if_eq (tgt := 90) dX0_reason_59 (by decide) (fun c59_11 => ?_) (fun c59_11 => ?_)
          · skip
            obtain ⟨v5_12, ev5_12⟩ : ∃ y : Int, y = v5 + 1 := ⟨_, rfl⟩
            refine j_iinc (y := v5_12) (ls' := [(0, jR f), (1, jI w), (2, jI l), (3, jI r_1), (4, jI v4), (5, jI v5_12), (6, jI t_10)]) 5 dX0_reason_90 rfl ev5_12 (by omega) (by decide) rfl ?_
            refine j_goto (tgt := 14) dX0_reason_93 (by decide) ?_
            refine j_sub (ls' := [(0, jR f), (1, jI w), (2, jI l), (3, jI r_1), (4, jI v4), (5, jI v5_12)]) [0, 1, 2, 3, 4, 5] rfl ?_
            exact ih14 v4 v5_12 ⟨by omega, by rw [ev5_12, toNat_s h1.1]; unfold eWhy; rw [toNat_c h1.1, ← h2, ← e3]; first | (rw [if_pos ⟨decide_eq_true (by omega), by omega, by omega⟩]; done) | (rw [if_pos ⟨decide_eq_true (by omega), by omega, by omega⟩]; omega) | (rw [if_neg (fun z => by (have z1 := of_decide_eq_true z.1; have z2 := z.2; omega))])⟩ (by omega)
          · skip
            refine j_iload 4 dX0_reason_62 rfl ?_
            refine j_bipush dX0_reason_64 (by decide) ?_
            refine j_icmp_eq (tgt := 81) dX0_reason_66 (by decide) (fun c66_13 => ?_) (fun c66_13 => ?_)
            · skip
              refine j_aload_n 0 dX0_reason_81 rfl rfl ?_
              refine j_getr f_X0_11 (ra_1 hf) dX0_reason_82 ?_
              refine j_iload 5 dX0_reason_85 rfl ?_
              refine j_iald (aa_1 hf) dX0_reason_87 (by omega) (by omega) ?_
              refine j_nm (fun v4_14 ev4_14 => ?_)
              refine j_istore (ls' := [(0, jR f), (1, jI w), (2, jI l), (3, jI r_1), (4, jI v4_14), (5, jI v5), (6, jI t_10)]) dX0_reason_88 (by decide) rfl ?_
              obtain ⟨v5_15, ev5_15⟩ : ∃ y : Int, y = v5 + 1 := ⟨_, rfl⟩
              refine j_iinc (y := v5_15) (ls' := [(0, jR f), (1, jI w), (2, jI l), (3, jI r_1), (4, jI v4_14), (5, jI v5_15), (6, jI t_10)]) 5 dX0_reason_90 rfl ev5_15 (by omega) (by decide) rfl ?_
              refine j_goto (tgt := 14) dX0_reason_93 (by decide) ?_
              refine j_sub (ls' := [(0, jR f), (1, jI w), (2, jI l), (3, jI r_1), (4, jI v4_14), (5, jI v5_15)]) [0, 1, 2, 3, 4, 5] rfl ?_
              exact ih14 v4_14 v5_15 ⟨by omega, by rw [ev5_15, toNat_s h1.1]; unfold eWhy; rw [toNat_c h1.1, ← h2, ← e3]; first | (rw [if_pos ⟨decide_eq_true (by omega), by omega, by omega⟩]; done) | (rw [if_pos ⟨decide_eq_true (by omega), by omega, by omega⟩]; omega) | (rw [if_neg (fun z => by (have z1 := of_decide_eq_true z.1; have z2 := z.2; omega))])⟩ (by omega)
            · skip
              refine j_aload_n 0 dX0_reason_69 rfl rfl ?_
              refine j_getr f_X0_11 (ra_1 hf) dX0_reason_70 ?_
              refine j_iload 5 dX0_reason_73 rfl ?_
              refine j_iald (aa_1 hf) dX0_reason_75 (by omega) (by omega) ?_
              refine j_iload 4 dX0_reason_76 rfl ?_
              refine j_icmp_ge (tgt := 90) dX0_reason_78 (by decide) (fun c78_16 => ?_) (fun c78_16 => ?_)
              · skip
                obtain ⟨v5_17, ev5_17⟩ : ∃ y : Int, y = v5 + 1 := ⟨_, rfl⟩
                refine j_iinc (y := v5_17) (ls' := [(0, jR f), (1, jI w), (2, jI l), (3, jI r_1), (4, jI v4), (5, jI v5_17), (6, jI t_10)]) 5 dX0_reason_90 rfl ev5_17 (by omega) (by decide) rfl ?_
                refine j_goto (tgt := 14) dX0_reason_93 (by decide) ?_
                refine j_sub (ls' := [(0, jR f), (1, jI w), (2, jI l), (3, jI r_1), (4, jI v4), (5, jI v5_17)]) [0, 1, 2, 3, 4, 5] rfl ?_
                exact ih14 v4 v5_17 ⟨by omega, by rw [ev5_17, toNat_s h1.1]; unfold eWhy; rw [toNat_c h1.1, ← h2, ← e3]; first | (rw [if_pos ⟨decide_eq_true (by omega), by omega, by omega⟩]; done) | (rw [if_pos ⟨decide_eq_true (by omega), by omega, by omega⟩]; omega) | (rw [if_neg (fun z => by (have z1 := of_decide_eq_true z.1; have z2 := z.2; omega))])⟩ (by omega)
              · skip
                refine j_aload_n 0 dX0_reason_81 rfl rfl ?_
                refine j_getr f_X0_11 (ra_1 hf) dX0_reason_82 ?_
                refine j_iload 5 dX0_reason_85 rfl ?_
                refine j_iald (aa_1 hf) dX0_reason_87 (by omega) (by omega) ?_
                refine j_nm (fun v4_18 ev4_18 => ?_)
                refine j_istore (ls' := [(0, jR f), (1, jI w), (2, jI l), (3, jI r_1), (4, jI v4_18), (5, jI v5), (6, jI t_10)]) dX0_reason_88 (by decide) rfl ?_
                obtain ⟨v5_19, ev5_19⟩ : ∃ y : Int, y = v5 + 1 := ⟨_, rfl⟩
                refine j_iinc (y := v5_19) (ls' := [(0, jR f), (1, jI w), (2, jI l), (3, jI r_1), (4, jI v4_18), (5, jI v5_19), (6, jI t_10)]) 5 dX0_reason_90 rfl ev5_19 (by omega) (by decide) rfl ?_
                refine j_goto (tgt := 14) dX0_reason_93 (by decide) ?_
                refine j_sub (ls' := [(0, jR f), (1, jI w), (2, jI l), (3, jI r_1), (4, jI v4_18), (5, jI v5_19)]) [0, 1, 2, 3, 4, 5] rfl ?_
                exact ih14 v4_18 v5_19 ⟨by omega, by rw [ev5_19, toNat_s h1.1]; unfold eWhy; rw [toNat_c h1.1, ← h2, ← e3]; first | (rw [if_pos ⟨decide_eq_true (by omega), by omega, by omega⟩]; done) | (rw [if_pos ⟨decide_eq_true (by omega), by omega, by omega⟩]; omega) | (rw [if_neg (fun z => by (have z1 := of_decide_eq_true z.1; have z2 := z.2; omega))])⟩ (by omega)
        refine j_if_eq (tgt := 54) dX0_reason_31 (by decide) (fun c31_20 => ?_) (fun c31_20 => ?_)
        · skip
          refine j_iconst dX0_reason_54 (by decide) ?_
          exact hJ_9 _ (Or.inl ⟨c31_20, rfl⟩)
        · skip
          refine j_aload_n 0 dX0_reason_34 rfl rfl ?_
          refine j_getr f_X0_27 (ra_6 hf) dX0_reason_35 ?_
          refine j_iload 5 dX0_reason_38 rfl ?_
          refine j_bipush dX0_reason_40 (by decide) ?_
          refine j_imul dX0_reason_42 (by omega) ?_
          refine j_iload_n 1 dX0_reason_43 rfl rfl ?_
          refine j_iadd dX0_reason_44 (by omega) ?_
          refine j_iald (aa_6 hf) dX0_reason_45 (by omega) (by omega) ?_
          refine j_iload_n 3 dX0_reason_46 rfl rfl ?_
          refine j_icmp_ne (tgt := 54) dX0_reason_47 (by decide) (fun c47_21 => ?_) (fun c47_21 => ?_)
          · skip
            refine j_iconst dX0_reason_54 (by decide) ?_
            exact hJ_9 _ (Or.inr (Or.inl ⟨c31_20, c47_21, rfl⟩))
          · skip
            refine j_iconst dX0_reason_50 (by decide) ?_
            refine j_goto (tgt := 55) dX0_reason_51 (by decide) ?_
            exact hJ_9 _ (Or.inr (Or.inr (⟨c31_20, c47_21, rfl⟩)))
  exact lp14_4 _ (-9) 0 ⟨by omega, by rfl⟩ (Nat.lt_succ_self _)
