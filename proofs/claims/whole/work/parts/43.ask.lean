abbrev q_X0_asked (M : jM) (f : Int) (hf : jA f) (w l : Int) : Int → jM → Prop := fun r N => r = eFold (decide (w = 0 ∨ w = 2 ∨ w = 4)) (fun k => decide (l ≤ M (f + 11) k ∧ ¬ M (f + 6) (k * 7 + w) = -1)) (fun k => M (f + 6) (k * 7 + w)) (if w = 0 then M f 13 else if w = 2 ∨ w = 4 then 1440 else 0) (M f 0).toNat ∧ N = M
set_option maxHeartbeats 4000000 in
set_option maxRecDepth 20000 in
theorem c_X0_asked {X : jX} (M : jM) (f : Int) (hf : jA f) (w l : Int) (hr : 0 ≤ M f 0 ∧ M f 0 ≤ 16) (hw : 0 ≤ w ∧ w ≤ 6) : jC yX0_asked D_X0_asked X FJ shJ [jR f, jI w, jI l] M (jqI (q_X0_asked M f hf w l)) := by
  refine jC_of (by decide) rfl (fun ad => Nat.le_of_ble_eq_true rfl) (by decide) ?_
  show jG D_X0_asked X FJ shJ 0 0 (jqI (q_X0_asked M f hf w l)) 0 [(0, jR f), (1, jI w), (2, jI l)] [] M
  refine j_iload_n 1 dX0_asked_0 rfl rfl ?_
  have hJ_1 : ∀ zz : Int, (w = 0 ∧ zz = 1) ∨ (¬ w = 0 ∧ w = 2 ∧ zz = 1) ∨ (¬ w = 0 ∧ ¬ w = 2 ∧ ¬ w = 4 ∧ zz = 0) ∨ (¬ w = 0 ∧ ¬ w = 2 ∧ w = 4 ∧ zz = 1) → jG D_X0_asked X FJ shJ 0 0 (jqI (q_X0_asked M f hf w l)) 19 [(0, jR f), (1, jI w), (2, jI l)] (jI zz :: []) M := by
    intro t_2 et_2
    refine j_istore_n (ls' := [(0, jR f), (1, jI w), (2, jI l), (3, jI t_2)]) dX0_asked_19 rfl (by decide) rfl ?_
    have e3 : (t_2 = 1 ∧ (w = 0 ∨ w = 2 ∨ w = 4)) ∨ (t_2 = 0 ∧ ¬ (w = 0 ∨ w = 2 ∨ w = 4)) := by omega
    refine j_iload_n 1 dX0_asked_20 rfl rfl ?_
    have hJ_3 : ∀ zz : Int, (¬ w = 0 ∧ t_2 = 0 ∧ zz = 0) ∨ (¬ w = 0 ∧ ¬ t_2 = 0 ∧ zz = 1440) ∨ (w = 0 ∧ zz = (M f 13)) → jG D_X0_asked X FJ shJ 0 0 (jqI (q_X0_asked M f hf w l)) 42 [(0, jR f), (1, jI w), (2, jI l), (3, jI t_2)] (jI zz :: []) M := by
      intro t_4 et_4
      refine j_istore (ls' := [(0, jR f), (1, jI w), (2, jI l), (3, jI t_2), (4, jI t_4)]) dX0_asked_42 (by decide) rfl ?_
      have e4 : t_4 = (if w = 0 then M f 13 else if w = 2 ∨ w = 4 then 1440 else 0) := by (repeat' split) <;> omega
      refine j_iconst dX0_asked_44 (by decide) ?_
      refine j_istore (ls' := [(0, jR f), (1, jI w), (2, jI l), (3, jI t_2), (4, jI t_4), (5, jI 0)]) dX0_asked_45 (by decide) rfl ?_
      have lp47_5 : ∀ n47 : Nat, ∀ (v4 v5 : Int), (0 ≤ v5 ∧ v5 ≤ M f 0) ∧ (v4 = eFold (decide (w = 0 ∨ w = 2 ∨ w = 4)) (fun k => decide (l ≤ M (f + 11) k ∧ ¬ M (f + 6) (k * 7 + w) = -1)) (fun k => M (f + 6) (k * 7 + w)) (if w = 0 then M f 13 else if w = 2 ∨ w = 4 then 1440 else 0)  v5.toNat) → (M f 0 - v5).toNat < n47 → jG D_X0_asked X FJ shJ 0 0 (jqI (q_X0_asked M f hf w l)) 47 [(0, jR f), (1, jI w), (2, jI l), (3, jI t_2), (4, jI v4), (5, jI v5)] ([]) M := by
        intro n47
        induction n47 with
        | zero => intro v4 v5  _ hz; exact absurd hz (Nat.not_lt_zero _)
        | succ n47 ih47 =>
          intro v4 v5  hinv hm
          obtain ⟨h1, h2⟩ := hinv
          refine j_iload 5 dX0_asked_47 rfl ?_
          refine j_aload_n 0 dX0_asked_49 rfl rfl ?_
          refine j_geti (k' := 0) f_X0_53 (oa_0 hf) dX0_asked_50 rfl ?_
          refine j_icmp_ge (tgt := 110) dX0_asked_53 (by decide) (fun c53_6 => ?_) (fun c53_6 => ?_)
          · skip
            refine j_iload 4 dX0_asked_110 rfl ?_
            refine j_iret rfl rfl rfl rfl dX0_asked_112 ?_
            have e6 : v5 = M f 0 := by omega
            rw [e6] at h2
            exact ⟨h2, rfl⟩
          · skip
            refine j_aload_n 0 dX0_asked_56 rfl rfl ?_
            refine j_iload 5 dX0_asked_57 rfl ?_
            refine j_iload_n 1 dX0_asked_59 rfl rfl ?_
            refine j_iload_n 2 dX0_asked_60 rfl rfl ?_
            refine j_callVi l_X0_105 ⟨Nat.le_of_ble_eq_true rfl, Nat.le_of_ble_eq_true rfl⟩ ⟨rfl, rfl⟩ dX0_asked_61 (oba hf) (c_X0_speaks M f hf v5 w l (by first | assumption | omega)) rfl rfl (Nat.le_of_ble_eq_true rfl) (fun r_7 M_8 h_9 => ?_)
            obtain ⟨er_7, nh_9⟩ := h_9
            refine j_eqM nh_9 ?_
            clear nh_9
            refine j_if_eq (tgt := 104) dX0_asked_64 (by decide) (fun c64_10 => ?_) (fun c64_10 => ?_)
            · skip
              obtain ⟨v5_11, ev5_11⟩ : ∃ y : Int, y = v5 + 1 := ⟨_, rfl⟩
              refine j_iinc (y := v5_11) (ls' := [(0, jR f), (1, jI w), (2, jI l), (3, jI t_2), (4, jI v4), (5, jI v5_11)]) 5 dX0_asked_104 rfl ev5_11 (by omega) (by decide) rfl ?_
              refine j_goto (tgt := 47) dX0_asked_107 (by decide) ?_
              exact ih47 v4 v5_11 ⟨by omega, by rw [ev5_11, toNat_s h1.1]; unfold eFold; rw [toNat_c h1.1, ← h2]; first | (rw [if_pos (decide_eq_true (by omega)), if_pos (decide_eq_true (by omega))]; omega) | (rw [if_pos (decide_eq_true (by omega)), if_neg (by rw [decide_eq_true_iff]; omega)]; omega) | (rw [if_neg (by rw [decide_eq_true_iff]; omega)])⟩ (by omega)
            · skip
              refine j_aload_n 0 dX0_asked_67 rfl rfl ?_
              refine j_getr f_X0_27 (ra_6 hf) dX0_asked_68 ?_
              refine j_iload 5 dX0_asked_71 rfl ?_
              refine j_bipush dX0_asked_73 (by decide) ?_
              refine j_imul dX0_asked_75 (by omega) ?_
              refine j_iload_n 1 dX0_asked_76 rfl rfl ?_
              refine j_iadd dX0_asked_77 (by omega) ?_
              refine j_iald (aa_6 hf) dX0_asked_78 (by omega) (by omega) ?_
              refine j_nm (fun v6_12 ev6_12 => ?_)
              refine j_istore (ls' := [(0, jR f), (1, jI w), (2, jI l), (3, jI t_2), (4, jI v4), (5, jI v5), (6, jI v6_12)]) dX0_asked_79 (by decide) rfl ?_
              refine j_iload_n 3 dX0_asked_81 rfl rfl ?_
              refine j_if_eq (tgt := 95) dX0_asked_82 (by decide) (fun c82_13 => ?_) (fun c82_13 => ?_)
              · skip
                refine j_iload 4 dX0_asked_95 rfl ?_
                refine j_iload 6 dX0_asked_97 rfl ?_
                refine j_mmax lm_X0_66 lm_max ⟨Nat.le_of_ble_eq_true rfl, Nat.le_of_ble_eq_true rfl⟩ ⟨Nat.le_of_ble_eq_true rfl, Nat.le_of_ble_eq_true rfl⟩ dX0_asked_99 ?_
                refine j_nm (fun v4_14 ev4_14 => ?_)
                refine j_istore (ls' := [(0, jR f), (1, jI w), (2, jI l), (3, jI t_2), (4, jI v4_14), (5, jI v5), (6, jI v6_12)]) dX0_asked_102 (by decide) rfl ?_
                obtain ⟨v5_15, ev5_15⟩ : ∃ y : Int, y = v5 + 1 := ⟨_, rfl⟩
                refine j_iinc (y := v5_15) (ls' := [(0, jR f), (1, jI w), (2, jI l), (3, jI t_2), (4, jI v4_14), (5, jI v5_15), (6, jI v6_12)]) 5 dX0_asked_104 rfl ev5_15 (by omega) (by decide) rfl ?_
                refine j_goto (tgt := 47) dX0_asked_107 (by decide) ?_
                refine j_sub (ls' := [(0, jR f), (1, jI w), (2, jI l), (3, jI t_2), (4, jI v4_14), (5, jI v5_15)]) [0, 1, 2, 3, 4, 5] rfl ?_
                exact ih47 v4_14 v5_15 ⟨by omega, by rw [ev5_15, toNat_s h1.1]; unfold eFold; rw [toNat_c h1.1, ← h2]; first | (rw [if_pos (decide_eq_true (by omega)), if_pos (decide_eq_true (by omega))]; omega) | (rw [if_pos (decide_eq_true (by omega)), if_neg (by rw [decide_eq_true_iff]; omega)]; omega) | (rw [if_neg (by rw [decide_eq_true_iff]; omega)])⟩ (by omega)
              · skip
                refine j_iload 4 dX0_asked_85 rfl ?_
                refine j_iload 6 dX0_asked_87 rfl ?_
                refine j_mmin lm_X0_60 lm_min ⟨Nat.le_of_ble_eq_true rfl, Nat.le_of_ble_eq_true rfl⟩ ⟨Nat.le_of_ble_eq_true rfl, Nat.le_of_ble_eq_true rfl⟩ dX0_asked_89 ?_
                refine j_goto (tgt := 102) dX0_asked_92 (by decide) ?_
                refine j_nm (fun v4_16 ev4_16 => ?_)
                refine j_istore (ls' := [(0, jR f), (1, jI w), (2, jI l), (3, jI t_2), (4, jI v4_16), (5, jI v5), (6, jI v6_12)]) dX0_asked_102 (by decide) rfl ?_
                obtain ⟨v5_17, ev5_17⟩ : ∃ y : Int, y = v5 + 1 := ⟨_, rfl⟩
                refine j_iinc (y := v5_17) (ls' := [(0, jR f), (1, jI w), (2, jI l), (3, jI t_2), (4, jI v4_16), (5, jI v5_17), (6, jI v6_12)]) 5 dX0_asked_104 rfl ev5_17 (by omega) (by decide) rfl ?_
                refine j_goto (tgt := 47) dX0_asked_107 (by decide) ?_
                refine j_sub (ls' := [(0, jR f), (1, jI w), (2, jI l), (3, jI t_2), (4, jI v4_16), (5, jI v5_17)]) [0, 1, 2, 3, 4, 5] rfl ?_
                exact ih47 v4_16 v5_17 ⟨by omega, by rw [ev5_17, toNat_s h1.1]; unfold eFold; rw [toNat_c h1.1, ← h2]; first | (rw [if_pos (decide_eq_true (by omega)), if_pos (decide_eq_true (by omega))]; omega) | (rw [if_pos (decide_eq_true (by omega)), if_neg (by rw [decide_eq_true_iff]; omega)]; omega) | (rw [if_neg (by rw [decide_eq_true_iff]; omega)])⟩ (by omega)
      exact lp47_5 _ t_4 0 ⟨by omega, by exact e4⟩ (Nat.lt_succ_self _)
    refine j_if_ne (tgt := 31) dX0_asked_21 (by decide) (fun c21_18 => ?_) (fun c21_18 => ?_)
    · skip
      refine j_iload_n 3 dX0_asked_31 rfl rfl ?_
      refine j_if_eq (tgt := 41) dX0_asked_32 (by decide) (fun c32_19 => ?_) (fun c32_19 => ?_)
      · skip
        refine j_iconst dX0_asked_41 (by decide) ?_
        exact hJ_3 _ (Or.inl ⟨c21_18, c32_19, rfl⟩)
      · skip
        refine j_sipush dX0_asked_35 (by decide) ?_
        refine j_goto (tgt := 42) dX0_asked_38 (by decide) ?_
        exact hJ_3 _ (Or.inr (Or.inl ⟨c21_18, c32_19, rfl⟩))
    · skip
      refine j_aload_n 0 dX0_asked_24 rfl rfl ?_
      refine j_geti (k' := 13) f_X0_99 (oa_13 hf) dX0_asked_25 rfl ?_
      refine j_goto (tgt := 42) dX0_asked_28 (by decide) ?_
      exact hJ_3 _ (Or.inr (Or.inr (⟨c21_18, rfl⟩)))
  refine j_if_eq (tgt := 14) dX0_asked_1 (by decide) (fun c1_20 => ?_) (fun c1_20 => ?_)
  · skip
    refine j_iconst dX0_asked_14 (by decide) ?_
    refine j_goto (tgt := 19) dX0_asked_15 (by decide) ?_
    exact hJ_1 _ (Or.inl ⟨c1_20, rfl⟩)
  · skip
    refine j_iload_n 1 dX0_asked_4 rfl rfl ?_
    refine j_iconst dX0_asked_5 (by decide) ?_
    refine j_icmp_eq (tgt := 14) dX0_asked_6 (by decide) (fun c6_21 => ?_) (fun c6_21 => ?_)
    · skip
      refine j_iconst dX0_asked_14 (by decide) ?_
      refine j_goto (tgt := 19) dX0_asked_15 (by decide) ?_
      exact hJ_1 _ (Or.inr (Or.inl ⟨c1_20, c6_21, rfl⟩))
    · skip
      refine j_iload_n 1 dX0_asked_9 rfl rfl ?_
      refine j_iconst dX0_asked_10 (by decide) ?_
      refine j_icmp_ne (tgt := 18) dX0_asked_11 (by decide) (fun c11_22 => ?_) (fun c11_22 => ?_)
      · skip
        refine j_iconst dX0_asked_18 (by decide) ?_
        exact hJ_1 _ (Or.inr (Or.inr (Or.inl ⟨c1_20, c6_21, c11_22, rfl⟩)))
      · skip
        refine j_iconst dX0_asked_14 (by decide) ?_
        refine j_goto (tgt := 19) dX0_asked_15 (by decide) ?_
        exact hJ_1 _ (Or.inr (Or.inr (Or.inr (⟨c1_20, c6_21, c11_22, rfl⟩))))
