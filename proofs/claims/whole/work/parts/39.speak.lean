abbrev q_X0_speaks (M : jM) (f : Int) (hf : jA f) (r0 w l : Int) : Int → jM → Prop := fun r N => ((r = 1 ∧ (l ≤ M (f + 11) r0 ∧ ¬ M (f + 6) (r0 * 7 + w) = -1)) ∨ (r = 0 ∧ ¬ (l ≤ M (f + 11) r0 ∧ ¬ M (f + 6) (r0 * 7 + w) = -1))) ∧ N = M
set_option maxHeartbeats 4000000 in
set_option maxRecDepth 20000 in
theorem c_X0_speaks {X : jX} (M : jM) (f : Int) (hf : jA f) (r0 w l : Int) (hr : (0 ≤ r0 ∧ r0 < 16) ∧ 0 ≤ w ∧ w ≤ 6) : jC yX0_speaks D_X0_speaks X FJ shJ [jR f, jI r0, jI w, jI l] M (jqI (q_X0_speaks M f hf r0 w l)) := by
  refine jC_of (by decide) rfl (fun ad => Nat.le_of_ble_eq_true rfl) (by decide) ?_
  show jG D_X0_speaks X FJ shJ 0 0 (jqI (q_X0_speaks M f hf r0 w l)) 0 [(0, jR f), (1, jI r0), (2, jI w), (3, jI l)] [] M
  refine j_aload_n 0 dX0_speaks_0 rfl rfl ?_
  refine j_getr f_X0_42 (ra_12 hf) dX0_speaks_1 ?_
  refine j_iload_n 1 dX0_speaks_4 rfl rfl ?_
  refine j_iald (aa_11 hf) dX0_speaks_5 (by omega) (by omega) ?_
  refine j_iload_n 3 dX0_speaks_6 rfl rfl ?_
  have hJ_1 : ∀ zz : Int, ((M (f + 11) r0) < l ∧ zz = 0) ∨ (¬ ((M (f + 11) r0) < l) ∧ (M (f + 6) ((r0 * 7) + w)) = (-1) ∧ zz = 0) ∨ (¬ ((M (f + 11) r0) < l) ∧ ¬ (M (f + 6) ((r0 * 7) + w)) = (-1) ∧ zz = 1) → jG D_X0_speaks X FJ shJ 0 0 (jqI (q_X0_speaks M f hf r0 w l)) 30 [(0, jR f), (1, jI r0), (2, jI w), (3, jI l)] (jI zz :: []) M := by
    intro t_2 et_2
    refine j_zret rfl rfl rfl rfl dX0_speaks_30 (by omega) ?_
    exact ⟨by omega, rfl⟩
  refine j_icmp_lt (tgt := 29) dX0_speaks_7 (by decide) (fun c7_3 => ?_) (fun c7_3 => ?_)
  · skip
    refine j_iconst dX0_speaks_29 (by decide) ?_
    exact hJ_1 _ (Or.inl ⟨c7_3, rfl⟩)
  · skip
    refine j_aload_n 0 dX0_speaks_10 rfl rfl ?_
    refine j_getr f_X0_27 (ra_6 hf) dX0_speaks_11 ?_
    refine j_iload_n 1 dX0_speaks_14 rfl rfl ?_
    refine j_bipush dX0_speaks_15 (by decide) ?_
    refine j_imul dX0_speaks_17 (by omega) ?_
    refine j_iload_n 2 dX0_speaks_18 rfl rfl ?_
    refine j_iadd dX0_speaks_19 (by omega) ?_
    refine j_iald (aa_6 hf) dX0_speaks_20 (by omega) (by omega) ?_
    refine j_iconst dX0_speaks_21 (by decide) ?_
    refine j_icmp_eq (tgt := 29) dX0_speaks_22 (by decide) (fun c22_4 => ?_) (fun c22_4 => ?_)
    · skip
      refine j_iconst dX0_speaks_29 (by decide) ?_
      exact hJ_1 _ (Or.inr (Or.inl ⟨c7_3, c22_4, rfl⟩))
    · skip
      refine j_iconst dX0_speaks_25 (by decide) ?_
      refine j_goto (tgt := 30) dX0_speaks_26 (by decide) ?_
      exact hJ_1 _ (Or.inr (Or.inr (⟨c7_3, c22_4, rfl⟩)))
abbrev q_X0_tellsLast (M : jM) (f : Int) (hf : jA f) (w : Int) : Int → jM → Prop := fun r N => ((r = 1 ∧ (0 < M f 0 ∧ ¬ M (f + 6) ((M f 0 - 1) * 7 + w) = -1)) ∨ (r = 0 ∧ ¬ (0 < M f 0 ∧ ¬ M (f + 6) ((M f 0 - 1) * 7 + w) = -1))) ∧ N = M
set_option maxHeartbeats 4000000 in
set_option maxRecDepth 20000 in
theorem c_X0_tellsLast {X : jX} (M : jM) (f : Int) (hf : jA f) (w : Int) (hr : (0 ≤ M f 0 ∧ M f 0 ≤ 16) ∧ 0 ≤ w ∧ w ≤ 6) : jC yX0_tellsLast D_X0_tellsLast X FJ shJ [jR f, jI w] M (jqI (q_X0_tellsLast M f hf w)) := by
  refine jC_of (by decide) rfl (fun ad => Nat.le_of_ble_eq_true rfl) (by decide) ?_
  show jG D_X0_tellsLast X FJ shJ 0 0 (jqI (q_X0_tellsLast M f hf w)) 0 [(0, jR f), (1, jI w)] [] M
  refine j_aload_n 0 dX0_tellsLast_0 rfl rfl ?_
  refine j_geti (k' := 0) f_X0_53 (oa_0 hf) dX0_tellsLast_1 rfl ?_
  have hJ_1 : ∀ zz : Int, ((M f 0) ≤ 0 ∧ zz = 0) ∨ (¬ ((M f 0) ≤ 0) ∧ (M (f + 6) ((((M f 0) - 1) * 7) + w)) = (-1) ∧ zz = 0) ∨ (¬ ((M f 0) ≤ 0) ∧ ¬ (M (f + 6) ((((M f 0) - 1) * 7) + w)) = (-1) ∧ zz = 1) → jG D_X0_tellsLast X FJ shJ 0 0 (jqI (q_X0_tellsLast M f hf w)) 32 [(0, jR f), (1, jI w)] (jI zz :: []) M := by
    intro t_2 et_2
    refine j_zret rfl rfl rfl rfl dX0_tellsLast_32 (by omega) ?_
    exact ⟨by omega, rfl⟩
  refine j_if_le (tgt := 31) dX0_tellsLast_4 (by decide) (fun c4_3 => ?_) (fun c4_3 => ?_)
  · skip
    refine j_iconst dX0_tellsLast_31 (by decide) ?_
    exact hJ_1 _ (Or.inl ⟨c4_3, rfl⟩)
  · skip
    refine j_aload_n 0 dX0_tellsLast_7 rfl rfl ?_
    refine j_getr f_X0_27 (ra_6 hf) dX0_tellsLast_8 ?_
    refine j_aload_n 0 dX0_tellsLast_11 rfl rfl ?_
    refine j_geti (k' := 0) f_X0_53 (oa_0 hf) dX0_tellsLast_12 rfl ?_
    refine j_iconst dX0_tellsLast_15 (by decide) ?_
    refine j_isub dX0_tellsLast_16 (by omega) ?_
    refine j_bipush dX0_tellsLast_17 (by decide) ?_
    refine j_imul dX0_tellsLast_19 (by omega) ?_
    refine j_iload_n 1 dX0_tellsLast_20 rfl rfl ?_
    refine j_iadd dX0_tellsLast_21 (by omega) ?_
    refine j_iald (aa_6 hf) dX0_tellsLast_22 (by omega) (by omega) ?_
    refine j_iconst dX0_tellsLast_23 (by decide) ?_
    refine j_icmp_eq (tgt := 31) dX0_tellsLast_24 (by decide) (fun c24_4 => ?_) (fun c24_4 => ?_)
    · skip
      refine j_iconst dX0_tellsLast_31 (by decide) ?_
      exact hJ_1 _ (Or.inr (Or.inl ⟨c4_3, c24_4, rfl⟩))
    · skip
      refine j_iconst dX0_tellsLast_27 (by decide) ?_
      refine j_goto (tgt := 32) dX0_tellsLast_28 (by decide) ?_
      exact hJ_1 _ (Or.inr (Or.inr (⟨c4_3, c24_4, rfl⟩)))
abbrev q_X0_startsTooLate (M : jM) (f : Int) (hf : jA f) (a b : Int) : Int → jM → Prop := fun r N => ((r = 1 ∧ ((2 ≤ M (f + 11) a ∧ ¬ M (f + 6) (a * 7 + 1) = -1) ∧ (2 ≤ M (f + 11) b ∧ ¬ M (f + 6) (b * 7 + 2) = -1) ∧ M (f + 6) (b * 7 + 2) ≤ M (f + 6) (a * 7 + 1))) ∨ (r = 0 ∧ ¬ ((2 ≤ M (f + 11) a ∧ ¬ M (f + 6) (a * 7 + 1) = -1) ∧ (2 ≤ M (f + 11) b ∧ ¬ M (f + 6) (b * 7 + 2) = -1) ∧ M (f + 6) (b * 7 + 2) ≤ M (f + 6) (a * 7 + 1)))) ∧ N = M
set_option maxHeartbeats 4000000 in
set_option maxRecDepth 20000 in
theorem c_X0_startsTooLate {X : jX} (M : jM) (f : Int) (hf : jA f) (a b : Int) (hr : (0 ≤ a ∧ a < 16) ∧ 0 ≤ b ∧ b < 16) : jC yX0_startsTooLate D_X0_startsTooLate X FJ shJ [jR f, jI a, jI b] M (jqI (q_X0_startsTooLate M f hf a b)) := by
  refine jC_of (by decide) rfl (fun ad => Nat.le_of_ble_eq_true rfl) (by decide) ?_
  show jG D_X0_startsTooLate X FJ shJ 0 0 (jqI (q_X0_startsTooLate M f hf a b)) 0 [(0, jR f), (1, jI a), (2, jI b)] [] M
  refine j_aload_n 0 dX0_startsTooLate_0 rfl rfl ?_
  refine j_iload_n 1 dX0_startsTooLate_1 rfl rfl ?_
  refine j_iconst dX0_startsTooLate_2 (by decide) ?_
  refine j_iconst dX0_startsTooLate_3 (by decide) ?_
  refine j_callVi l_X0_105 ⟨Nat.le_of_ble_eq_true rfl, Nat.le_of_ble_eq_true rfl⟩ ⟨rfl, rfl⟩ dX0_startsTooLate_4 (oba hf) (c_X0_speaks M f hf a 1 2 (by first | assumption | omega)) rfl rfl (Nat.le_of_ble_eq_true rfl) (fun r_1 M_2 h_3 => ?_)
  obtain ⟨er_1, nh_3⟩ := h_3
  refine j_eqM nh_3 ?_
  clear nh_3
  refine j_if_eq (tgt := 49) dX0_startsTooLate_7 (by decide) (fun c7_4 => ?_) (fun c7_4 => ?_)
  · skip
    refine j_iconst dX0_startsTooLate_49 (by decide) ?_
    refine j_zret rfl rfl rfl rfl dX0_startsTooLate_50 (by omega) ?_
    exact ⟨by omega, rfl⟩
  · skip
    refine j_aload_n 0 dX0_startsTooLate_10 rfl rfl ?_
    refine j_iload_n 2 dX0_startsTooLate_11 rfl rfl ?_
    refine j_iconst dX0_startsTooLate_12 (by decide) ?_
    refine j_iconst dX0_startsTooLate_13 (by decide) ?_
    refine j_callVi l_X0_105 ⟨Nat.le_of_ble_eq_true rfl, Nat.le_of_ble_eq_true rfl⟩ ⟨rfl, rfl⟩ dX0_startsTooLate_14 (oba hf) (c_X0_speaks M f hf b 2 2 (by first | assumption | omega)) rfl rfl (Nat.le_of_ble_eq_true rfl) (fun r_5 M_6 h_7 => ?_)
    obtain ⟨er_5, nh_7⟩ := h_7
    refine j_eqM nh_7 ?_
    clear nh_7
    have hJ_8 : ∀ zz : Int, (r_5 = 0 ∧ zz = 0) ∨ (¬ r_5 = 0 ∧ (M (f + 6) ((a * 7) + 1)) < (M (f + 6) ((b * 7) + 2)) ∧ zz = 0) ∨ (¬ r_5 = 0 ∧ ¬ ((M (f + 6) ((a * 7) + 1)) < (M (f + 6) ((b * 7) + 2))) ∧ zz = 1) → jG D_X0_startsTooLate X FJ shJ 0 0 (jqI (q_X0_startsTooLate M f hf a b)) 50 [(0, jR f), (1, jI a), (2, jI b)] (jI zz :: []) M := by
      intro t_9 et_9
      refine j_zret rfl rfl rfl rfl dX0_startsTooLate_50 (by omega) ?_
      exact ⟨by omega, rfl⟩
    refine j_if_eq (tgt := 49) dX0_startsTooLate_17 (by decide) (fun c17_10 => ?_) (fun c17_10 => ?_)
    · skip
      refine j_iconst dX0_startsTooLate_49 (by decide) ?_
      exact hJ_8 _ (Or.inl ⟨c17_10, rfl⟩)
    · skip
      refine j_aload_n 0 dX0_startsTooLate_20 rfl rfl ?_
      refine j_getr f_X0_27 (ra_6 hf) dX0_startsTooLate_21 ?_
      refine j_iload_n 1 dX0_startsTooLate_24 rfl rfl ?_
      refine j_bipush dX0_startsTooLate_25 (by decide) ?_
      refine j_imul dX0_startsTooLate_27 (by omega) ?_
      refine j_iconst dX0_startsTooLate_28 (by decide) ?_
      refine j_iadd dX0_startsTooLate_29 (by omega) ?_
      refine j_iald (aa_6 hf) dX0_startsTooLate_30 (by omega) (by omega) ?_
      refine j_aload_n 0 dX0_startsTooLate_31 rfl rfl ?_
      refine j_getr f_X0_27 (ra_6 hf) dX0_startsTooLate_32 ?_
      refine j_iload_n 2 dX0_startsTooLate_35 rfl rfl ?_
      refine j_bipush dX0_startsTooLate_36 (by decide) ?_
      refine j_imul dX0_startsTooLate_38 (by omega) ?_
      refine j_iconst dX0_startsTooLate_39 (by decide) ?_
      refine j_iadd dX0_startsTooLate_40 (by omega) ?_
      refine j_iald (aa_6 hf) dX0_startsTooLate_41 (by omega) (by omega) ?_
      refine j_icmp_lt (tgt := 49) dX0_startsTooLate_42 (by decide) (fun c42_11 => ?_) (fun c42_11 => ?_)
      · skip
        refine j_iconst dX0_startsTooLate_49 (by decide) ?_
        exact hJ_8 _ (Or.inr (Or.inl ⟨c17_10, c42_11, rfl⟩))
      · skip
        refine j_iconst dX0_startsTooLate_45 (by decide) ?_
        refine j_goto (tgt := 50) dX0_startsTooLate_46 (by decide) ?_
        exact hJ_8 _ (Or.inr (Or.inr (⟨c17_10, c42_11, rfl⟩)))
