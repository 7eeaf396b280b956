abbrev q_X1_pickedAt (M : jM)  (m : Int) : Int → jM → Prop := fun r N => ((r = 1 ∧ (∃ j, 0 ≤ j ∧ j < M 16 6 ∧ M 22 j = m)) ∨ (r = 0 ∧ ¬ (∃ j, 0 ≤ j ∧ j < M 16 6 ∧ M 22 j = m))) ∧ N = M
set_option maxHeartbeats 4000000 in
set_option maxRecDepth 20000 in
theorem c_X1_pickedAt {X : jX} (M : jM)  (m : Int) (h_pk : pRg M) : jC yX1_pickedAt D_X1_pickedAt X FJ shJ [jR 16, jI m] M (jqI (q_X1_pickedAt M m)) := by
  refine jC_of (by decide) rfl (fun ad => Nat.le_of_ble_eq_true rfl) (by decide) ?_
  show jG D_X1_pickedAt X FJ shJ 0 0 (jqI (q_X1_pickedAt M m)) 0 [(0, jR 16), (1, jI m)] [] M
  have hpk := h_pk.1
  refine j_iconst dX1_pickedAt_0 (by decide) ?_
  refine j_istore_n (ls' := [(0, jR 16), (1, jI m), (2, jI 0)]) dX1_pickedAt_1 rfl (by decide) rfl ?_
  have lp2_1 : ∀ n2 : Nat, ∀ (v2 : Int), (0 ≤ v2 ∧ v2 ≤ M 16 6) ∧ (∀ j, 0 ≤ j → j < v2 → ¬ M 22 j = m) → (M 16 6 - v2).toNat < n2 → jG D_X1_pickedAt X FJ shJ 0 0 (jqI (q_X1_pickedAt M m)) 2 [(0, jR 16), (1, jI m), (2, jI v2)] ([]) M := by
    intro n2
    induction n2 with
    | zero => intro v2  _ hz; exact absurd hz (Nat.not_lt_zero _)
    | succ n2 ih2 =>
      intro v2  hinv hm
      obtain ⟨h1, h2⟩ := hinv
      refine j_iload_n 2 dX1_pickedAt_2 rfl rfl ?_
      refine j_aload_n 0 dX1_pickedAt_3 rfl rfl ?_
      refine j_geti (k' := 6) f_X1_53 o_16_6 dX1_pickedAt_4 rfl ?_
      refine j_icmp_ge (tgt := 28) dX1_pickedAt_7 (by decide) (fun c7_2 => ?_) (fun c7_2 => ?_)
      · skip
        refine j_iconst dX1_pickedAt_28 (by decide) ?_
        refine j_zret rfl rfl rfl rfl dX1_pickedAt_29 (by omega) ?_
        first | exact ⟨Or.inl ⟨rfl, v2, by omega, by omega, by assumption⟩, rfl⟩ | exact ⟨Or.inr ⟨rfl, fun ⟨j, a, b, c⟩ => h2 j a (by omega) c⟩, rfl⟩
      · skip
        refine j_aload_n 0 dX1_pickedAt_10 rfl rfl ?_
        refine j_getr f_X1_27 r_16_7 dX1_pickedAt_11 ?_
        refine j_iload_n 2 dX1_pickedAt_14 rfl rfl ?_
        refine j_iald a_22 dX1_pickedAt_15 (by omega) (by omega) ?_
        refine j_iload_n 1 dX1_pickedAt_16 rfl rfl ?_
        refine j_icmp_ne (tgt := 22) dX1_pickedAt_17 (by decide) (fun c17_3 => ?_) (fun c17_3 => ?_)
        · skip
          obtain ⟨v2_4, ev2_4⟩ : ∃ y : Int, y = v2 + 1 := ⟨_, rfl⟩
          refine j_iinc (y := v2_4) (ls' := [(0, jR 16), (1, jI m), (2, jI v2_4)]) 2 dX1_pickedAt_22 rfl ev2_4 (by omega) (by decide) rfl ?_
          refine j_goto (tgt := 2) dX1_pickedAt_25 (by decide) ?_
          exact ih2 v2_4 ⟨by omega, by intro j j0 j1; by_cases hj : j = v2; (· rw [hj]; assumption); (· exact h2 j j0 (by omega))⟩ (by omega)
        · skip
          refine j_iconst dX1_pickedAt_20 (by decide) ?_
          refine j_zret rfl rfl rfl rfl dX1_pickedAt_21 (by omega) ?_
          first | exact ⟨Or.inl ⟨rfl, v2, by omega, by omega, by assumption⟩, rfl⟩ | exact ⟨Or.inr ⟨rfl, fun ⟨j, a, b, c⟩ => h2 j a (by omega) c⟩, rfl⟩
  exact lp2_1 _ 0 ⟨by omega, by intro j a b; omega⟩ (Nat.lt_succ_self _)
abbrev q_X1_lasts (M : jM)  (k s : Int) : Int → jM → Prop := fun r N => r = pLasts M k s ∧ N = M
set_option maxHeartbeats 4000000 in
set_option maxRecDepth 20000 in
theorem c_X1_lasts {X : jX} (M : jM)  (k s : Int) (h_pk : pRg M) (h0 : 0 ≤ k ∧ k < M 16 6) : jC yX1_lasts D_X1_lasts X FJ shJ [jR 16, jI k, jI s] M (jqI (q_X1_lasts M k s)) := by
  refine jC_of (by decide) rfl (fun ad => Nat.le_of_ble_eq_true rfl) (by decide) ?_
  show jG D_X1_lasts X FJ shJ 0 0 (jqI (q_X1_lasts M k s)) 0 [(0, jR 16), (1, jI k), (2, jI s)] [] M
  have hpk := h_pk.1
  obtain ⟨x0, x3, x4, x5, x6⟩ := h_pk.2 k h0.1 h0.2
  refine j_iload_n 2 dX1_lasts_0 rfl rfl ?_
  refine j_iconst dX1_lasts_1 (by decide) ?_
  have hJ_1 : ∀ zz : Int, (¬ s = 2 ∧ zz = ((M 26 k) - (M 23 k))) ∨ (s = 2 ∧ zz = ((M 25 k) - (M 24 k))) → jG D_X1_lasts X FJ shJ 0 0 (jqI (q_X1_lasts M k s)) 34 [(0, jR 16), (1, jI k), (2, jI s)] (jI zz :: []) M := by
    intro t_2 et_2
    refine j_istore_n (ls' := [(0, jR 16), (1, jI k), (2, jI s), (3, jI t_2)]) dX1_lasts_34 rfl (by decide) rfl ?_
    refine j_iconst dX1_lasts_35 (by decide) ?_
    refine j_iload_n 3 dX1_lasts_36 rfl rfl ?_
    refine j_mmax lm_X1_62 lm_max ⟨Nat.le_of_ble_eq_true rfl, Nat.le_of_ble_eq_true rfl⟩ ⟨Nat.le_of_ble_eq_true rfl, Nat.le_of_ble_eq_true rfl⟩ dX1_lasts_37 ?_
    refine j_iret rfl rfl rfl rfl dX1_lasts_40 ?_
    exact ⟨by unfold pLasts; split <;> omega, rfl⟩
  refine j_icmp_ne (tgt := 21) dX1_lasts_2 (by decide) (fun c2_3 => ?_) (fun c2_3 => ?_)
  · skip
    refine j_aload_n 0 dX1_lasts_21 rfl rfl ?_
    refine j_getr f_X1_39 r_16_11 dX1_lasts_22 ?_
    refine j_iload_n 1 dX1_lasts_25 rfl rfl ?_
    refine j_iald a_26 dX1_lasts_26 (by omega) (by omega) ?_
    refine j_aload_n 0 dX1_lasts_27 rfl rfl ?_
    refine j_getr f_X1_30 r_16_8 dX1_lasts_28 ?_
    refine j_iload_n 1 dX1_lasts_31 rfl rfl ?_
    refine j_iald a_23 dX1_lasts_32 (by omega) (by omega) ?_
    refine j_isub dX1_lasts_33 (by omega) ?_
    exact hJ_1 _ (Or.inl ⟨c2_3, rfl⟩)
  · skip
    refine j_aload_n 0 dX1_lasts_5 rfl rfl ?_
    refine j_getr f_X1_36 r_16_10 dX1_lasts_6 ?_
    refine j_iload_n 1 dX1_lasts_9 rfl rfl ?_
    refine j_iald a_25 dX1_lasts_10 (by omega) (by omega) ?_
    refine j_aload_n 0 dX1_lasts_11 rfl rfl ?_
    refine j_getr f_X1_33 r_16_9 dX1_lasts_12 ?_
    refine j_iload_n 1 dX1_lasts_15 rfl rfl ?_
    refine j_iald a_24 dX1_lasts_16 (by omega) (by omega) ?_
    refine j_isub dX1_lasts_17 (by omega) ?_
    refine j_goto (tgt := 34) dX1_lasts_18 (by decide) ?_
    exact hJ_1 _ (Or.inr (⟨c2_3, rfl⟩))
abbrev q_X1_worked (M : jM)  (s : Int) : Int → jM → Prop := fun r N => r = sSum (fun j => pWorked M s j) (M 16 6).toNat ∧ N = M
set_option maxHeartbeats 4000000 in
set_option maxRecDepth 20000 in
theorem c_X1_worked {X : jX} (M : jM)  (s : Int) (h_pk : pRg M) : jC yX1_worked D_X1_worked X FJ shJ [jR 16, jI s] M (jqI (q_X1_worked M s)) := by
  refine jC_of (by decide) rfl (fun ad => Nat.le_of_ble_eq_true rfl) (by decide) ?_
  show jG D_X1_worked X FJ shJ 0 0 (jqI (q_X1_worked M s)) 0 [(0, jR 16), (1, jI s)] [] M
  have hpk := h_pk.1
  refine j_iconst dX1_worked_0 (by decide) ?_
  refine j_istore_n (ls' := [(0, jR 16), (1, jI s), (2, jI 0)]) dX1_worked_1 rfl (by decide) rfl ?_
  refine j_iconst dX1_worked_2 (by decide) ?_
  refine j_istore_n (ls' := [(0, jR 16), (1, jI s), (2, jI 0), (3, jI 0)]) dX1_worked_3 rfl (by decide) rfl ?_
  have lp4_1 : ∀ n4 : Nat, ∀ (v2 v3 : Int), (0 ≤ v3 ∧ v3 ≤ M 16 6) ∧ (v2 = sSum (fun j => pWorked M s j) v3.toNat) → (M 16 6 - v3).toNat < n4 → jG D_X1_worked X FJ shJ 0 0 (jqI (q_X1_worked M s)) 4 [(0, jR 16), (1, jI s), (2, jI v2), (3, jI v3)] ([]) M := by
    intro n4
    induction n4 with
    | zero => intro v2 v3  _ hz; exact absurd hz (Nat.not_lt_zero _)
    | succ n4 ih4 =>
      intro v2 v3  hinv hm
      obtain ⟨h1, h2⟩ := hinv
      have q2 := sSum_in (B := 1640) v3.toNat (g := fun j => pWorked M s j) (fun j a b => by unfold pWorked; split; (· omega); (· exact pLasts_in h_pk a (by omega) s))
      rw [← h2] at q2
      refine j_iload_n 3 dX1_worked_4 rfl rfl ?_
      refine j_aload_n 0 dX1_worked_5 rfl rfl ?_
      refine j_geti (k' := 6) f_X1_53 o_16_6 dX1_worked_6 rfl ?_
      refine j_icmp_ge (tgt := 38) dX1_worked_9 (by decide) (fun c9_2 => ?_) (fun c9_2 => ?_)
      · skip
        refine j_iload_n 2 dX1_worked_38 rfl rfl ?_
        refine j_iret rfl rfl rfl rfl dX1_worked_39 ?_
        have e6 : v3 = M 16 6 := by omega
        rw [e6] at h2
        exact ⟨h2, rfl⟩
      · skip
        refine j_aload_n 0 dX1_worked_12 rfl rfl ?_
        refine j_getr f_X1_27 r_16_7 dX1_worked_13 ?_
        refine j_iload_n 3 dX1_worked_16 rfl rfl ?_
        refine j_iald a_22 dX1_worked_17 (by omega) (by omega) ?_
        refine j_bipush dX1_worked_18 (by decide) ?_
        refine j_icmp_eq (tgt := 32) dX1_worked_20 (by decide) (fun c20_3 => ?_) (fun c20_3 => ?_)
        · skip
          obtain ⟨v3_4, ev3_4⟩ : ∃ y : Int, y = v3 + 1 := ⟨_, rfl⟩
          refine j_iinc (y := v3_4) (ls' := [(0, jR 16), (1, jI s), (2, jI v2), (3, jI v3_4)]) 3 dX1_worked_32 rfl ev3_4 (by omega) (by decide) rfl ?_
          refine j_goto (tgt := 4) dX1_worked_35 (by decide) ?_
          exact ih4 v2 v3_4 ⟨by omega, by rw [ev3_4, toNat_s h1.1]; unfold sSum; rw [← h2, toNat_c h1.1]; unfold pWorked; first | (rw [if_pos (by assumption)]; omega) | (rw [if_neg (by assumption)]; omega)⟩ (by omega)
        · skip
          refine j_iload_n 2 dX1_worked_23 rfl rfl ?_
          refine j_aload_n 0 dX1_worked_24 rfl rfl ?_
          refine j_iload_n 3 dX1_worked_25 rfl rfl ?_
          refine j_iload_n 1 dX1_worked_26 rfl rfl ?_
          refine j_callVi l_X1_68 ⟨Nat.le_of_ble_eq_true rfl, Nat.le_of_ble_eq_true rfl⟩ ⟨rfl, rfl⟩ dX1_worked_27 ob_16 (c_X1_lasts M v3 s h_pk (by first | assumption | omega)) rfl rfl (Nat.le_of_ble_eq_true rfl) (fun r_5 M_6 h_7 => ?_)
          obtain ⟨er_5, nh_7⟩ := h_7
          refine j_eqM nh_7 ?_
          clear nh_7
          refine j_iadd dX1_worked_30 (by have := pLasts_in h_pk (k := v3) (by omega) (by omega) s; omega) ?_
          refine j_nm (fun v2_8 ev2_8 => ?_)
          refine j_istore_n (ls' := [(0, jR 16), (1, jI s), (2, jI v2_8), (3, jI v3)]) dX1_worked_31 rfl (by decide) rfl ?_
          obtain ⟨v3_9, ev3_9⟩ : ∃ y : Int, y = v3 + 1 := ⟨_, rfl⟩
          refine j_iinc (y := v3_9) (ls' := [(0, jR 16), (1, jI s), (2, jI v2_8), (3, jI v3_9)]) 3 dX1_worked_32 rfl ev3_9 (by omega) (by decide) rfl ?_
          refine j_goto (tgt := 4) dX1_worked_35 (by decide) ?_
          exact ih4 v2_8 v3_9 ⟨by omega, by rw [ev3_9, toNat_s h1.1]; unfold sSum; rw [← h2, toNat_c h1.1]; unfold pWorked; first | (rw [if_pos (by assumption)]; omega) | (rw [if_neg (by assumption)]; omega)⟩ (by omega)
  exact lp4_1 _ 0 0 ⟨by first | omega | rfl, by first | omega | rfl⟩ (Nat.lt_succ_self _)
abbrev q_X1_schooled (M : jM)   : Int → jM → Prop := fun r N => r = sSum (fun j => pSchool M j) (M 16 6).toNat ∧ N = M
set_option maxHeartbeats 4000000 in
set_option maxRecDepth 20000 in
theorem c_X1_schooled {X : jX} (M : jM)   (h_pk : pRg M) : jC yX1_schooled D_X1_schooled X FJ shJ [jR 16] M (jqI (q_X1_schooled M)) := by
  refine jC_of (by decide) rfl (fun ad => Nat.le_of_ble_eq_true rfl) (by decide) ?_
  show jG D_X1_schooled X FJ shJ 0 0 (jqI (q_X1_schooled M)) 0 [(0, jR 16)] [] M
  have hpk := h_pk.1
  refine j_iconst dX1_schooled_0 (by decide) ?_
  refine j_istore_n (ls' := [(0, jR 16), (1, jI 0)]) dX1_schooled_1 rfl (by decide) rfl ?_
  refine j_iconst dX1_schooled_2 (by decide) ?_
  refine j_istore_n (ls' := [(0, jR 16), (1, jI 0), (2, jI 0)]) dX1_schooled_3 rfl (by decide) rfl ?_
  have lp4_1 : ∀ n4 : Nat, ∀ (v1 v2 : Int), (0 ≤ v2 ∧ v2 ≤ M 16 6) ∧ (v1 = sSum (fun j => pSchool M j) v2.toNat) → (M 16 6 - v2).toNat < n4 → jG D_X1_schooled X FJ shJ 0 0 (jqI (q_X1_schooled M)) 4 [(0, jR 16), (1, jI v1), (2, jI v2)] ([]) M := by
    intro n4
    induction n4 with
    | zero => intro v1 v2  _ hz; exact absurd hz (Nat.not_lt_zero _)
    | succ n4 ih4 =>
      intro v1 v2  hinv hm
      obtain ⟨h1, h2⟩ := hinv
      have q2 := sSum_in (B := 1640) v2.toNat (g := fun j => pSchool M j) (fun j a b => by unfold pSchool; split; (· exact pLasts_in h_pk a (by omega) 2); (· omega))
      rw [← h2] at q2
      refine j_iload_n 2 dX1_schooled_4 rfl rfl ?_
      refine j_aload_n 0 dX1_schooled_5 rfl rfl ?_
      refine j_geti (k' := 6) f_X1_53 o_16_6 dX1_schooled_6 rfl ?_
      refine j_icmp_ge (tgt := 38) dX1_schooled_9 (by decide) (fun c9_2 => ?_) (fun c9_2 => ?_)
      · skip
        refine j_iload_n 1 dX1_schooled_38 rfl rfl ?_
        refine j_iret rfl rfl rfl rfl dX1_schooled_39 ?_
        have e6 : v2 = M 16 6 := by omega
        rw [e6] at h2
        exact ⟨h2, rfl⟩
      · skip
        refine j_aload_n 0 dX1_schooled_12 rfl rfl ?_
        refine j_getr f_X1_27 r_16_7 dX1_schooled_13 ?_
        refine j_iload_n 2 dX1_schooled_16 rfl rfl ?_
        refine j_iald a_22 dX1_schooled_17 (by omega) (by omega) ?_
        refine j_bipush dX1_schooled_18 (by decide) ?_
        refine j_icmp_ne (tgt := 32) dX1_schooled_20 (by decide) (fun c20_3 => ?_) (fun c20_3 => ?_)
        · skip
          obtain ⟨v2_4, ev2_4⟩ : ∃ y : Int, y = v2 + 1 := ⟨_, rfl⟩
          refine j_iinc (y := v2_4) (ls' := [(0, jR 16), (1, jI v1), (2, jI v2_4)]) 2 dX1_schooled_32 rfl ev2_4 (by omega) (by decide) rfl ?_
          refine j_goto (tgt := 4) dX1_schooled_35 (by decide) ?_
          exact ih4 v1 v2_4 ⟨by omega, by rw [ev2_4, toNat_s h1.1]; unfold sSum; rw [← h2, toNat_c h1.1]; unfold pSchool; first | (rw [if_pos (by assumption)]; omega) | (rw [if_neg (by assumption)]; omega)⟩ (by omega)
        · skip
          refine j_iload_n 1 dX1_schooled_23 rfl rfl ?_
          refine j_aload_n 0 dX1_schooled_24 rfl rfl ?_
          refine j_iload_n 2 dX1_schooled_25 rfl rfl ?_
          refine j_iconst dX1_schooled_26 (by decide) ?_
          refine j_callVi l_X1_68 ⟨Nat.le_of_ble_eq_true rfl, Nat.le_of_ble_eq_true rfl⟩ ⟨rfl, rfl⟩ dX1_schooled_27 ob_16 (c_X1_lasts M v2 2 h_pk (by first | assumption | omega)) rfl rfl (Nat.le_of_ble_eq_true rfl) (fun r_5 M_6 h_7 => ?_)
          obtain ⟨er_5, nh_7⟩ := h_7
          refine j_eqM nh_7 ?_
          clear nh_7
          refine j_iadd dX1_schooled_30 (by have := pLasts_in h_pk (k := v2) (by omega) (by omega) 2; omega) ?_
          refine j_nm (fun v1_8 ev1_8 => ?_)
          refine j_istore_n (ls' := [(0, jR 16), (1, jI v1_8), (2, jI v2)]) dX1_schooled_31 rfl (by decide) rfl ?_
          obtain ⟨v2_9, ev2_9⟩ : ∃ y : Int, y = v2 + 1 := ⟨_, rfl⟩
          refine j_iinc (y := v2_9) (ls' := [(0, jR 16), (1, jI v1_8), (2, jI v2_9)]) 2 dX1_schooled_32 rfl ev2_9 (by omega) (by decide) rfl ?_
          refine j_goto (tgt := 4) dX1_schooled_35 (by decide) ?_
          exact ih4 v1_8 v2_9 ⟨by omega, by rw [ev2_9, toNat_s h1.1]; unfold sSum; rw [← h2, toNat_c h1.1]; unfold pSchool; first | (rw [if_pos (by assumption)]; omega) | (rw [if_neg (by assumption)]; omega)⟩ (by omega)
  exact lp4_1 _ 0 0 ⟨by first | omega | rfl, by first | omega | rfl⟩ (Nat.lt_succ_self _)
abbrev q_X1_longestAt (M : jM)  (m s : Int) : Int → jM → Prop := fun r N => r = pLongest M m s (M 16 6).toNat ∧ N = M
set_option maxHeartbeats 4000000 in
set_option maxRecDepth 20000 in
theorem c_X1_longestAt {X : jX} (M : jM)  (m s : Int) (h_pk : pRg M) : jC yX1_longestAt D_X1_longestAt X FJ shJ [jR 16, jI m, jI s] M (jqI (q_X1_longestAt M m s)) := by
  refine jC_of (by decide) rfl (fun ad => Nat.le_of_ble_eq_true rfl) (by decide) ?_
  show jG D_X1_longestAt X FJ shJ 0 0 (jqI (q_X1_longestAt M m s)) 0 [(0, jR 16), (1, jI m), (2, jI s)] [] M
  have hpk := h_pk.1
  refine j_iconst dX1_longestAt_0 (by decide) ?_
  refine j_istore_n (ls' := [(0, jR 16), (1, jI m), (2, jI s), (3, jI 0)]) dX1_longestAt_1 rfl (by decide) rfl ?_
  refine j_iconst dX1_longestAt_2 (by decide) ?_
  refine j_istore (ls' := [(0, jR 16), (1, jI m), (2, jI s), (3, jI 0), (4, jI 0)]) dX1_longestAt_3 (by decide) rfl ?_
  have lp5_1 : ∀ n5 : Nat, ∀ (v3 v4 : Int), (0 ≤ v4 ∧ v4 ≤ M 16 6) ∧ (v3 = pLongest M m s v4.toNat) → (M 16 6 - v4).toNat < n5 → jG D_X1_longestAt X FJ shJ 0 0 (jqI (q_X1_longestAt M m s)) 5 [(0, jR 16), (1, jI m), (2, jI s), (3, jI v3), (4, jI v4)] ([]) M := by
    intro n5
    induction n5 with
    | zero => intro v3 v4  _ hz; exact absurd hz (Nat.not_lt_zero _)
    | succ n5 ih5 =>
      intro v3 v4  hinv hm
      obtain ⟨h1, h2⟩ := hinv
      refine j_iload 4 dX1_longestAt_5 rfl ?_
      refine j_aload_n 0 dX1_longestAt_7 rfl rfl ?_
      refine j_geti (k' := 6) f_X1_53 o_16_6 dX1_longestAt_8 rfl ?_
      refine j_icmp_ge (tgt := 43) dX1_longestAt_11 (by decide) (fun c11_2 => ?_) (fun c11_2 => ?_)
      · skip
        refine j_iload_n 3 dX1_longestAt_43 rfl rfl ?_
        refine j_iret rfl rfl rfl rfl dX1_longestAt_44 ?_
        have e6 : v4 = M 16 6 := by omega
        rw [e6] at h2
        exact ⟨h2, rfl⟩
      · skip
        refine j_aload_n 0 dX1_longestAt_14 rfl rfl ?_
        refine j_getr f_X1_27 r_16_7 dX1_longestAt_15 ?_
        refine j_iload 4 dX1_longestAt_18 rfl ?_
        refine j_iald a_22 dX1_longestAt_20 (by omega) (by omega) ?_
        refine j_iload_n 1 dX1_longestAt_21 rfl rfl ?_
        refine j_icmp_ne (tgt := 37) dX1_longestAt_22 (by decide) (fun c22_3 => ?_) (fun c22_3 => ?_)
        · skip
          obtain ⟨v4_4, ev4_4⟩ : ∃ y : Int, y = v4 + 1 := ⟨_, rfl⟩
          refine j_iinc (y := v4_4) (ls' := [(0, jR 16), (1, jI m), (2, jI s), (3, jI v3), (4, jI v4_4)]) 4 dX1_longestAt_37 rfl ev4_4 (by omega) (by decide) rfl ?_
          refine j_goto (tgt := 5) dX1_longestAt_40 (by decide) ?_
          exact ih5 v3 v4_4 ⟨by omega, by rw [ev4_4, toNat_s h1.1]; unfold pLongest; rw [← h2, toNat_c h1.1]; first | (rw [if_pos (by assumption)]; omega) | (rw [if_neg (by assumption)])⟩ (by omega)
        · skip
          refine j_iload_n 3 dX1_longestAt_25 rfl rfl ?_
          refine j_aload_n 0 dX1_longestAt_26 rfl rfl ?_
          refine j_iload 4 dX1_longestAt_27 rfl ?_
          refine j_iload_n 2 dX1_longestAt_29 rfl rfl ?_
          refine j_callVi l_X1_68 ⟨Nat.le_of_ble_eq_true rfl, Nat.le_of_ble_eq_true rfl⟩ ⟨rfl, rfl⟩ dX1_longestAt_30 ob_16 (c_X1_lasts M v4 s h_pk (by first | assumption | omega)) rfl rfl (Nat.le_of_ble_eq_true rfl) (fun r_5 M_6 h_7 => ?_)
          obtain ⟨er_5, nh_7⟩ := h_7
          refine j_eqM nh_7 ?_
          clear nh_7
          refine j_mmax lm_X1_62 lm_max ⟨Nat.le_of_ble_eq_true rfl, Nat.le_of_ble_eq_true rfl⟩ ⟨Nat.le_of_ble_eq_true rfl, Nat.le_of_ble_eq_true rfl⟩ dX1_longestAt_33 ?_
          refine j_nm (fun v3_8 ev3_8 => ?_)
          refine j_istore_n (ls' := [(0, jR 16), (1, jI m), (2, jI s), (3, jI v3_8), (4, jI v4)]) dX1_longestAt_36 rfl (by decide) rfl ?_
          obtain ⟨v4_9, ev4_9⟩ : ∃ y : Int, y = v4 + 1 := ⟨_, rfl⟩
          refine j_iinc (y := v4_9) (ls' := [(0, jR 16), (1, jI m), (2, jI s), (3, jI v3_8), (4, jI v4_9)]) 4 dX1_longestAt_37 rfl ev4_9 (by omega) (by decide) rfl ?_
          refine j_goto (tgt := 5) dX1_longestAt_40 (by decide) ?_
          exact ih5 v3_8 v4_9 ⟨by omega, by rw [ev4_9, toNat_s h1.1]; unfold pLongest; rw [← h2, toNat_c h1.1]; first | (rw [if_pos (by assumption)]; omega) | (rw [if_neg (by assumption)])⟩ (by omega)
  exact lp5_1 _ 0 0 ⟨by first | omega | rfl, by first | omega | rfl⟩ (Nat.lt_succ_self _)
abbrev q_X1_leaves (M : jM)  (m a b s : Int) : Int → jM → Prop := fun r N => ((r = 1 ∧ (∃ j, 0 ≤ j ∧ j < M 16 6 ∧ M 22 j = m ∧ ((if s = 2 then M 24 j else M 23 j) < a ∨ b < (if s = 2 then M 25 j else M 26 j)))) ∨ (r = 0 ∧ ¬ (∃ j, 0 ≤ j ∧ j < M 16 6 ∧ M 22 j = m ∧ ((if s = 2 then M 24 j else M 23 j) < a ∨ b < (if s = 2 then M 25 j else M 26 j))))) ∧ N = M
set_option maxHeartbeats 4000000 in
set_option maxRecDepth 20000 in
theorem c_X1_leaves {X : jX} (M : jM)  (m a b s : Int) (h_pk : pRg M) : jC yX1_leaves D_X1_leaves X FJ shJ [jR 16, jI m, jI a, jI b, jI s] M (jqI (q_X1_leaves M m a b s)) := by
  refine jC_of (by decide) rfl (fun ad => Nat.le_of_ble_eq_true rfl) (by decide) ?_
  show jG D_X1_leaves X FJ shJ 0 0 (jqI (q_X1_leaves M m a b s)) 0 [(0, jR 16), (1, jI m), (2, jI a), (3, jI b), (4, jI s)] [] M
  have hpk := h_pk.1
  refine j_iconst dX1_leaves_0 (by decide) ?_
  refine j_istore (ls' := [(0, jR 16), (1, jI m), (2, jI a), (3, jI b), (4, jI s), (5, jI 0)]) dX1_leaves_1 (by decide) rfl ?_
  have lp3_1 : ∀ n3 : Nat, ∀ (v5 : Int), (0 ≤ v5 ∧ v5 ≤ M 16 6) ∧ (∀ j, 0 ≤ j → j < v5 → ¬ (M 22 j = m ∧ ((if s = 2 then M 24 j else M 23 j) < a ∨ b < (if s = 2 then M 25 j else M 26 j)))) → (M 16 6 - v5).toNat < n3 → jG D_X1_leaves X FJ shJ 0 0 (jqI (q_X1_leaves M m a b s)) 3 [(0, jR 16), (1, jI m), (2, jI a), (3, jI b), (4, jI s), (5, jI v5)] ([]) M := by
    intro n3
    induction n3 with
    | zero => intro v5  _ hz; exact absurd hz (Nat.not_lt_zero _)
    | succ n3 ih3 =>
      intro v5  hinv hm
      obtain ⟨h1, h2⟩ := hinv
      refine j_iload 5 dX1_leaves_3 rfl ?_
      refine j_aload_n 0 dX1_leaves_5 rfl rfl ?_
      refine j_geti (k' := 6) f_X1_53 o_16_6 dX1_leaves_6 rfl ?_
      refine j_icmp_ge (tgt := 93) dX1_leaves_9 (by decide) (fun c9_2 => ?_) (fun c9_2 => ?_)
      · skip
        refine j_iconst dX1_leaves_93 (by decide) ?_
        refine j_zret rfl rfl rfl rfl dX1_leaves_94 (by omega) ?_
        first | exact ⟨Or.inl ⟨rfl, v5, by omega, by omega, by (repeat' split) <;> omega⟩, rfl⟩ | exact ⟨Or.inr ⟨rfl, fun ⟨j, a, b, c⟩ => h2 j a (by omega) c⟩, rfl⟩
      · skip
        refine j_iload 4 dX1_leaves_12 rfl ?_
        refine j_iconst dX1_leaves_14 (by decide) ?_
        have hJ_3 : ∀ zz : Int, (¬ s = 2 ∧ zz = (M 23 v5)) ∨ (s = 2 ∧ zz = (M 24 v5)) → jG D_X1_leaves X FJ shJ 0 0 (jqI (q_X1_leaves M m a b s)) 35 [(0, jR 16), (1, jI m), (2, jI a), (3, jI b), (4, jI s), (5, jI v5)] (jI zz :: []) M := by
          intro t_4 et_4
          refine j_istore (ls' := [(0, jR 16), (1, jI m), (2, jI a), (3, jI b), (4, jI s), (5, jI v5), (6, jI t_4)]) dX1_leaves_35 (by decide) rfl ?_
          refine j_iload 4 dX1_leaves_37 rfl ?_
          refine j_iconst dX1_leaves_39 (by decide) ?_
          have hJ_5 : ∀ zz : Int, (¬ s = 2 ∧ zz = (M 26 v5)) ∨ (s = 2 ∧ zz = (M 25 v5)) → jG D_X1_leaves X FJ shJ 0 0 (jqI (q_X1_leaves M m a b s)) 60 [(0, jR 16), (1, jI m), (2, jI a), (3, jI b), (4, jI s), (5, jI v5), (6, jI t_4)] (jI zz :: []) M := by
            intro t_6 et_6
            refine j_istore (ls' := [(0, jR 16), (1, jI m), (2, jI a), (3, jI b), (4, jI s), (5, jI v5), (6, jI t_4), (7, jI t_6)]) dX1_leaves_60 (by decide) rfl ?_
            refine j_aload_n 0 dX1_leaves_62 rfl rfl ?_
            refine j_getr f_X1_27 r_16_7 dX1_leaves_63 ?_
            refine j_iload 5 dX1_leaves_66 rfl ?_
            refine j_iald a_22 dX1_leaves_68 (by omega) (by omega) ?_
            refine j_iload_n 1 dX1_leaves_69 rfl rfl ?_
            refine j_icmp_ne (tgt := 87) dX1_leaves_70 (by decide) (fun c70_7 => ?_) (fun c70_7 => ?_)
            · skip
              obtain ⟨v5_8, ev5_8⟩ : ∃ y : Int, y = v5 + 1 := ⟨_, rfl⟩
              refine j_iinc (y := v5_8) (ls' := [(0, jR 16), (1, jI m), (2, jI a), (3, jI b), (4, jI s), (5, jI v5_8), (6, jI t_4), (7, jI t_6)]) 5 dX1_leaves_87 rfl ev5_8 (by omega) (by decide) rfl ?_
              refine j_goto (tgt := 3) dX1_leaves_90 (by decide) ?_
              refine j_sub (ls' := [(0, jR 16), (1, jI m), (2, jI a), (3, jI b), (4, jI s), (5, jI v5_8)]) [0, 1, 2, 3, 4, 5] rfl ?_
              exact ih3 v5_8 ⟨by omega, by intro j j0 j1; by_cases hj : j = v5; (· rw [hj]; (repeat' split) <;> omega); (· exact h2 j j0 (by omega))⟩ (by omega)
            · skip
              refine j_iload 6 dX1_leaves_73 rfl ?_
              refine j_iload_n 2 dX1_leaves_75 rfl rfl ?_
              refine j_icmp_lt (tgt := 85) dX1_leaves_76 (by decide) (fun c76_9 => ?_) (fun c76_9 => ?_)
              · skip
                refine j_iconst dX1_leaves_85 (by decide) ?_
                refine j_zret rfl rfl rfl rfl dX1_leaves_86 (by omega) ?_
                first | exact ⟨Or.inl ⟨rfl, v5, by omega, by omega, by (repeat' split) <;> omega⟩, rfl⟩ | exact ⟨Or.inr ⟨rfl, fun ⟨j, a, b, c⟩ => h2 j a (by omega) c⟩, rfl⟩
              · skip
                refine j_iload 7 dX1_leaves_79 rfl ?_
                refine j_iload_n 3 dX1_leaves_81 rfl rfl ?_
                refine j_icmp_le (tgt := 87) dX1_leaves_82 (by decide) (fun c82_10 => ?_) (fun c82_10 => ?_)
                · skip
                  obtain ⟨v5_11, ev5_11⟩ : ∃ y : Int, y = v5 + 1 := ⟨_, rfl⟩
                  refine j_iinc (y := v5_11) (ls' := [(0, jR 16), (1, jI m), (2, jI a), (3, jI b), (4, jI s), (5, jI v5_11), (6, jI t_4), (7, jI t_6)]) 5 dX1_leaves_87 rfl ev5_11 (by omega) (by decide) rfl ?_
                  refine j_goto (tgt := 3) dX1_leaves_90 (by decide) ?_
                  refine j_sub (ls' := [(0, jR 16), (1, jI m), (2, jI a), (3, jI b), (4, jI s), (5, jI v5_11)]) [0, 1, 2, 3, 4, 5] rfl ?_
                  exact ih3 v5_11 ⟨by omega, by intro j j0 j1; by_cases hj : j = v5; (· rw [hj]; (repeat' split) <;> omega); (· exact h2 j j0 (by omega))⟩ (by omega)
                · skip
                  refine j_iconst dX1_leaves_85 (by decide) ?_
                  refine j_zret rfl rfl rfl rfl dX1_leaves_86 (by omega) ?_
                  first | exact ⟨Or.inl ⟨rfl, v5, by omega, by omega, by (repeat' split) <;> omega⟩, rfl⟩ | exact ⟨Or.inr ⟨rfl, fun ⟨j, a, b, c⟩ => h2 j a (by omega) c⟩, rfl⟩
          refine j_icmp_ne (tgt := 53) dX1_leaves_40 (by decide) (fun c40_12 => ?_) (fun c40_12 => ?_)
          · skip
            refine j_aload_n 0 dX1_leaves_53 rfl rfl ?_
            refine j_getr f_X1_39 r_16_11 dX1_leaves_54 ?_
            refine j_iload 5 dX1_leaves_57 rfl ?_
            refine j_iald a_26 dX1_leaves_59 (by omega) (by omega) ?_
            exact hJ_5 _ (Or.inl ⟨c40_12, rfl⟩)
          · skip
            refine j_aload_n 0 dX1_leaves_43 rfl rfl ?_
            refine j_getr f_X1_36 r_16_10 dX1_leaves_44 ?_
            refine j_iload 5 dX1_leaves_47 rfl ?_
            refine j_iald a_25 dX1_leaves_49 (by omega) (by omega) ?_
            refine j_goto (tgt := 60) dX1_leaves_50 (by decide) ?_
            exact hJ_5 _ (Or.inr (⟨c40_12, rfl⟩))
        refine j_icmp_ne (tgt := 28) dX1_leaves_15 (by decide) (fun c15_13 => ?_) (fun c15_13 => ?_)
        · skip
          refine j_aload_n 0 dX1_leaves_28 rfl rfl ?_
          refine j_getr f_X1_30 r_16_8 dX1_leaves_29 ?_
          refine j_iload 5 dX1_leaves_32 rfl ?_
          refine j_iald a_23 dX1_leaves_34 (by omega) (by omega) ?_
          exact hJ_3 _ (Or.inl ⟨c15_13, rfl⟩)
        · skip
          refine j_aload_n 0 dX1_leaves_18 rfl rfl ?_
          refine j_getr f_X1_33 r_16_9 dX1_leaves_19 ?_
          refine j_iload 5 dX1_leaves_22 rfl ?_
          refine j_iald a_24 dX1_leaves_24 (by omega) (by omega) ?_
          refine j_goto (tgt := 35) dX1_leaves_25 (by decide) ?_
          exact hJ_3 _ (Or.inr (⟨c15_13, rfl⟩))
  exact lp3_1 _ 0 ⟨by omega, by intro j a b; omega⟩ (Nat.lt_succ_self _)
abbrev q_X1_bothIn (M : jM)  (k l : Int) : Int → jM → Prop := fun r N => ((r = 1 ∧ (pB M k l = true)) ∨ (r = 0 ∧ ¬ (pB M k l = true))) ∧ N = M
set_option maxHeartbeats 4000000 in
set_option maxRecDepth 20000 in
theorem c_X1_bothIn {X : jX} (M : jM)  (k l : Int) (h_pk : pRg M) (h0 : 0 ≤ k ∧ k < M 16 6 ∧ 0 ≤ l ∧ l < M 16 6) : jC yX1_bothIn D_X1_bothIn X FJ shJ [jR 16, jI k, jI l] M (jqI (q_X1_bothIn M k l)) := by
  refine jC_of (by decide) rfl (fun ad => Nat.le_of_ble_eq_true rfl) (by decide) ?_
  show jG D_X1_bothIn X FJ shJ 0 0 (jqI (q_X1_bothIn M k l)) 0 [(0, jR 16), (1, jI k), (2, jI l)] [] M
  have hpk := h_pk.1
  refine j_aload_n 0 dX1_bothIn_0 rfl rfl ?_
  refine j_getr f_X1_33 r_16_9 dX1_bothIn_1 ?_
  refine j_iload_n 1 dX1_bothIn_4 rfl rfl ?_
  refine j_iald a_24 dX1_bothIn_5 (by omega) (by omega) ?_
  refine j_aload_n 0 dX1_bothIn_6 rfl rfl ?_
  refine j_getr f_X1_33 r_16_9 dX1_bothIn_7 ?_
  refine j_iload_n 2 dX1_bothIn_10 rfl rfl ?_
  refine j_iald a_24 dX1_bothIn_11 (by omega) (by omega) ?_
  refine j_mmax lm_X1_62 lm_max ⟨Nat.le_of_ble_eq_true rfl, Nat.le_of_ble_eq_true rfl⟩ ⟨Nat.le_of_ble_eq_true rfl, Nat.le_of_ble_eq_true rfl⟩ dX1_bothIn_12 ?_
  refine j_aload_n 0 dX1_bothIn_15 rfl rfl ?_
  refine j_getr f_X1_36 r_16_10 dX1_bothIn_16 ?_
  refine j_iload_n 1 dX1_bothIn_19 rfl rfl ?_
  refine j_iald a_25 dX1_bothIn_20 (by omega) (by omega) ?_
  refine j_aload_n 0 dX1_bothIn_21 rfl rfl ?_
  refine j_getr f_X1_36 r_16_10 dX1_bothIn_22 ?_
  refine j_iload_n 2 dX1_bothIn_25 rfl rfl ?_
  refine j_iald a_25 dX1_bothIn_26 (by omega) (by omega) ?_
  refine j_mmin lm_X1_71 lm_min ⟨Nat.le_of_ble_eq_true rfl, Nat.le_of_ble_eq_true rfl⟩ ⟨Nat.le_of_ble_eq_true rfl, Nat.le_of_ble_eq_true rfl⟩ dX1_bothIn_27 ?_
  have hJ_1 : ∀ zz : Int, ((min (M 25 k) (M 25 l)) ≤ (max (M 24 k) (M 24 l)) ∧ zz = 0) ∨ (¬ ((min (M 25 k) (M 25 l)) ≤ (max (M 24 k) (M 24 l))) ∧ zz = 1) → jG D_X1_bothIn X FJ shJ 0 0 (jqI (q_X1_bothIn M k l)) 38 [(0, jR 16), (1, jI k), (2, jI l)] (jI zz :: []) M := by
    intro t_2 et_2
    refine j_zret rfl rfl rfl rfl dX1_bothIn_38 (by omega) ?_
    refine ⟨?_, rfl⟩
    unfold pB
    rw [decide_eq_true_iff]
    omega
  refine j_icmp_ge (tgt := 37) dX1_bothIn_30 (by decide) (fun c30_3 => ?_) (fun c30_3 => ?_)
  · skip
    refine j_iconst dX1_bothIn_37 (by decide) ?_
    exact hJ_1 _ (Or.inl ⟨c30_3, rfl⟩)
  · skip
    refine j_iconst dX1_bothIn_33 (by decide) ?_
    refine j_goto (tgt := 38) dX1_bothIn_34 (by decide) ?_
    exact hJ_1 _ (Or.inr (⟨c30_3, rfl⟩))
abbrev q_X1_clashes (M : jM)   : Int → jM → Prop := fun r N => r = cSq (pB M) (M 16 6).toNat ∧ N = M
set_option maxHeartbeats 4000000 in
set_option maxRecDepth 20000 in
theorem c_X1_clashes {X : jX} (M : jM)   (h_pk : pRg M) : jC yX1_clashes D_X1_clashes X FJ shJ [jR 16] M (jqI (q_X1_clashes M)) := by
  refine jC_of (by decide) rfl (fun ad => Nat.le_of_ble_eq_true rfl) (by decide) ?_
  show jG D_X1_clashes X FJ shJ 0 0 (jqI (q_X1_clashes M)) 0 [(0, jR 16)] [] M
  have hpk := h_pk.1
  refine j_iconst dX1_clashes_0 (by decide) ?_
  refine j_istore_n (ls' := [(0, jR 16), (1, jI 0)]) dX1_clashes_1 rfl (by decide) rfl ?_
  refine j_iconst dX1_clashes_2 (by decide) ?_
  refine j_istore_n (ls' := [(0, jR 16), (1, jI 0), (2, jI 0)]) dX1_clashes_3 rfl (by decide) rfl ?_
  have lp4_1 : ∀ n4 : Nat, ∀ (v1 v2 : Int), (0 ≤ v2 ∧ v2 ≤ M 16 6) ∧ (v1 = sSum (fun k => sSum (fun l => if k < l ∧ pB M k l = true then 1 else 0) (M 16 6).toNat) v2.toNat) → (M 16 6 - v2).toNat < n4 → jG D_X1_clashes X FJ shJ 0 0 (jqI (q_X1_clashes M)) 4 [(0, jR 16), (1, jI v1), (2, jI v2)] ([]) M := by
    intro n4
    induction n4 with
    | zero => intro v1 v2  _ hz; exact absurd hz (Nat.not_lt_zero _)
    | succ n4 ih4 =>
      intro v1 v2  hinv hm
      obtain ⟨h1, h2⟩ := hinv
      have q2 := sSum_in (B := 60) v2.toNat (g := (fun k => sSum (fun l => if k < l ∧ pB M k l = true then 1 else 0) (M 16 6).toNat)) (fun j a b => by have := sSum01_in (g := fun l => if j < l ∧ pB M j l = true then 1 else 0) (M 16 6).toNat (fun l _ _ => by split <;> omega); omega)
      rw [← h2] at q2
      refine j_iload_n 2 dX1_clashes_4 rfl rfl ?_
      refine j_aload_n 0 dX1_clashes_5 rfl rfl ?_
      refine j_geti (k' := 6) f_X1_53 o_16_6 dX1_clashes_6 rfl ?_
      refine j_icmp_ge (tgt := 48) dX1_clashes_9 (by decide) (fun c9_2 => ?_) (fun c9_2 => ?_)
      · skip
        refine j_iload_n 1 dX1_clashes_48 rfl rfl ?_
        refine j_iret rfl rfl rfl rfl dX1_clashes_49 ?_
        have e6 : v2 = M 16 6 := by omega
        rw [e6] at h2
        exact ⟨h2, rfl⟩
      · skip
        refine j_iload_n 2 dX1_clashes_12 rfl rfl ?_
        refine j_iconst dX1_clashes_13 (by decide) ?_
        refine j_iadd dX1_clashes_14 (by omega) ?_
        refine j_nm (fun v3_3 ev3_3 => ?_)
        refine j_istore_n (ls' := [(0, jR 16), (1, jI v1), (2, jI v2), (3, jI v3_3)]) dX1_clashes_15 rfl (by decide) rfl ?_
        have lp16_4 : ∀ n16 : Nat, ∀ (u1 v3 : Int), (v2 + 1 ≤ v3 ∧ v3 ≤ M 16 6) ∧ (u1 = v1 + sSum (fun l => if v2 < l ∧ pB M v2 l = true then 1 else 0) v3.toNat) → (M 16 6 - v3).toNat < n16 → jG D_X1_clashes X FJ shJ 0 0 (jqI (q_X1_clashes M)) 16 [(0, jR 16), (1, jI u1), (2, jI v2), (3, jI v3)] ([]) M := by
          intro n16
          induction n16 with
          | zero => intro u1 v3  _ hz; exact absurd hz (Nat.not_lt_zero _)
          | succ n16 ih16 =>
            intro u1 v3  hinv hm
            obtain ⟨g1, g2⟩ := hinv
            have q3 := sSum01_in (g := (fun l => if v2 < l ∧ pB M v2 l = true then 1 else 0)) v3.toNat (fun l _ _ => by split <;> omega)
            refine j_iload_n 3 dX1_clashes_16 rfl rfl ?_
            refine j_aload_n 0 dX1_clashes_17 rfl rfl ?_
            refine j_geti (k' := 6) f_X1_53 o_16_6 dX1_clashes_18 rfl ?_
            refine j_icmp_ge (tgt := 42) dX1_clashes_21 (by decide) (fun c21_5 => ?_) (fun c21_5 => ?_)
            · skip
              obtain ⟨v2_6, ev2_6⟩ : ∃ y : Int, y = v2 + 1 := ⟨_, rfl⟩
              refine j_iinc (y := v2_6) (ls' := [(0, jR 16), (1, jI u1), (2, jI v2_6), (3, jI v3)]) 2 dX1_clashes_42 rfl ev2_6 (by omega) (by decide) rfl ?_
              refine j_goto (tgt := 4) dX1_clashes_45 (by decide) ?_
              refine j_sub (ls' := [(0, jR 16), (1, jI u1), (2, jI v2_6)]) [0, 1, 2] rfl ?_
              exact ih4 u1 v2_6 ⟨by omega, by rw [ev2_6, toNat_s h1.1]; unfold sSum; rw [toNat_c h1.1, ← h2, g2, show v3 = M 16 6 by omega]⟩ (by omega)
            · skip
              refine j_aload_n 0 dX1_clashes_24 rfl rfl ?_
              refine j_iload_n 2 dX1_clashes_25 rfl rfl ?_
              refine j_iload_n 3 dX1_clashes_26 rfl rfl ?_
              refine j_callVi l_X1_74 ⟨Nat.le_of_ble_eq_true rfl, Nat.le_of_ble_eq_true rfl⟩ ⟨rfl, rfl⟩ dX1_clashes_27 ob_16 (c_X1_bothIn M v2 v3 h_pk (by first | assumption | omega)) rfl rfl (Nat.le_of_ble_eq_true rfl) (fun r_7 M_8 h_9 => ?_)
              obtain ⟨er_7, nh_9⟩ := h_9
              refine j_eqM nh_9 ?_
              clear nh_9
              refine j_if_eq (tgt := 36) dX1_clashes_30 (by decide) (fun c30_10 => ?_) (fun c30_10 => ?_)
              · skip
                obtain ⟨v3_11, ev3_11⟩ : ∃ y : Int, y = v3 + 1 := ⟨_, rfl⟩
                refine j_iinc (y := v3_11) (ls' := [(0, jR 16), (1, jI u1), (2, jI v2), (3, jI v3_11)]) 3 dX1_clashes_36 rfl ev3_11 (by omega) (by decide) rfl ?_
                refine j_goto (tgt := 16) dX1_clashes_39 (by decide) ?_
                exact ih16 u1 v3_11 ⟨by omega, by rw [ev3_11, toNat_s (by omega)]; unfold sSum; rw [toNat_c (by omega)]; (rcases er_7 with ⟨ea, eb⟩ | ⟨ea, eb⟩) <;> first | omega | (rw [if_pos ⟨by omega, eb⟩]; omega) | (rw [if_neg (fun z => eb z.2)]; omega)⟩ (by omega)
              · skip
                obtain ⟨v1_12, ev1_12⟩ : ∃ y : Int, y = u1 + 1 := ⟨_, rfl⟩
                refine j_iinc (y := v1_12) (ls' := [(0, jR 16), (1, jI v1_12), (2, jI v2), (3, jI v3)]) 1 dX1_clashes_33 rfl ev1_12 (by omega) (by decide) rfl ?_
                obtain ⟨v3_13, ev3_13⟩ : ∃ y : Int, y = v3 + 1 := ⟨_, rfl⟩
                refine j_iinc (y := v3_13) (ls' := [(0, jR 16), (1, jI v1_12), (2, jI v2), (3, jI v3_13)]) 3 dX1_clashes_36 rfl ev3_13 (by omega) (by decide) rfl ?_
                refine j_goto (tgt := 16) dX1_clashes_39 (by decide) ?_
                exact ih16 v1_12 v3_13 ⟨by omega, by rw [ev3_13, toNat_s (by omega)]; unfold sSum; rw [toNat_c (by omega)]; (rcases er_7 with ⟨ea, eb⟩ | ⟨ea, eb⟩) <;> first | omega | (rw [if_pos ⟨by omega, eb⟩]; omega) | (rw [if_neg (fun z => eb z.2)]; omega)⟩ (by omega)
        exact lp16_4 _ v1 v3_3 ⟨by omega, by rw [sSum_zero _ (fun j a b => if_neg (fun z => by omega))]; omega⟩ (Nat.lt_succ_self _)
  exact lp4_1 _ 0 0 ⟨by first | omega | rfl, by first | omega | rfl⟩ (Nat.lt_succ_self _)
abbrev q_X8_work (M : jM)  (h d w : Int) : Int → jM → Prop := fun r N => r = (if 0 ≤ h ∧ h < M 9 0 ∧ 0 ≤ d ∧ d ≤ 359 ∧ 0 ≤ w ∧ w ≤ 2 then fWork (M 6) (M 7) (M 8) (M 17) (M 18) (M 19) (M 20) (M 21) h d w (M 16 0).toNat else -1) ∧ (∀ c, c ≠ 16 → c ≠ 22 → c ≠ 23 → c ≠ 24 → c ≠ 25 → c ≠ 26 → N c = M c) ∧ (∀ k, k ≠ 6 → N 16 k = M 16 k)
set_option maxHeartbeats 4000000 in
set_option maxRecDepth 20000 in
theorem c_X8_work {X : jX} (M : jM)  (h d w : Int) (h_cio : ∀ i, M 20 i ≤ M 21 i) (h_clines : 0 ≤ M 16 0 ∧ M 16 0 ≤ 60) (h_cchecks : ∀ i, 0 ≤ M 6 i ∧ M 6 i ≤ 4) (h_ccerr : ∀ i, -90 ≤ M 8 i ∧ M 8 i ≤ 90) (h_clwhere : ∀ i, M 19 i = -9 ∨ (0 ≤ M 19 i ∧ M 19 i < 6)) (h_clin : ∀ i, 0 ≤ M 20 i ∧ M 20 i ≤ 1439) (h_clout : ∀ i, 0 ≤ M 21 i ∧ M 21 i ≤ 1440) : jC yX8_work D_X8_work X FJ shJ [jR 0, jI h, jI d, jI w] M (jqI (q_X8_work M h d w)) := by
  refine jC_of (by decide) rfl (fun ad => Nat.le_of_ble_eq_true rfl) (by decide) ?_
  show jG D_X8_work X FJ shJ 0 0 (jqI (q_X8_work M h d w)) 0 [(0, jR 0), (1, jI h), (2, jI d), (3, jI w)] [] M
  refine j_aload_n 0 dX8_work_0 rfl rfl ?_
  refine j_getr f_X8_19 r_0_1 dX8_work_1 ?_
  refine j_iload_n 1 dX8_work_4 rfl rfl ?_
  refine j_callVi l_X8_85 ⟨Nat.le_of_ble_eq_true rfl, Nat.le_of_ble_eq_true rfl⟩ ⟨rfl, rfl⟩ dX8_work_5 ob_9 (c_X3_knows M h) rfl rfl (Nat.le_of_ble_eq_true rfl) (fun r_1 M_2 h_3 => ?_)
  obtain ⟨er_1, nh_3⟩ := h_3
  refine j_eqM nh_3 ?_
  clear nh_3
  refine j_if_eq (tgt := 27) dX8_work_8 (by decide) (fun c8_4 => ?_) (fun c8_4 => ?_)
  · skip
    refine j_iconst dX8_work_27 (by decide) ?_
    refine j_iret rfl rfl rfl rfl dX8_work_28 ?_
    first | (exact ⟨by rw [if_neg (by omega)], fun _ _ _ _ _ _ _ => rfl, fun _ _ => rfl⟩) | (refine ⟨?_, jup_zz, fk⟩; rw [if_pos (by omega), er_1]; first | (exact pWork_all p (by omega) (by omega)) | (rw [show w = 2 by omega]; exact pSchool_all p h_cio))
  · skip
    refine j_iload_n 2 dX8_work_11 rfl rfl ?_
    refine j_callSi l_X8_103 ⟨Nat.le_of_ble_eq_true rfl, Nat.le_of_ble_eq_true rfl⟩ ⟨rfl, rfl⟩ dX8_work_12 (c_X8_isDay M d) rfl rfl (Nat.le_of_ble_eq_true rfl) (fun r_5 M_6 h_7 => ?_)
    obtain ⟨er_5, nh_7⟩ := h_7
    refine j_eqM nh_7 ?_
    clear nh_7
    refine j_if_eq (tgt := 27) dX8_work_15 (by decide) (fun c15_8 => ?_) (fun c15_8 => ?_)
    · skip
      refine j_iconst dX8_work_27 (by decide) ?_
      refine j_iret rfl rfl rfl rfl dX8_work_28 ?_
      first | (exact ⟨by rw [if_neg (by omega)], fun _ _ _ _ _ _ _ => rfl, fun _ _ => rfl⟩) | (refine ⟨?_, jup_zz, fk⟩; rw [if_pos (by omega), er_5]; first | (exact pWork_all p (by omega) (by omega)) | (rw [show w = 2 by omega]; exact pSchool_all p h_cio))
    · skip
      refine j_iload_n 3 dX8_work_18 rfl rfl ?_
      refine j_iconst dX8_work_19 (by decide) ?_
      refine j_iconst dX8_work_20 (by decide) ?_
      refine j_callSi l_X8_74 ⟨Nat.le_of_ble_eq_true rfl, Nat.le_of_ble_eq_true rfl⟩ ⟨rfl, rfl⟩ dX8_work_21 (c_X8_within M w 0 2) rfl rfl (Nat.le_of_ble_eq_true rfl) (fun r_9 M_10 h_11 => ?_)
      obtain ⟨er_9, nh_11⟩ := h_11
      refine j_eqM nh_11 ?_
      clear nh_11
      refine j_if_ne (tgt := 29) dX8_work_24 (by decide) (fun c24_12 => ?_) (fun c24_12 => ?_)
      · skip
        refine j_aload_n 0 dX8_work_29 rfl rfl ?_
        refine j_getr f_X8_28 r_0_3 dX8_work_30 ?_
        refine j_iload_n 1 dX8_work_33 rfl rfl ?_
        refine j_iload_n 2 dX8_work_34 rfl rfl ?_
        refine j_callVv l_X8_189 ⟨Nat.le_of_ble_eq_true rfl, Nat.le_of_ble_eq_true rfl⟩ ⟨rfl, rfl⟩ dX8_work_35 ob_16 (c_X1_pick M h d h_clines h_cchecks h_ccerr h_clwhere h_clin h_clout) rfl rfl (Nat.le_of_ble_eq_true rfl) (fun M_14 h_15 => ?_)
        have ph_15 := h_15
        unfold q_X1_pick at ph_15
        have rgh_15 := ph_15.rg (by omega) h_clwhere h_ccerr h_clin h_clout
        have frh_15 := ph_15.2.2.2.2.2.2.1
        have fkh_15 := ph_15.2.2.2.2.2.2.2
        refine j_iload_n 3 dX8_work_38 rfl rfl ?_
        refine j_iconst dX8_work_39 (by decide) ?_
        refine j_icmp_ne (tgt := 51) dX8_work_40 (by decide) (fun c40_16 => ?_) (fun c40_16 => ?_)
        · skip
          refine j_aload_n 0 dX8_work_51 rfl rfl ?_
          refine j_getr f_X8_28 r_0_3 dX8_work_52 ?_
          refine j_iload_n 3 dX8_work_55 rfl rfl ?_
          have hJ_17 : ∀ zz : Int, (¬ w = 0 ∧ zz = 1) ∨ (w = 0 ∧ zz = 2) → jG D_X8_work X FJ shJ 0 0 (jqI (q_X8_work M h d w)) 64 [(0, jR 0), (1, jI h), (2, jI d), (3, jI w)] (jI zz :: jR 16 :: []) M_14 := by
            intro t_18 et_18
            refine j_callVi l_X8_196 ⟨Nat.le_of_ble_eq_true rfl, Nat.le_of_ble_eq_true rfl⟩ ⟨rfl, rfl⟩ dX8_work_64 ob_16 (c_X1_worked M_14 t_18 (by assumption)) rfl rfl (Nat.le_of_ble_eq_true rfl) (fun r_19 M_20 h_21 => ?_)
            obtain ⟨er_19, nh_21⟩ := h_21
            refine j_eqM nh_21 ?_
            clear nh_21
            refine j_iret rfl rfl rfl rfl dX8_work_67 ?_
            first | (exact ⟨by rw [if_neg (by omega)], fun _ _ _ _ _ _ _ => rfl, fun _ _ => rfl⟩) | (refine ⟨?_, frh_15, fkh_15⟩; rw [if_pos (by omega), er_19]; first | (exact pWork_all ph_15 (by omega) (by omega)) | (rw [show w = 2 by omega]; exact pSchool_all ph_15 h_cio))
          refine j_if_ne (tgt := 63) dX8_work_56 (by decide) (fun c56_22 => ?_) (fun c56_22 => ?_)
          · skip
            refine j_iconst dX8_work_63 (by decide) ?_
            exact hJ_17 _ (Or.inl ⟨c56_22, rfl⟩)
          · skip
            refine j_iconst dX8_work_59 (by decide) ?_
            refine j_goto (tgt := 64) dX8_work_60 (by decide) ?_
            exact hJ_17 _ (Or.inr (⟨c56_22, rfl⟩))
        · skip
          refine j_aload_n 0 dX8_work_43 rfl rfl ?_
          refine j_getr f_X8_28 r_0_3 dX8_work_44 ?_
          refine j_callVi l_X8_193 ⟨Nat.le_of_ble_eq_true rfl, Nat.le_of_ble_eq_true rfl⟩ ⟨rfl, rfl⟩ dX8_work_47 ob_16 (c_X1_schooled M_14 (by assumption)) rfl rfl (Nat.le_of_ble_eq_true rfl) (fun r_23 M_24 h_25 => ?_)
          obtain ⟨er_23, nh_25⟩ := h_25
          refine j_eqM nh_25 ?_
          clear nh_25
          refine j_iret rfl rfl rfl rfl dX8_work_50 ?_
          first | (exact ⟨by rw [if_neg (by omega)], fun _ _ _ _ _ _ _ => rfl, fun _ _ => rfl⟩) | (refine ⟨?_, frh_15, fkh_15⟩; rw [if_pos (by omega), er_23]; first | (exact pWork_all ph_15 (by omega) (by omega)) | (rw [show w = 2 by omega]; exact pSchool_all ph_15 h_cio))
      · skip
        refine j_iconst dX8_work_27 (by decide) ?_
        refine j_iret rfl rfl rfl rfl dX8_work_28 ?_
        first | (exact ⟨by rw [if_neg (by omega)], fun _ _ _ _ _ _ _ => rfl, fun _ _ => rfl⟩) | (refine ⟨?_, frh_15, fkh_15⟩; rw [if_pos (by omega), er_23]; first | (exact pWork_all ph_15 (by omega) (by omega)) | (rw [show w = 2 by omega]; exact pSchool_all ph_15 h_cio))
abbrev q_X8_clash (M : jM)  (h d : Int) : Int → jM → Prop := fun r N => r = (if 0 ≤ h ∧ h < M 9 0 ∧ 0 ≤ d ∧ d ≤ 359 then cAll (fun a b => fClash (M 6) (M 7) (M 8) (M 19) (M 20) (M 21) (sSel (M 17) (M 18) h d (M 16 0).toNat a) (sSel (M 17) (M 18) h d (M 16 0).toNat b)) (sCnt (M 17) (M 18) h d (M 16 0).toNat).toNat else -1) ∧ (∀ c, c ≠ 16 → c ≠ 22 → c ≠ 23 → c ≠ 24 → c ≠ 25 → c ≠ 26 → N c = M c) ∧ (∀ k, k ≠ 6 → N 16 k = M 16 k)
set_option maxHeartbeats 4000000 in
set_option maxRecDepth 20000 in
theorem c_X8_clash {X : jX} (M : jM)  (h d : Int) (h_clines : 0 ≤ M 16 0 ∧ M 16 0 ≤ 60) (h_cchecks : ∀ i, 0 ≤ M 6 i ∧ M 6 i ≤ 4) (h_ccerr : ∀ i, -90 ≤ M 8 i ∧ M 8 i ≤ 90) (h_clwhere : ∀ i, M 19 i = -9 ∨ (0 ≤ M 19 i ∧ M 19 i < 6)) (h_clin : ∀ i, 0 ≤ M 20 i ∧ M 20 i ≤ 1439) (h_clout : ∀ i, 0 ≤ M 21 i ∧ M 21 i ≤ 1440) : jC yX8_clash D_X8_clash X FJ shJ [jR 0, jI h, jI d] M (jqI (q_X8_clash M h d)) := by
  refine jC_of (by decide) rfl (fun ad => Nat.le_of_ble_eq_true rfl) (by decide) ?_
  show jG D_X8_clash X FJ shJ 0 0 (jqI (q_X8_clash M h d)) 0 [(0, jR 0), (1, jI h), (2, jI d)] [] M
  refine j_aload_n 0 dX8_clash_0 rfl rfl ?_
  refine j_getr f_X8_19 r_0_1 dX8_clash_1 ?_
  refine j_iload_n 1 dX8_clash_4 rfl rfl ?_
  refine j_callVi l_X8_85 ⟨Nat.le_of_ble_eq_true rfl, Nat.le_of_ble_eq_true rfl⟩ ⟨rfl, rfl⟩ dX8_clash_5 ob_9 (c_X3_knows M h) rfl rfl (Nat.le_of_ble_eq_true rfl) (fun r_1 M_2 h_3 => ?_)
  obtain ⟨er_1, nh_3⟩ := h_3
  refine j_eqM nh_3 ?_
  clear nh_3
  refine j_if_eq (tgt := 18) dX8_clash_8 (by decide) (fun c8_4 => ?_) (fun c8_4 => ?_)
  · skip
    refine j_iconst dX8_clash_18 (by decide) ?_
    refine j_iret rfl rfl rfl rfl dX8_clash_19 ?_
    first | (exact ⟨by rw [if_neg (by omega)], fun _ _ _ _ _ _ _ => rfl, fun _ _ => rfl⟩) | (refine ⟨?_, jup_zz, fk⟩; rw [if_pos (by omega), er_1]; exact pClash_all p)
  · skip
    refine j_iload_n 2 dX8_clash_11 rfl rfl ?_
    refine j_callSi l_X8_103 ⟨Nat.le_of_ble_eq_true rfl, Nat.le_of_ble_eq_true rfl⟩ ⟨rfl, rfl⟩ dX8_clash_12 (c_X8_isDay M d) rfl rfl (Nat.le_of_ble_eq_true rfl) (fun r_5 M_6 h_7 => ?_)
    obtain ⟨er_5, nh_7⟩ := h_7
    refine j_eqM nh_7 ?_
    clear nh_7
    refine j_if_ne (tgt := 20) dX8_clash_15 (by decide) (fun c15_8 => ?_) (fun c15_8 => ?_)
    · skip
      refine j_aload_n 0 dX8_clash_20 rfl rfl ?_
      refine j_getr f_X8_28 r_0_3 dX8_clash_21 ?_
      refine j_iload_n 1 dX8_clash_24 rfl rfl ?_
      refine j_iload_n 2 dX8_clash_25 rfl rfl ?_
      refine j_callVv l_X8_189 ⟨Nat.le_of_ble_eq_true rfl, Nat.le_of_ble_eq_true rfl⟩ ⟨rfl, rfl⟩ dX8_clash_26 ob_16 (c_X1_pick M h d h_clines h_cchecks h_ccerr h_clwhere h_clin h_clout) rfl rfl (Nat.le_of_ble_eq_true rfl) (fun M_10 h_11 => ?_)
      have ph_11 := h_11
      unfold q_X1_pick at ph_11
      have rgh_11 := ph_11.rg (by omega) h_clwhere h_ccerr h_clin h_clout
      have frh_11 := ph_11.2.2.2.2.2.2.1
      have fkh_11 := ph_11.2.2.2.2.2.2.2
      refine j_aload_n 0 dX8_clash_29 rfl rfl ?_
      refine j_getr f_X8_28 r_0_3 dX8_clash_30 ?_
      refine j_callVi l_X8_202 ⟨Nat.le_of_ble_eq_true rfl, Nat.le_of_ble_eq_true rfl⟩ ⟨rfl, rfl⟩ dX8_clash_33 ob_16 (c_X1_clashes M_10 (by assumption)) rfl rfl (Nat.le_of_ble_eq_true rfl) (fun r_12 M_13 h_14 => ?_)
      obtain ⟨er_12, nh_14⟩ := h_14
      refine j_eqM nh_14 ?_
      clear nh_14
      refine j_iret rfl rfl rfl rfl dX8_clash_36 ?_
      first | (exact ⟨by rw [if_neg (by omega)], fun _ _ _ _ _ _ _ => rfl, fun _ _ => rfl⟩) | (refine ⟨?_, frh_11, fkh_11⟩; rw [if_pos (by omega), er_12]; exact pClash_all ph_11)
    · skip
      refine j_iconst dX8_clash_18 (by decide) ?_
      refine j_iret rfl rfl rfl rfl dX8_clash_19 ?_
      first | (exact ⟨by rw [if_neg (by omega)], fun _ _ _ _ _ _ _ => rfl, fun _ _ => rfl⟩) | (refine ⟨?_, frh_11, fkh_11⟩; rw [if_pos (by omega), er_12]; exact pClash_all ph_11)
