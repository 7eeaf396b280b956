abbrev q_X8_binds (M : jM) (f : Int) (hf : jA f) (i h m d : Int) : Int → jM → Prop := fun r N => r = (if 0 ≤ i ∧ i < M f 0 ∧ (0 ≤ h ∧ h < M 9 0 ∧ 0 ≤ m ∧ m < M 1 0 ∧ 0 ≤ d ∧ d ≤ 359) then cB M f i h m d else -1) ∧ kA f M N
set_option maxHeartbeats 4000000 in
set_option maxRecDepth 20000 in
theorem c_X8_binds {X : jX} (M : jM) (f : Int) (hf : jA f) (i h m d : Int) (h_chands : 0 ≤ M 9 0 ∧ M 9 0 ≤ 24) (h_cmills : 0 ≤ M 1 0 ∧ M 1 0 ≤ 6) (h_cfrom : ∀ i, 0 ≤ M 12 i ∧ M 12 i ≤ 99999) (h_cto : ∀ i, 0 ≤ M 13 i ∧ M 13 i ≤ 10799) (h_ckind : ∀ i, 0 ≤ M 10 i ∧ M 10 i ≤ 5) (h_ctrade : ∀ i, 0 ≤ M 2 i ∧ M 2 i ≤ 3) (h_cpapers : ∀ i, 0 ≤ M 11 i ∧ M 11 i ≤ 3) (hif : M 0 7 = f) (hA : cAct M f) : jC yX8_binds D_X8_binds X FJ shJ [jR 0, jI i, jI h, jI m, jI d] M (jqI (q_X8_binds M f hf i h m d)) := by
  refine jC_of (by decide) rfl (fun ad => Nat.le_of_ble_eq_true rfl) (by decide) ?_
  show jG D_X8_binds X FJ shJ 0 0 (jqI (q_X8_binds M f hf i h m d)) 0 [(0, jR 0), (1, jI i), (2, jI h), (3, jI m), (4, jI d)] [] M
  have hf2 : f = 47 ∨ f = 59 := hf
  have hr := hA.1
  refine j_aload_n 0 dX8_binds_0 rfl rfl ?_
  refine j_getd (k' := 7) f_X8_58 o_0_7 dX8_binds_1 rfl ?_
  refine j_eqR (y := f) (by first | exact hif | (rw [ka.1 0 (by omega) (by omega) (by omega)]; exact hif)) ?_
  refine j_iload_n 1 dX8_binds_4 rfl rfl ?_
  refine j_callVi l_X8_143 ⟨Nat.le_of_ble_eq_true rfl, Nat.le_of_ble_eq_true rfl⟩ ⟨rfl, rfl⟩ dX8_binds_5 (oba hf) (c_X0_knows M f hf i) rfl rfl (Nat.le_of_ble_eq_true rfl) (fun r_1 M_2 h_3 => ?_)
  obtain ⟨er_1, nh_3⟩ := h_3
  refine j_eqM nh_3 ?_
  clear nh_3
  refine j_if_eq (tgt := 22) dX8_binds_8 (by decide) (fun c8_4 => ?_) (fun c8_4 => ?_)
  · skip
    refine j_iconst dX8_binds_22 (by decide) ?_
    refine j_iret rfl rfl rfl rfl dX8_binds_23 ?_
    first | exact ⟨by rw [if_neg (by omega)], kA_rf f M⟩ | exact ⟨by rw [if_pos (by omega)]; exact eb, fun c _ z _ => jup_zz c z, fun k _ => by rw [jup_zz f (by omega)]⟩
  · skip
    refine j_aload_n 0 dX8_binds_11 rfl rfl ?_
    refine j_iload_n 2 dX8_binds_12 rfl rfl ?_
    refine j_iload_n 3 dX8_binds_13 rfl rfl ?_
    refine j_iload 4 dX8_binds_14 rfl ?_
    refine j_callVi l_X8_144 ⟨Nat.le_of_ble_eq_true rfl, Nat.le_of_ble_eq_true rfl⟩ ⟨rfl, rfl⟩ dX8_binds_16 ob_0 (c_X8_isPlaced M h m d) rfl rfl (Nat.le_of_ble_eq_true rfl) (fun r_5 M_6 h_7 => ?_)
    obtain ⟨er_5, nh_7⟩ := h_7
    refine j_eqM nh_7 ?_
    clear nh_7
    refine j_if_ne (tgt := 24) dX8_binds_19 (by decide) (fun c19_8 => ?_) (fun c19_8 => ?_)
    · skip
      refine j_aload_n 0 dX8_binds_24 rfl rfl ?_
      refine j_getd (k' := 7) f_X8_58 o_0_7 dX8_binds_25 rfl ?_
      refine j_eqR (y := f) (by first | exact hif | (rw [ka.1 0 (by omega) (by omega) (by omega)]; exact hif)) ?_
      refine j_iload_n 1 dX8_binds_28 rfl rfl ?_
      refine j_iload_n 2 dX8_binds_29 rfl rfl ?_
      refine j_iload_n 3 dX8_binds_30 rfl rfl ?_
      refine j_iload 4 dX8_binds_31 rfl ?_
      refine j_callVi l_X8_147 ⟨Nat.le_of_ble_eq_true rfl, Nat.le_of_ble_eq_true rfl⟩ ⟨rfl, rfl⟩ dX8_binds_33 (oba hf) (c_X0_binding M f hf i h m d h_cfrom h_cto h_ckind h_ctrade h_cpapers (by omega) (by omega) (by omega) (by omega) (hA.2.1 i (by omega) (by omega)).1 (hA.2.1 i (by omega) (by omega)).2) rfl rfl (Nat.le_of_ble_eq_true rfl) (fun r_9 M_10 h_11 => ?_)
      obtain ⟨eb, frh_11⟩ := h_11
      refine j_iret rfl rfl rfl rfl dX8_binds_36 ?_
      first | exact ⟨by rw [if_neg (by omega)], kA_rf f M⟩ | exact ⟨by rw [if_pos (by omega)]; exact eb, fun c _ z _ => frh_11 c z, fun k _ => by rw [frh_11 f (by omega)]⟩
    · skip
      refine j_iconst dX8_binds_22 (by decide) ?_
      refine j_iret rfl rfl rfl rfl dX8_binds_23 ?_
      first | exact ⟨by rw [if_neg (by omega)], kA_rf f M⟩ | exact ⟨by rw [if_pos (by omega)]; exact eb, fun c _ z _ => frh_11 c z, fun k _ => by rw [frh_11 f (by omega)]⟩
abbrev q_X8_duty (M : jM) (f : Int) (hf : jA f) (h m d w s : Int) : Int → jM → Prop := fun r N => r = (if (0 ≤ h ∧ h < M 9 0 ∧ 0 ≤ m ∧ m < M 1 0 ∧ 0 ≤ d ∧ d ≤ 359) ∧ 0 ≤ w ∧ w ≤ 6 ∧ 0 ≤ s ∧ s ≤ 1 then cD M f h m d w (if s = 1 then 2 else 1) (M f 0).toNat else -1) ∧ kA f M N
set_option maxHeartbeats 4000000 in
set_option maxRecDepth 20000 in
theorem c_X8_duty {X : jX} (M : jM) (f : Int) (hf : jA f) (h m d w s : Int) (h_chands : 0 ≤ M 9 0 ∧ M 9 0 ≤ 24) (h_cmills : 0 ≤ M 1 0 ∧ M 1 0 ≤ 6) (h_cgrade : ∀ i, 0 ≤ M 15 i ∧ M 15 i ≤ 3) (h_cpapers : ∀ i, 0 ≤ M 11 i ∧ M 11 i ≤ 3) (h_cfrom : ∀ i, 0 ≤ M 12 i ∧ M 12 i ≤ 99999) (h_cto : ∀ i, 0 ≤ M 13 i ∧ M 13 i ≤ 10799) (h_ckind : ∀ i, 0 ≤ M 10 i ∧ M 10 i ≤ 5) (h_ctrade : ∀ i, 0 ≤ M 2 i ∧ M 2 i ≤ 3) (hif : M 0 7 = f) (hA : cAct M f) : jC yX8_duty D_X8_duty X FJ shJ [jR 0, jI h, jI m, jI d, jI w, jI s] M (jqI (q_X8_duty M f hf h m d w s)) := by
  refine jC_of (by decide) rfl (fun ad => Nat.le_of_ble_eq_true rfl) (by decide) ?_
  show jG D_X8_duty X FJ shJ 0 0 (jqI (q_X8_duty M f hf h m d w s)) 0 [(0, jR 0), (1, jI h), (2, jI m), (3, jI d), (4, jI w), (5, jI s)] [] M
  have hf2 : f = 47 ∨ f = 59 := hf
  have hr := hA.1
  refine j_aload_n 0 dX8_duty_0 rfl rfl ?_
  refine j_iload_n 1 dX8_duty_1 rfl rfl ?_
  refine j_iload_n 2 dX8_duty_2 rfl rfl ?_
  refine j_iload_n 3 dX8_duty_3 rfl rfl ?_
  refine j_callVi l_X8_144 ⟨Nat.le_of_ble_eq_true rfl, Nat.le_of_ble_eq_true rfl⟩ ⟨rfl, rfl⟩ dX8_duty_4 ob_0 (c_X8_isPlaced M h m d) rfl rfl (Nat.le_of_ble_eq_true rfl) (fun r_1 M_2 h_3 => ?_)
  obtain ⟨er_1, nh_3⟩ := h_3
  refine j_eqM nh_3 ?_
  clear nh_3
  refine j_if_eq (tgt := 31) dX8_duty_7 (by decide) (fun c7_4 => ?_) (fun c7_4 => ?_)
  · skip
    refine j_iconst dX8_duty_31 (by decide) ?_
    refine j_iret rfl rfl rfl rfl dX8_duty_32 ?_
    first | exact ⟨by rw [if_neg (by omega)], kA_rf f M⟩ | exact ⟨by rw [if_pos (by omega), ← hl]; exact er_1.trans (cD_of hf2 hr.1 ea1 ea2 ka w _), ka⟩
  · skip
    refine j_iload 4 dX8_duty_10 rfl ?_
    refine j_iconst dX8_duty_12 (by decide) ?_
    refine j_bipush dX8_duty_13 (by decide) ?_
    refine j_callSi l_X8_74 ⟨Nat.le_of_ble_eq_true rfl, Nat.le_of_ble_eq_true rfl⟩ ⟨rfl, rfl⟩ dX8_duty_15 (c_X8_within M w 0 6) rfl rfl (Nat.le_of_ble_eq_true rfl) (fun r_5 M_6 h_7 => ?_)
    obtain ⟨er_5, nh_7⟩ := h_7
    refine j_eqM nh_7 ?_
    clear nh_7
    refine j_if_eq (tgt := 31) dX8_duty_18 (by decide) (fun c18_8 => ?_) (fun c18_8 => ?_)
    · skip
      refine j_iconst dX8_duty_31 (by decide) ?_
      refine j_iret rfl rfl rfl rfl dX8_duty_32 ?_
      first | exact ⟨by rw [if_neg (by omega)], kA_rf f M⟩ | exact ⟨by rw [if_pos (by omega), ← hl]; exact er_5.trans (cD_of hf2 hr.1 ea1 ea2 ka w _), ka⟩
    · skip
      refine j_iload 5 dX8_duty_21 rfl ?_
      refine j_iconst dX8_duty_23 (by decide) ?_
      refine j_iconst dX8_duty_24 (by decide) ?_
      refine j_callSi l_X8_74 ⟨Nat.le_of_ble_eq_true rfl, Nat.le_of_ble_eq_true rfl⟩ ⟨rfl, rfl⟩ dX8_duty_25 (c_X8_within M s 0 1) rfl rfl (Nat.le_of_ble_eq_true rfl) (fun r_9 M_10 h_11 => ?_)
      obtain ⟨er_9, nh_11⟩ := h_11
      refine j_eqM nh_11 ?_
      clear nh_11
      refine j_if_ne (tgt := 33) dX8_duty_28 (by decide) (fun c28_12 => ?_) (fun c28_12 => ?_)
      · skip
        refine j_aload_n 0 dX8_duty_33 rfl rfl ?_
        refine j_getd (k' := 7) f_X8_58 o_0_7 dX8_duty_34 rfl ?_
        refine j_eqR (y := f) (by first | exact hif | (rw [ka.1 0 (by omega) (by omega) (by omega)]; exact hif)) ?_
        refine j_iload_n 1 dX8_duty_37 rfl rfl ?_
        refine j_iload_n 2 dX8_duty_38 rfl rfl ?_
        refine j_iload_n 3 dX8_duty_39 rfl rfl ?_
        refine j_callVv l_X8_150 ⟨Nat.le_of_ble_eq_true rfl, Nat.le_of_ble_eq_true rfl⟩ ⟨rfl, rfl⟩ dX8_duty_40 (oba hf) (c_X0_ask M f hf h m d h_cgrade h_cpapers h_cfrom h_cto h_ckind h_ctrade (by omega) (by omega) (by omega) (by omega) (fun r0 a b => hA.2.1 r0 a b)) rfl rfl (Nat.le_of_ble_eq_true rfl) (fun M_14 h_15 => ?_)
        obtain ⟨ea1, ea2, ea3, ea4⟩ := h_15
        have ka : kA f M M_14 := ⟨ea3, ea4⟩
        have kr : M_14 f 0 = M f 0 := ka.2 0 (by decide)
        refine j_aload_n 0 dX8_duty_43 rfl rfl ?_
        refine j_getd (k' := 7) f_X8_58 o_0_7 dX8_duty_44 rfl ?_
        refine j_eqR (y := f) (by first | exact hif | (rw [ka.1 0 (by omega) (by omega) (by omega)]; exact hif)) ?_
        refine j_iload 4 dX8_duty_47 rfl ?_
        refine j_iload 5 dX8_duty_49 rfl ?_
        refine j_iconst dX8_duty_51 (by decide) ?_
        have hJ_16 : ∀ zz : Int, (¬ s = 1 ∧ zz = 1) ∨ (s = 1 ∧ zz = 2) → jG D_X8_duty X FJ shJ 0 0 (jqI (q_X8_duty M f hf h m d w s)) 60 [(0, jR 0), (1, jI h), (2, jI m), (3, jI d), (4, jI w), (5, jI s)] (jI zz :: jI w :: jR f :: []) M_14 := by
          intro t_17 et_17
          have hl : t_17 = (if s = 1 then 2 else 1) := by split <;> omega
          refine j_callVi l_X8_154 ⟨Nat.le_of_ble_eq_true rfl, Nat.le_of_ble_eq_true rfl⟩ ⟨rfl, rfl⟩ dX8_duty_60 (oba hf) (c_X0_asked M_14 f hf w t_17 (by omega) (by omega)) rfl rfl (Nat.le_of_ble_eq_true rfl) (fun r_18 M_19 h_20 => ?_)
          obtain ⟨er_18, nh_20⟩ := h_20
          refine j_eqM nh_20 ?_
          clear nh_20
          refine j_iret rfl rfl rfl rfl dX8_duty_63 ?_
          first | exact ⟨by rw [if_neg (by omega)], kA_rf f M⟩ | exact ⟨by rw [if_pos (by omega), ← hl]; exact er_18.trans (cD_of hf2 hr.1 ea1 ea2 ka w _), ka⟩
        refine j_icmp_ne (tgt := 59) dX8_duty_52 (by decide) (fun c52_21 => ?_) (fun c52_21 => ?_)
        · skip
          refine j_iconst dX8_duty_59 (by decide) ?_
          exact hJ_16 _ (Or.inl ⟨c52_21, rfl⟩)
        · skip
          refine j_iconst dX8_duty_55 (by decide) ?_
          refine j_goto (tgt := 60) dX8_duty_56 (by decide) ?_
          exact hJ_16 _ (Or.inr (⟨c52_21, rfl⟩))
      · skip
        refine j_iconst dX8_duty_31 (by decide) ?_
        refine j_iret rfl rfl rfl rfl dX8_duty_32 ?_
        first | exact ⟨by rw [if_neg (by omega)], kA_rf f M⟩ | exact ⟨by rw [if_pos (by omega), ← hl]; exact er_18.trans (cD_of hf2 hr.1 ea1 ea2 ka w _), ka⟩
abbrev q_X8_why (M : jM) (f : Int) (hf : jA f) (h m d w s : Int) : Int → jM → Prop := fun r N => r = (if (0 ≤ h ∧ h < M 9 0 ∧ 0 ≤ m ∧ m < M 1 0 ∧ 0 ≤ d ∧ d ≤ 359) ∧ 0 ≤ w ∧ w ≤ 6 ∧ 0 ≤ s ∧ s ≤ 1 then cW M f h m d w (if s = 1 then 2 else 1) (cD M f h m d w (if s = 1 then 2 else 1) (M f 0).toNat) (M f 0).toNat else -1) ∧ kA f M N
set_option maxHeartbeats 4000000 in
set_option maxRecDepth 20000 in
theorem c_X8_why {X : jX} (M : jM) (f : Int) (hf : jA f) (h m d w s : Int) (h_chands : 0 ≤ M 9 0 ∧ M 9 0 ≤ 24) (h_cmills : 0 ≤ M 1 0 ∧ M 1 0 ≤ 6) (h_cgrade : ∀ i, 0 ≤ M 15 i ∧ M 15 i ≤ 3) (h_cpapers : ∀ i, 0 ≤ M 11 i ∧ M 11 i ≤ 3) (h_cfrom : ∀ i, 0 ≤ M 12 i ∧ M 12 i ≤ 99999) (h_cto : ∀ i, 0 ≤ M 13 i ∧ M 13 i ≤ 10799) (h_ckind : ∀ i, 0 ≤ M 10 i ∧ M 10 i ≤ 5) (h_ctrade : ∀ i, 0 ≤ M 2 i ∧ M 2 i ≤ 3) (hif : M 0 7 = f) (hA : cAct M f) : jC yX8_why D_X8_why X FJ shJ [jR 0, jI h, jI m, jI d, jI w, jI s] M (jqI (q_X8_why M f hf h m d w s)) := by
  refine jC_of (by decide) rfl (fun ad => Nat.le_of_ble_eq_true rfl) (by decide) ?_
  show jG D_X8_why X FJ shJ 0 0 (jqI (q_X8_why M f hf h m d w s)) 0 [(0, jR 0), (1, jI h), (2, jI m), (3, jI d), (4, jI w), (5, jI s)] [] M
  have hf2 : f = 47 ∨ f = 59 := hf
  have hr := hA.1
  refine j_aload_n 0 dX8_why_0 rfl rfl ?_
  refine j_iload_n 1 dX8_why_1 rfl rfl ?_
  refine j_iload_n 2 dX8_why_2 rfl rfl ?_
  refine j_iload_n 3 dX8_why_3 rfl rfl ?_
  refine j_callVi l_X8_144 ⟨Nat.le_of_ble_eq_true rfl, Nat.le_of_ble_eq_true rfl⟩ ⟨rfl, rfl⟩ dX8_why_4 ob_0 (c_X8_isPlaced M h m d) rfl rfl (Nat.le_of_ble_eq_true rfl) (fun r_1 M_2 h_3 => ?_)
  obtain ⟨er_1, nh_3⟩ := h_3
  refine j_eqM nh_3 ?_
  clear nh_3
  refine j_if_eq (tgt := 31) dX8_why_7 (by decide) (fun c7_4 => ?_) (fun c7_4 => ?_)
  · skip
    refine j_iconst dX8_why_31 (by decide) ?_
    refine j_iret rfl rfl rfl rfl dX8_why_32 ?_
    first | exact ⟨by rw [if_neg (by omega)], kA_rf f M⟩ | exact ⟨by rw [if_pos (by omega), ← hl]; exact er_1.trans (cW_of hf2 hr.1 ea2 ka w _ _ _ (cD_of hf2 hr.1 ea1 ea2 ka w _)), ka⟩
  · skip
    refine j_iload 4 dX8_why_10 rfl ?_
    refine j_iconst dX8_why_12 (by decide) ?_
    refine j_bipush dX8_why_13 (by decide) ?_
    refine j_callSi l_X8_74 ⟨Nat.le_of_ble_eq_true rfl, Nat.le_of_ble_eq_true rfl⟩ ⟨rfl, rfl⟩ dX8_why_15 (c_X8_within M w 0 6) rfl rfl (Nat.le_of_ble_eq_true rfl) (fun r_5 M_6 h_7 => ?_)
    obtain ⟨er_5, nh_7⟩ := h_7
    refine j_eqM nh_7 ?_
    clear nh_7
    refine j_if_eq (tgt := 31) dX8_why_18 (by decide) (fun c18_8 => ?_) (fun c18_8 => ?_)
    · skip
      refine j_iconst dX8_why_31 (by decide) ?_
      refine j_iret rfl rfl rfl rfl dX8_why_32 ?_
      first | exact ⟨by rw [if_neg (by omega)], kA_rf f M⟩ | exact ⟨by rw [if_pos (by omega), ← hl]; exact er_5.trans (cW_of hf2 hr.1 ea2 ka w _ _ _ (cD_of hf2 hr.1 ea1 ea2 ka w _)), ka⟩
    · skip
      refine j_iload 5 dX8_why_21 rfl ?_
      refine j_iconst dX8_why_23 (by decide) ?_
      refine j_iconst dX8_why_24 (by decide) ?_
      refine j_callSi l_X8_74 ⟨Nat.le_of_ble_eq_true rfl, Nat.le_of_ble_eq_true rfl⟩ ⟨rfl, rfl⟩ dX8_why_25 (c_X8_within M s 0 1) rfl rfl (Nat.le_of_ble_eq_true rfl) (fun r_9 M_10 h_11 => ?_)
      obtain ⟨er_9, nh_11⟩ := h_11
      refine j_eqM nh_11 ?_
      clear nh_11
      refine j_if_ne (tgt := 33) dX8_why_28 (by decide) (fun c28_12 => ?_) (fun c28_12 => ?_)
      · skip
        refine j_aload_n 0 dX8_why_33 rfl rfl ?_
        refine j_getd (k' := 7) f_X8_58 o_0_7 dX8_why_34 rfl ?_
        refine j_eqR (y := f) (by first | exact hif | (rw [ka.1 0 (by omega) (by omega) (by omega)]; exact hif)) ?_
        refine j_iload_n 1 dX8_why_37 rfl rfl ?_
        refine j_iload_n 2 dX8_why_38 rfl rfl ?_
        refine j_iload_n 3 dX8_why_39 rfl rfl ?_
        refine j_callVv l_X8_150 ⟨Nat.le_of_ble_eq_true rfl, Nat.le_of_ble_eq_true rfl⟩ ⟨rfl, rfl⟩ dX8_why_40 (oba hf) (c_X0_ask M f hf h m d h_cgrade h_cpapers h_cfrom h_cto h_ckind h_ctrade (by omega) (by omega) (by omega) (by omega) (fun r0 a b => hA.2.1 r0 a b)) rfl rfl (Nat.le_of_ble_eq_true rfl) (fun M_14 h_15 => ?_)
        obtain ⟨ea1, ea2, ea3, ea4⟩ := h_15
        have ka : kA f M M_14 := ⟨ea3, ea4⟩
        have kr : M_14 f 0 = M f 0 := ka.2 0 (by decide)
        refine j_aload_n 0 dX8_why_43 rfl rfl ?_
        refine j_getd (k' := 7) f_X8_58 o_0_7 dX8_why_44 rfl ?_
        refine j_eqR (y := f) (by first | exact hif | (rw [ka.1 0 (by omega) (by omega) (by omega)]; exact hif)) ?_
        refine j_iload 4 dX8_why_47 rfl ?_
        refine j_iload 5 dX8_why_49 rfl ?_
        refine j_iconst dX8_why_51 (by decide) ?_
        have hJ_16 : ∀ zz : Int, (¬ s = 1 ∧ zz = 1) ∨ (s = 1 ∧ zz = 2) → jG D_X8_why X FJ shJ 0 0 (jqI (q_X8_why M f hf h m d w s)) 60 [(0, jR 0), (1, jI h), (2, jI m), (3, jI d), (4, jI w), (5, jI s)] (jI zz :: jI w :: jR f :: []) M_14 := by
          intro t_17 et_17
          have hl : t_17 = (if s = 1 then 2 else 1) := by split <;> omega
          refine j_callVi l_X8_157 ⟨Nat.le_of_ble_eq_true rfl, Nat.le_of_ble_eq_true rfl⟩ ⟨rfl, rfl⟩ dX8_why_60 (oba hf) (c_X0_reason M_14 f hf w t_17 (by omega) (by omega)) rfl rfl (Nat.le_of_ble_eq_true rfl) (fun r_18 M_19 h_20 => ?_)
          obtain ⟨er_18, nh_20⟩ := h_20
          refine j_eqM nh_20 ?_
          clear nh_20
          refine j_iret rfl rfl rfl rfl dX8_why_63 ?_
          first | exact ⟨by rw [if_neg (by omega)], kA_rf f M⟩ | exact ⟨by rw [if_pos (by omega), ← hl]; exact er_18.trans (cW_of hf2 hr.1 ea2 ka w _ _ _ (cD_of hf2 hr.1 ea1 ea2 ka w _)), ka⟩
        refine j_icmp_ne (tgt := 59) dX8_why_52 (by decide) (fun c52_21 => ?_) (fun c52_21 => ?_)
        · skip
          refine j_iconst dX8_why_59 (by decide) ?_
          exact hJ_16 _ (Or.inl ⟨c52_21, rfl⟩)
        · skip
          refine j_iconst dX8_why_55 (by decide) ?_
          refine j_goto (tgt := 60) dX8_why_56 (by decide) ?_
          exact hJ_16 _ (Or.inr (⟨c52_21, rfl⟩))
      · skip
        refine j_iconst dX8_why_31 (by decide) ?_
        refine j_iret rfl rfl rfl rfl dX8_why_32 ?_
        first | exact ⟨by rw [if_neg (by omega)], kA_rf f M⟩ | exact ⟨by rw [if_pos (by omega), ← hl]; exact er_18.trans (cW_of hf2 hr.1 ea2 ka w _ _ _ (cD_of hf2 hr.1 ea1 ea2 ka w _)), ka⟩
abbrev q_X8_quarrel (M : jM) (f : Int) (hf : jA f) (h m d : Int) : Int → jM → Prop := fun r N => (((0 ≤ h ∧ h < M 9 0 ∧ 0 ≤ m ∧ m < M 1 0 ∧ 0 ≤ d ∧ d ≤ 359) ∧ qF (cQ M f h m d) (M (f + 1)) (M f 0) r) ∨ (¬ (0 ≤ h ∧ h < M 9 0 ∧ 0 ≤ m ∧ m < M 1 0 ∧ 0 ≤ d ∧ d ≤ 359) ∧ r = -1)) ∧ kA f M N
set_option maxHeartbeats 4000000 in
set_option maxRecDepth 20000 in
theorem c_X8_quarrel {X : jX} (M : jM) (f : Int) (hf : jA f) (h m d : Int) (h_chands : 0 ≤ M 9 0 ∧ M 9 0 ≤ 24) (h_cmills : 0 ≤ M 1 0 ∧ M 1 0 ≤ 6) (h_cgrade : ∀ i, 0 ≤ M 15 i ∧ M 15 i ≤ 3) (h_cpapers : ∀ i, 0 ≤ M 11 i ∧ M 11 i ≤ 3) (h_cfrom : ∀ i, 0 ≤ M 12 i ∧ M 12 i ≤ 99999) (h_cto : ∀ i, 0 ≤ M 13 i ∧ M 13 i ≤ 10799) (h_ckind : ∀ i, 0 ≤ M 10 i ∧ M 10 i ≤ 5) (h_ctrade : ∀ i, 0 ≤ M 2 i ∧ M 2 i ≤ 3) (hif : M 0 7 = f) (hA : cAct M f) : jC yX8_quarrel D_X8_quarrel X FJ shJ [jR 0, jI h, jI m, jI d] M (jqI (q_X8_quarrel M f hf h m d)) := by
  refine jC_of (by decide) rfl (fun ad => Nat.le_of_ble_eq_true rfl) (by decide) ?_
  show jG D_X8_quarrel X FJ shJ 0 0 (jqI (q_X8_quarrel M f hf h m d)) 0 [(0, jR 0), (1, jI h), (2, jI m), (3, jI d)] [] M
  have hf2 : f = 47 ∨ f = 59 := hf
  have hr := hA.1
  refine j_aload_n 0 dX8_quarrel_0 rfl rfl ?_
  refine j_iload_n 1 dX8_quarrel_1 rfl rfl ?_
  refine j_iload_n 2 dX8_quarrel_2 rfl rfl ?_
  refine j_iload_n 3 dX8_quarrel_3 rfl rfl ?_
  refine j_callVi l_X8_144 ⟨Nat.le_of_ble_eq_true rfl, Nat.le_of_ble_eq_true rfl⟩ ⟨rfl, rfl⟩ dX8_quarrel_4 ob_0 (c_X8_isPlaced M h m d) rfl rfl (Nat.le_of_ble_eq_true rfl) (fun r_1 M_2 h_3 => ?_)
  obtain ⟨er_1, nh_3⟩ := h_3
  refine j_eqM nh_3 ?_
  clear nh_3
  refine j_if_ne (tgt := 12) dX8_quarrel_7 (by decide) (fun c7_4 => ?_) (fun c7_4 => ?_)
  · skip
    refine j_aload_n 0 dX8_quarrel_12 rfl rfl ?_
    refine j_getd (k' := 7) f_X8_58 o_0_7 dX8_quarrel_13 rfl ?_
    refine j_eqR (y := f) (by first | exact hif | (rw [ka.1 0 (by omega) (by omega) (by omega)]; exact hif)) ?_
    refine j_iload_n 1 dX8_quarrel_16 rfl rfl ?_
    refine j_iload_n 2 dX8_quarrel_17 rfl rfl ?_
    refine j_iload_n 3 dX8_quarrel_18 rfl rfl ?_
    refine j_callVv l_X8_150 ⟨Nat.le_of_ble_eq_true rfl, Nat.le_of_ble_eq_true rfl⟩ ⟨rfl, rfl⟩ dX8_quarrel_19 (oba hf) (c_X0_ask M f hf h m d h_cgrade h_cpapers h_cfrom h_cto h_ckind h_ctrade (by omega) (by omega) (by omega) (by omega) (fun r0 a b => hA.2.1 r0 a b)) rfl rfl (Nat.le_of_ble_eq_true rfl) (fun M_6 h_7 => ?_)
    obtain ⟨ea1, ea2, ea3, ea4⟩ := h_7
    have ka : kA f M M_6 := ⟨ea3, ea4⟩
    have kr : M_6 f 0 = M f 0 := ka.2 0 (by decide)
    refine j_aload_n 0 dX8_quarrel_22 rfl rfl ?_
    refine j_getd (k' := 7) f_X8_58 o_0_7 dX8_quarrel_23 rfl ?_
    refine j_eqR (y := f) (by first | exact hif | (rw [ka.1 0 (by omega) (by omega) (by omega)]; exact hif)) ?_
    refine j_callVi l_X8_160 ⟨Nat.le_of_ble_eq_true rfl, Nat.le_of_ble_eq_true rfl⟩ ⟨rfl, rfl⟩ dX8_quarrel_26 (oba hf) (c_X0_firstQuarrel M_6 f hf (by omega) (by rw [ka.1 (f + 1) (by omega) (by omega) (by omega), kr]; exact hA.2.2)) rfl rfl (Nat.le_of_ble_eq_true rfl) (fun r_8 M_9 h_10 => ?_)
    obtain ⟨er_8, nh_10⟩ := h_10
    refine j_eqM nh_10 ?_
    clear nh_10
    refine j_iret rfl rfl rfl rfl dX8_quarrel_29 ?_
    first | exact ⟨Or.inr ⟨by omega, rfl⟩, kA_rf f M⟩ | (refine ⟨Or.inl ⟨by omega, ?_⟩, ka⟩; rw [kr, ka.1 (f + 1) (by omega) (by omega) (by omega), ka.1 (f + 6) (by omega) (by omega) (by omega)] at er_8; refine qF_cg (fun a b a0 ab bn => ?_) (fun _ _ _ => rfl) er_8; unfold cQ cQ1; rw [show cB M f a h m d = M_6 (f + 11) a from (ea2 a a0 (by omega)).symm, show cB M f b h m d = M_6 (f + 11) b from (ea2 b (by omega) bn).symm])
  · skip
    refine j_iconst dX8_quarrel_10 (by decide) ?_
    refine j_iret rfl rfl rfl rfl dX8_quarrel_11 ?_
    first | exact ⟨Or.inr ⟨by omega, rfl⟩, kA_rf f M⟩ | (refine ⟨Or.inl ⟨by omega, ?_⟩, ka⟩; rw [kr, ka.1 (f + 1) (by omega) (by omega) (by omega), ka.1 (f + 6) (by omega) (by omega) (by omega)] at er_8; refine qF_cg (fun a b a0 ab bn => ?_) (fun _ _ _ => rfl) er_8; unfold cQ cQ1; rw [show cB M f a h m d = M (f + 11) a from (ea2 a a0 (by omega)).symm, show cB M f b h m d = M (f + 11) b from (ea2 b (by omega) bn).symm])
abbrev q_X8_rule (M : jM) (f : Int) (hf : jA f) (i w : Int) : Int → jM → Prop := fun r N => r = (if 0 ≤ i ∧ i < M f 0 ∧ 0 ≤ w ∧ w ≤ 4 then (if w = 0 then M (f + 1) i else if w = 1 then M (f + 2) i else if w = 2 then M (f + 3) i else if w = 3 then M (f + 4) i else M (f + 5) i) else -1) ∧ N = M
set_option maxHeartbeats 4000000 in
set_option maxRecDepth 20000 in
theorem c_X8_rule {X : jX} (M : jM) (f : Int) (hf : jA f) (i w : Int) (hif : M 0 7 = f) (hA : cAct M f) : jC yX8_rule D_X8_rule X FJ shJ [jR 0, jI i, jI w] M (jqI (q_X8_rule M f hf i w)) := by
  refine jC_of (by decide) rfl (fun ad => Nat.le_of_ble_eq_true rfl) (by decide) ?_
  show jG D_X8_rule X FJ shJ 0 0 (jqI (q_X8_rule M f hf i w)) 0 [(0, jR 0), (1, jI i), (2, jI w)] [] M
  have hf2 : f = 47 ∨ f = 59 := hf
  have hr := hA.1
  refine j_aload_n 0 dX8_rule_0 rfl rfl ?_
  refine j_getd (k' := 7) f_X8_58 o_0_7 dX8_rule_1 rfl ?_
  refine j_eqR (y := f) (by first | exact hif | (rw [ka.1 0 (by omega) (by omega) (by omega)]; exact hif)) ?_
  refine j_iload_n 1 dX8_rule_4 rfl rfl ?_
  refine j_callVi l_X8_143 ⟨Nat.le_of_ble_eq_true rfl, Nat.le_of_ble_eq_true rfl⟩ ⟨rfl, rfl⟩ dX8_rule_5 (oba hf) (c_X0_knows M f hf i) rfl rfl (Nat.le_of_ble_eq_true rfl) (fun r_1 M_2 h_3 => ?_)
  obtain ⟨er_1, nh_3⟩ := h_3
  refine j_eqM nh_3 ?_
  clear nh_3
  refine j_if_ne (tgt := 13) dX8_rule_8 (by decide) (fun c8_4 => ?_) (fun c8_4 => ?_)
  · skip
    refine j_iload_n 2 dX8_rule_13 rfl rfl ?_
    rcases (show w = 0 ∨ w = 1 ∨ w = 2 ∨ w = 3 ∨ w = 4 ∨ w < 0 ∨ 4 < w from by omega) with s_5 | s_5 | s_5 | s_5 | s_5 | s_5 | s_5
    · refine j_tswIn (tgt := 48) 0 s_5 dX8_rule_14 (by decide) (by decide) rfl (by decide) ?_
      refine j_aload_n 0 dX8_rule_48 rfl rfl ?_
      refine j_getd (k' := 7) f_X8_58 o_0_7 dX8_rule_49 rfl ?_
      refine j_eqR (y := f) (by first | exact hif | (rw [ka.1 0 (by omega) (by omega) (by omega)]; exact hif)) ?_
      refine j_getr f_X8_163 (ra_1 hf) dX8_rule_52 ?_
      refine j_iload_n 1 dX8_rule_55 rfl rfl ?_
      refine j_iald (aa_1 hf) dX8_rule_56 (by omega) (by omega) ?_
      refine j_iret rfl rfl rfl rfl dX8_rule_57 ?_
      exact ⟨by (repeat' split) <;> first | omega | rfl, rfl⟩
    · refine j_tswIn (tgt := 58) 1 s_5 dX8_rule_14 (by decide) (by decide) rfl (by decide) ?_
      refine j_aload_n 0 dX8_rule_58 rfl rfl ?_
      refine j_getd (k' := 7) f_X8_58 o_0_7 dX8_rule_59 rfl ?_
      refine j_eqR (y := f) (by first | exact hif | (rw [ka.1 0 (by omega) (by omega) (by omega)]; exact hif)) ?_
      refine j_getr f_X8_166 (ra_2 hf) dX8_rule_62 ?_
      refine j_iload_n 1 dX8_rule_65 rfl rfl ?_
      refine j_iald (aa_2 hf) dX8_rule_66 (by omega) (by omega) ?_
      refine j_iret rfl rfl rfl rfl dX8_rule_67 ?_
      exact ⟨by (repeat' split) <;> first | omega | rfl, rfl⟩
    · refine j_tswIn (tgt := 68) 2 s_5 dX8_rule_14 (by decide) (by decide) rfl (by decide) ?_
      refine j_aload_n 0 dX8_rule_68 rfl rfl ?_
      refine j_getd (k' := 7) f_X8_58 o_0_7 dX8_rule_69 rfl ?_
      refine j_eqR (y := f) (by first | exact hif | (rw [ka.1 0 (by omega) (by omega) (by omega)]; exact hif)) ?_
      refine j_getr f_X8_169 (ra_3 hf) dX8_rule_72 ?_
      refine j_iload_n 1 dX8_rule_75 rfl rfl ?_
      refine j_iald (aa_3 hf) dX8_rule_76 (by omega) (by omega) ?_
      refine j_iret rfl rfl rfl rfl dX8_rule_77 ?_
      exact ⟨by (repeat' split) <;> first | omega | rfl, rfl⟩
    · refine j_tswIn (tgt := 78) 3 s_5 dX8_rule_14 (by decide) (by decide) rfl (by decide) ?_
      refine j_aload_n 0 dX8_rule_78 rfl rfl ?_
      refine j_getd (k' := 7) f_X8_58 o_0_7 dX8_rule_79 rfl ?_
      refine j_eqR (y := f) (by first | exact hif | (rw [ka.1 0 (by omega) (by omega) (by omega)]; exact hif)) ?_
      refine j_getr f_X8_172 (ra_4 hf) dX8_rule_82 ?_
      refine j_iload_n 1 dX8_rule_85 rfl rfl ?_
      refine j_iald (aa_4 hf) dX8_rule_86 (by omega) (by omega) ?_
      refine j_iret rfl rfl rfl rfl dX8_rule_87 ?_
      exact ⟨by (repeat' split) <;> first | omega | rfl, rfl⟩
    · refine j_tswIn (tgt := 88) 4 s_5 dX8_rule_14 (by decide) (by decide) rfl (by decide) ?_
      refine j_aload_n 0 dX8_rule_88 rfl rfl ?_
      refine j_getd (k' := 7) f_X8_58 o_0_7 dX8_rule_89 rfl ?_
      refine j_eqR (y := f) (by first | exact hif | (rw [ka.1 0 (by omega) (by omega) (by omega)]; exact hif)) ?_
      refine j_getr f_X8_175 (ra_5 hf) dX8_rule_92 ?_
      refine j_iload_n 1 dX8_rule_95 rfl rfl ?_
      refine j_iald (aa_5 hf) dX8_rule_96 (by omega) (by omega) ?_
      refine j_iret rfl rfl rfl rfl dX8_rule_97 ?_
      exact ⟨by (repeat' split) <;> first | omega | rfl, rfl⟩
    · refine j_tswOut (tgt := 98) dX8_rule_14 (Or.inl s_5) (by decide) ?_
      refine j_iconst dX8_rule_98 (by decide) ?_
      refine j_iret rfl rfl rfl rfl dX8_rule_99 ?_
      exact ⟨by (repeat' split) <;> first | omega | rfl, rfl⟩
    · refine j_tswOut (tgt := 98) dX8_rule_14 (Or.inr s_5) (by decide) ?_
      refine j_iconst dX8_rule_98 (by decide) ?_
      refine j_iret rfl rfl rfl rfl dX8_rule_99 ?_
      exact ⟨by (repeat' split) <;> first | omega | rfl, rfl⟩
  · skip
    refine j_iconst dX8_rule_11 (by decide) ?_
    refine j_iret rfl rfl rfl rfl dX8_rule_12 ?_
    exact ⟨by (repeat' split) <;> first | omega | rfl, rfl⟩
