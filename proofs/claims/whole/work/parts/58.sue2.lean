abbrev q_X2_benchFor (M : jM)  (o : Int) : Int → jM → Prop := fun r N => ((r = -9 ∧ bF (M 37) o (M 36 0) (M 36 0)) ∨ ((0 ≤ r ∧ r < M 36 0) ∧ bF (M 37) o (M 36 0) r)) ∧ N = M
set_option maxHeartbeats 4000000 in
set_option maxRecDepth 20000 in
theorem c_X2_benchFor {X : jX} (M : jM)  (o : Int) (h_cbenches : 0 ≤ M 36 0 ∧ M 36 0 ≤ 5) (h_ckin : ∀ i, 0 ≤ M 37 i ∧ M 37 i ≤ 1023) (ho : 0 ≤ o ∧ o ≤ 9) : jC yX2_benchFor D_X2_benchFor X FJ shJ [jR 36, jI o] M (jqI (q_X2_benchFor M o)) := by
  refine jC_of (by decide) rfl (fun ad => Nat.le_of_ble_eq_true rfl) (by decide) ?_
  show jG D_X2_benchFor X FJ shJ 0 0 (jqI (q_X2_benchFor M o)) 0 [(0, jR 36), (1, jI o)] [] M
  refine j_iconst dX2_benchFor_0 (by decide) ?_
  refine j_istore_n (ls' := [(0, jR 36), (1, jI o), (2, jI 0)]) dX2_benchFor_1 rfl (by decide) rfl ?_
  have lp2_1 : ∀ n2 : Nat, ∀ (v2 : Int), (0 ≤ v2 ∧ v2 ≤ M 36 0) ∧ (∀ j, 0 ≤ j → j < v2 → jand (jshr (M 37 j) o) 1 = 1) → (M 36 0 - v2).toNat < n2 → jG D_X2_benchFor X FJ shJ 0 0 (jqI (q_X2_benchFor M o)) 2 [(0, jR 36), (1, jI o), (2, jI v2)] ([]) M := by
    intro n2
    induction n2 with
    | zero => intro v2  _ hz; exact absurd hz (Nat.not_lt_zero _)
    | succ n2 ih2 =>
      intro v2  hinv hm
      obtain ⟨h1, h2⟩ := hinv
      refine j_iload_n 2 dX2_benchFor_2 rfl rfl ?_
      refine j_aload_n 0 dX2_benchFor_3 rfl rfl ?_
      refine j_geti (k' := 0) f_X2_38 o_36_0 dX2_benchFor_4 rfl ?_
      refine j_icmp_ge (tgt := 31) dX2_benchFor_7 (by decide) (fun c7_2 => ?_) (fun c7_2 => ?_)
      · skip
        refine j_bipush dX2_benchFor_31 (by decide) ?_
        refine j_iret rfl rfl rfl rfl dX2_benchFor_33 ?_
        have e : v2 = M 36 0 := by omega
        rw [e] at h2
        exact ⟨Or.inl ⟨rfl, ⟨by omega, by omega⟩, h2, fun z => by omega⟩, rfl⟩
      · skip
        refine j_aload_n 0 dX2_benchFor_10 rfl rfl ?_
        refine j_getr f_X2_11 r_36_1 dX2_benchFor_11 ?_
        refine j_iload_n 2 dX2_benchFor_14 rfl rfl ?_
        refine j_iald a_37 dX2_benchFor_15 (by omega) (by omega) ?_
        have g_3 := h_ckin v2
        refine j_iload_n 1 dX2_benchFor_16 rfl rfl ?_
        refine j_ishr dX2_benchFor_17 ?_
        refine j_iconst dX2_benchFor_18 (by decide) ?_
        refine j_iand dX2_benchFor_19 ?_
        refine j_if_ne (tgt := 25) dX2_benchFor_20 (by decide) (fun c20_4 => ?_) (fun c20_4 => ?_)
        · skip
          obtain ⟨v2_5, ev2_5⟩ : ∃ y : Int, y = v2 + 1 := ⟨_, rfl⟩
          refine j_iinc (y := v2_5) (ls' := [(0, jR 36), (1, jI o), (2, jI v2_5)]) 2 dX2_benchFor_25 rfl ev2_5 (by omega) (by decide) rfl ?_
          refine j_goto (tgt := 2) dX2_benchFor_28 (by decide) ?_
          exact ih2 v2_5 ⟨by omega, by intro j a b; by_cases e : j = v2; (· rw [e]; have := jbit01 (h_ckin v2) ho; omega); (· exact h2 j a (by omega))⟩ (by omega)
        · skip
          refine j_iload_n 2 dX2_benchFor_23 rfl rfl ?_
          refine j_iret rfl rfl rfl rfl dX2_benchFor_24 ?_
          exact ⟨Or.inr ⟨⟨h1.1, by omega⟩, ⟨h1.1, by omega⟩, h2, fun _ => by assumption⟩, rfl⟩
  exact lp2_1 _ 0 ⟨by omega, by intro j a b; omega⟩ (Nat.lt_succ_self _)
abbrev q_X8_breach (M : jM) (f : Int) (hf : jA f) (h d o : Int) : Int → jM → Prop := fun r N => ((0 ≤ h ∧ h < M 9 0 ∧ 0 ≤ d ∧ d ≤ 359 ∧ 0 ≤ o ∧ o ≤ 5) ∧ wB M N f h d o r) ∨ (¬ (0 ≤ h ∧ h < M 9 0 ∧ 0 ≤ d ∧ d ≤ 359 ∧ 0 ≤ o ∧ o ≤ 5) ∧ r = -1 ∧ N = M)
set_option maxHeartbeats 4000000 in
set_option maxRecDepth 20000 in
theorem c_X8_breach {X : jX} (M : jM) (f : Int) (hf : jA f) (h d o : Int) (h_chands : 0 ≤ M 9 0 ∧ M 9 0 ≤ 24) (h_cmills : 0 ≤ M 1 0 ∧ M 1 0 ≤ 6) (h_clines : 0 ≤ M 16 0 ∧ M 16 0 ≤ 60) (h_cchecks : ∀ i, 0 ≤ M 6 i ∧ M 6 i ≤ 4) (h_ccerr : ∀ i, -90 ≤ M 8 i ∧ M 8 i ≤ 90) (h_clwhere : ∀ i, M 19 i = -9 ∨ (0 ≤ M 19 i ∧ M 19 i < 6)) (h_clin : ∀ i, 0 ≤ M 20 i ∧ M 20 i ≤ 1439) (h_clout : ∀ i, 0 ≤ M 21 i ∧ M 21 i ≤ 1440) (h_cgrade : ∀ i, 0 ≤ M 15 i ∧ M 15 i ≤ 3) (h_cpapers : ∀ i, 0 ≤ M 11 i ∧ M 11 i ≤ 3) (h_cfrom : ∀ i, 0 ≤ M 12 i ∧ M 12 i ≤ 99999) (h_cto : ∀ i, 0 ≤ M 13 i ∧ M 13 i ≤ 10799) (h_ckind : ∀ i, 0 ≤ M 10 i ∧ M 10 i ≤ 5) (h_ctrade : ∀ i, 0 ≤ M 2 i ∧ M 2 i ≤ 3) (hif : M 0 7 = f) (hA : cAct M f) : jC yX8_breach D_X8_breach X FJ shJ [jR 0, jI h, jI d, jI o] M (jqI (q_X8_breach M f hf h d o)) := by
  refine jC_of (by decide) rfl (fun ad => Nat.le_of_ble_eq_true rfl) (by decide) ?_
  show jG D_X8_breach X FJ shJ 0 0 (jqI (q_X8_breach M f hf h d o)) 0 [(0, jR 0), (1, jI h), (2, jI d), (3, jI o)] [] M
  have hf2 : f = 47 ∨ f = 59 := hf
  refine j_aload_n 0 dX8_breach_0 rfl rfl ?_
  refine j_getr f_X8_19 r_0_1 dX8_breach_1 ?_
  refine j_iload_n 1 dX8_breach_4 rfl rfl ?_
  refine j_callVi l_X8_85 ⟨Nat.le_of_ble_eq_true rfl, Nat.le_of_ble_eq_true rfl⟩ ⟨rfl, rfl⟩ dX8_breach_5 ob_9 (c_X3_knows M h) rfl rfl (Nat.le_of_ble_eq_true rfl) (fun r_1 M_2 h_3 => ?_)
  obtain ⟨er_1, nh_3⟩ := h_3
  refine j_eqM nh_3 ?_
  clear nh_3
  refine j_if_eq (tgt := 27) dX8_breach_8 (by decide) (fun c8_4 => ?_) (fun c8_4 => ?_)
  · skip
    refine j_iconst dX8_breach_27 (by decide) ?_
    refine j_iret rfl rfl rfl rfl dX8_breach_28 ?_
    first | exact Or.inl ⟨by omega, wb⟩ | exact Or.inr ⟨by omega, rfl, rfl⟩
  · skip
    refine j_iload_n 2 dX8_breach_11 rfl rfl ?_
    refine j_callSi l_X8_103 ⟨Nat.le_of_ble_eq_true rfl, Nat.le_of_ble_eq_true rfl⟩ ⟨rfl, rfl⟩ dX8_breach_12 (c_X8_isDay M d) rfl rfl (Nat.le_of_ble_eq_true rfl) (fun r_5 M_6 h_7 => ?_)
    obtain ⟨er_5, nh_7⟩ := h_7
    refine j_eqM nh_7 ?_
    clear nh_7
    refine j_if_eq (tgt := 27) dX8_breach_15 (by decide) (fun c15_8 => ?_) (fun c15_8 => ?_)
    · skip
      refine j_iconst dX8_breach_27 (by decide) ?_
      refine j_iret rfl rfl rfl rfl dX8_breach_28 ?_
      first | exact Or.inl ⟨by omega, wb⟩ | exact Or.inr ⟨by omega, rfl, rfl⟩
    · skip
      refine j_iload_n 3 dX8_breach_18 rfl rfl ?_
      refine j_iconst dX8_breach_19 (by decide) ?_
      refine j_iconst dX8_breach_20 (by decide) ?_
      refine j_callSi l_X8_74 ⟨Nat.le_of_ble_eq_true rfl, Nat.le_of_ble_eq_true rfl⟩ ⟨rfl, rfl⟩ dX8_breach_21 (c_X8_within M o 0 5) rfl rfl (Nat.le_of_ble_eq_true rfl) (fun r_9 M_10 h_11 => ?_)
      obtain ⟨er_9, nh_11⟩ := h_11
      refine j_eqM nh_11 ?_
      clear nh_11
      refine j_if_ne (tgt := 29) dX8_breach_24 (by decide) (fun c24_12 => ?_) (fun c24_12 => ?_)
      · skip
        refine j_aload_n 0 dX8_breach_29 rfl rfl ?_
        refine j_iload_n 1 dX8_breach_30 rfl rfl ?_
        refine j_iload_n 2 dX8_breach_31 rfl rfl ?_
        refine j_iload_n 3 dX8_breach_32 rfl rfl ?_
        refine j_callVi l_X8_199 ⟨Nat.le_of_ble_eq_true rfl, Nat.le_of_ble_eq_true rfl⟩ ⟨rfl, rfl⟩ dX8_breach_33 ob_0 (c_X8_worstBreach M f hf h d o h_cmills h_clines h_cchecks h_ccerr h_clwhere h_clin h_clout h_cgrade h_cpapers h_cfrom h_cto h_ckind h_ctrade hif hA (by omega) (by omega) (by omega)) rfl rfl (Nat.le_of_ble_eq_true rfl) (fun r_13 M_14 h_15 => ?_)
        have wb := h_15
        unfold q_X8_worstBreach at wb
        have ksh_15 := wB_kS hf2 wb
        have frh_15 := ksh_15.1
        refine j_iret rfl rfl rfl rfl dX8_breach_36 ?_
        first | exact Or.inl ⟨by omega, wb⟩ | exact Or.inr ⟨by omega, rfl, rfl⟩
      · skip
        refine j_iconst dX8_breach_27 (by decide) ?_
        refine j_iret rfl rfl rfl rfl dX8_breach_28 ?_
        first | exact Or.inl ⟨by omega, wb⟩ | exact Or.inr ⟨by omega, rfl, rfl⟩
abbrev q_X8_sue (M : jM) (f : Int) (hf : jA f) (m h d o : Int) : Int → jM → Prop := fun r N => sueC M N f m h d o r
set_option maxHeartbeats 4000000 in
set_option maxRecDepth 20000 in
theorem c_X8_sue {X : jX} (M : jM) (f : Int) (hf : jA f) (m h d o : Int) (h_chands : 0 ≤ M 9 0 ∧ M 9 0 ≤ 24) (h_cmills : 0 ≤ M 1 0 ∧ M 1 0 ≤ 6) (h_cowner : ∀ i, 0 ≤ M 3 i ∧ M 3 i ≤ 9) (h_ckin : ∀ i, 0 ≤ M 37 i ∧ M 37 i ≤ 1023) (h_ccases : 0 ≤ M 36 3 ∧ M 36 3 ≤ 20) (h_cbenches : 0 ≤ M 36 0 ∧ M 36 0 ≤ 5) (h_clines : 0 ≤ M 16 0 ∧ M 16 0 ≤ 60) (h_cchecks : ∀ i, 0 ≤ M 6 i ∧ M 6 i ≤ 4) (h_ccerr : ∀ i, -90 ≤ M 8 i ∧ M 8 i ≤ 90) (h_clwhere : ∀ i, M 19 i = -9 ∨ (0 ≤ M 19 i ∧ M 19 i < 6)) (h_clin : ∀ i, 0 ≤ M 20 i ∧ M 20 i ≤ 1439) (h_clout : ∀ i, 0 ≤ M 21 i ∧ M 21 i ≤ 1440) (h_cgrade : ∀ i, 0 ≤ M 15 i ∧ M 15 i ≤ 3) (h_cpapers : ∀ i, 0 ≤ M 11 i ∧ M 11 i ≤ 3) (h_cfrom : ∀ i, 0 ≤ M 12 i ∧ M 12 i ≤ 99999) (h_cto : ∀ i, 0 ≤ M 13 i ∧ M 13 i ≤ 10799) (h_ckind : ∀ i, 0 ≤ M 10 i ∧ M 10 i ≤ 5) (h_ctrade : ∀ i, 0 ≤ M 2 i ∧ M 2 i ≤ 3) (hif : M 0 7 = f) (hA : cAct M f) : jC yX8_sue D_X8_sue X FJ shJ [jR 0, jI m, jI h, jI d, jI o] M (jqI (q_X8_sue M f hf m h d o)) := by
  refine jC_of (by decide) rfl (fun ad => Nat.le_of_ble_eq_true rfl) (by decide) ?_
  show jG D_X8_sue X FJ shJ 0 0 (jqI (q_X8_sue M f hf m h d o)) 0 [(0, jR 0), (1, jI m), (2, jI h), (3, jI d), (4, jI o)] [] M
  have hf2 : f = 47 ∨ f = 59 := hf
  refine j_aload_n 0 dX8_sue_0 rfl rfl ?_
  refine j_iload_n 2 dX8_sue_1 rfl rfl ?_
  refine j_iload_n 1 dX8_sue_2 rfl rfl ?_
  refine j_iload_n 3 dX8_sue_3 rfl rfl ?_
  refine j_callVi l_X8_144 ⟨Nat.le_of_ble_eq_true rfl, Nat.le_of_ble_eq_true rfl⟩ ⟨rfl, rfl⟩ dX8_sue_4 ob_0 (c_X8_isPlaced M h m d) rfl rfl (Nat.le_of_ble_eq_true rfl) (fun r_1 M_2 h_3 => ?_)
  obtain ⟨er_1, nh_3⟩ := h_3
  refine j_eqM nh_3 ?_
  clear nh_3
  refine j_if_eq (tgt := 20) dX8_sue_7 (by decide) (fun c7_4 => ?_) (fun c7_4 => ?_)
  · skip
    refine j_iconst dX8_sue_20 (by decide) ?_
    refine j_iret rfl rfl rfl rfl dX8_sue_21 ?_
    exact sueC_bad (by omega)
  · skip
    refine j_iload 4 dX8_sue_10 rfl ?_
    refine j_iconst dX8_sue_12 (by decide) ?_
    refine j_iconst dX8_sue_13 (by decide) ?_
    refine j_callSi l_X8_74 ⟨Nat.le_of_ble_eq_true rfl, Nat.le_of_ble_eq_true rfl⟩ ⟨rfl, rfl⟩ dX8_sue_14 (c_X8_within M o 0 5) rfl rfl (Nat.le_of_ble_eq_true rfl) (fun r_5 M_6 h_7 => ?_)
    obtain ⟨er_5, nh_7⟩ := h_7
    refine j_eqM nh_7 ?_
    clear nh_7
    refine j_if_ne (tgt := 22) dX8_sue_17 (by decide) (fun c17_8 => ?_) (fun c17_8 => ?_)
    · skip
      refine j_aload_n 0 dX8_sue_22 rfl rfl ?_
      refine j_getr f_X8_42 r_0_5 dX8_sue_23 ?_
      refine j_aload_n 0 dX8_sue_26 rfl rfl ?_
      refine j_getr f_X8_10 r_0_0 dX8_sue_27 ?_
      refine j_getr f_X8_240 r_1_2 dX8_sue_30 ?_
      refine j_iload_n 1 dX8_sue_33 rfl rfl ?_
      refine j_iald a_3 dX8_sue_34 (by omega) (by omega) ?_
      have g_9 := h_cowner m
      have hown := h_cowner m
      refine j_callVi l_X8_243 ⟨Nat.le_of_ble_eq_true rfl, Nat.le_of_ble_eq_true rfl⟩ ⟨rfl, rfl⟩ dX8_sue_35 ob_36 (c_X2_benchFor M ((M 3 m)) h_cbenches h_ckin (by omega)) rfl rfl (Nat.le_of_ble_eq_true rfl) (fun r_10 M_11 h_12 => ?_)
      obtain ⟨er_10, nh_12⟩ := h_12
      refine j_eqM nh_12 ?_
      clear nh_12
      refine j_istore (ls' := [(0, jR 0), (1, jI m), (2, jI h), (3, jI d), (4, jI o), (5, jI r_10)]) dX8_sue_38 (by decide) rfl ?_
      have hbn := er_10
      refine j_iload 5 dX8_sue_40 rfl ?_
      refine j_bipush dX8_sue_42 (by decide) ?_
      refine j_icmp_eq (tgt := 70) dX8_sue_44 (by decide) (fun c44_13 => ?_) (fun c44_13 => ?_)
      · skip
        refine j_bipush dX8_sue_70 (by decide) ?_
        refine j_iret rfl rfl rfl rfl dX8_sue_72 ?_
        first | exact sueC_nob (by omega) (hbn.elim (fun z => z.2) (fun z => by have := z.1; omega)) rfl | exact sueC_no (b := r_10) (by omega) (hbn.elim (fun z => by have := z.1; omega) (fun z => z.2)) (by omega) wb (fun z => by have := z.1; omega) | exact sueC_no (b := r_10) (by omega) (hbn.elim (fun z => by have := z.1; omega) (fun z => z.2)) (by omega) wb (fun z => hth.elim (fun y => by have := y.1; omega) (fun y => y.2 z.2))
      · skip
        refine j_aload_n 0 dX8_sue_47 rfl rfl ?_
        refine j_iload_n 2 dX8_sue_48 rfl rfl ?_
        refine j_iload_n 3 dX8_sue_49 rfl rfl ?_
        refine j_iload 4 dX8_sue_50 rfl ?_
        refine j_callVi l_X8_199 ⟨Nat.le_of_ble_eq_true rfl, Nat.le_of_ble_eq_true rfl⟩ ⟨rfl, rfl⟩ dX8_sue_52 ob_0 (c_X8_worstBreach M f hf h d o h_cmills h_clines h_cchecks h_ccerr h_clwhere h_clin h_clout h_cgrade h_cpapers h_cfrom h_cto h_ckind h_ctrade hif hA (by omega) (by omega) (by omega)) rfl rfl (Nat.le_of_ble_eq_true rfl) (fun r_14 M_15 h_16 => ?_)
        have wb := h_16
        unfold q_X8_worstBreach at wb
        have ksh_16 := wB_kS hf2 wb
        have frh_16 := ksh_16.1
        have rgM : pRg M_15 := wB_rg hf2 wb (by omega) h_clwhere h_ccerr h_clin h_clout
        have k36 : M_15 36 3 = M 36 3 := by rw [frh_16 36 (by omega) (by omega) (by omega) (by omega) (by omega) (by omega) (by omega) (by omega) (by omega)]
        refine j_iconst dX8_sue_55 (by decide) ?_
        refine j_icmp_ne (tgt := 70) dX8_sue_56 (by decide) (fun c56_17 => ?_) (fun c56_17 => ?_)
        · skip
          refine j_bipush dX8_sue_70 (by decide) ?_
          refine j_iret rfl rfl rfl rfl dX8_sue_72 ?_
          first | exact sueC_nob (by omega) (hbn.elim (fun z => z.2) (fun z => by have := z.1; omega)) rfl | exact sueC_no (b := r_10) (by omega) (hbn.elim (fun z => by have := z.1; omega) (fun z => z.2)) (by omega) wb (fun z => by have := z.1; omega) | exact sueC_no (b := r_10) (by omega) (hbn.elim (fun z => by have := z.1; omega) (fun z => z.2)) (by omega) wb (fun z => hth.elim (fun y => by have := y.1; omega) (fun y => y.2 z.2))
        · skip
          refine j_aload_n 0 dX8_sue_59 rfl rfl ?_
          refine j_getr f_X8_28 r_0_3 dX8_sue_60 ?_
          refine j_iload_n 1 dX8_sue_63 rfl rfl ?_
          refine j_callVi l_X8_246 ⟨Nat.le_of_ble_eq_true rfl, Nat.le_of_ble_eq_true rfl⟩ ⟨rfl, rfl⟩ dX8_sue_64 ob_16 (c_X1_pickedAt M_15 m (by assumption)) rfl rfl (Nat.le_of_ble_eq_true rfl) (fun r_18 M_19 h_20 => ?_)
          obtain ⟨er_18, nh_20⟩ := h_20
          refine j_eqM nh_20 ?_
          clear nh_20
          have hp : pkAt M_15 m r_18 := er_18
          clear er_18
          have hp2 := pkAt_in hp
          have hth := wB_th hf2 wb (by omega) hp
          refine j_if_ne (tgt := 73) dX8_sue_67 (by decide) (fun c67_21 => ?_) (fun c67_21 => ?_)
          · skip
            refine j_aload_n 0 dX8_sue_73 rfl rfl ?_
            refine j_getr f_X8_42 r_0_5 dX8_sue_74 ?_
            refine j_iload_n 1 dX8_sue_77 rfl rfl ?_
            refine j_iload_n 2 dX8_sue_78 rfl rfl ?_
            refine j_iload 4 dX8_sue_79 rfl ?_
            refine j_iload 5 dX8_sue_81 rfl ?_
            refine j_callVi l_X8_249 ⟨Nat.le_of_ble_eq_true rfl, Nat.le_of_ble_eq_true rfl⟩ ⟨rfl, rfl⟩ dX8_sue_83 ob_36 (c_X2_addCase M_15 m h o r_10 (by rw [(congrFun (frh_16 36 (by decide) (by decide) (by decide) (by decide) (by decide) (by decide) (by omega) (by omega) (by omega)) 3)]; exact h_ccases)) rfl rfl (Nat.le_of_ble_eq_true rfl) (fun r_22 M_23 h_24 => ?_)
            obtain ⟨er_22, eM_23⟩ := h_24
            refine j_iret rfl rfl rfl rfl dX8_sue_86 ?_
            rw [k36] at er_22 eM_23
            refine sueC_yes (b := r_10) (by omega) (hbn.elim (fun z => by have := z.1; omega) (fun z => z.2)) (by omega) wb ⟨by omega, hth.elim (fun y => y.2) (fun y => by have := y.1; omega)⟩ (by omega) ?_
            by_cases hc : M 36 3 = 20
            · exact Or.inl ⟨hc, by rw [er_22, if_pos hc], by rw [eM_23, if_pos hc]⟩
            · exact Or.inr ⟨hc, by rw [er_22, if_neg hc], by rw [eM_23, if_neg hc]; rfl⟩
          · skip
            refine j_bipush dX8_sue_70 (by decide) ?_
            refine j_iret rfl rfl rfl rfl dX8_sue_72 ?_
            first | exact sueC_nob (by omega) (hbn.elim (fun z => z.2) (fun z => by have := z.1; omega)) rfl | exact sueC_no (b := r_10) (by omega) (hbn.elim (fun z => by have := z.1; omega) (fun z => z.2)) (by omega) wb (fun z => by have := z.1; omega) | exact sueC_no (b := r_10) (by omega) (hbn.elim (fun z => by have := z.1; omega) (fun z => z.2)) (by omega) wb (fun z => hth.elim (fun y => by have := y.1; omega) (fun y => y.2 z.2))
    · skip
      refine j_iconst dX8_sue_20 (by decide) ?_
      refine j_iret rfl rfl rfl rfl dX8_sue_21 ?_
      exact sueC_bad (by omega)
abbrev q_X9_sue (M : jM)  (m h d o : Int) : Int → jM → Prop := fun r N => sueR M N m h d o r
set_option maxHeartbeats 4000000 in
set_option maxRecDepth 20000 in
theorem c_X9_sue {X : jX} (M : jM)  (m h d o : Int) (h_rlines : 0 ≤ M 74 27 ∧ M 74 27 ≤ 60) (h_rowner : ∀ i, 0 ≤ M 77 i ∧ M 77 i ≤ 9) (h_rkin : ∀ i, 0 ≤ M 99 i ∧ M 99 i ≤ 1023) (h_rbenches : 0 ≤ M 74 38 ∧ M 74 38 ≤ 5) (h_rcases : 0 ≤ M 74 41 ∧ M 74 41 ≤ 20) (h_rhands : 0 ≤ M 74 8 ∧ M 74 8 ≤ 24) (h_rmills : 0 ≤ M 74 3 ∧ M 74 3 ≤ 6) (h_rlhand : ∀ i, 0 ≤ M 89 i ∧ M 89 i ≤ 23) (h_rlday : ∀ i, 0 ≤ M 90 i ∧ M 90 i ≤ 359) (h_rlwhere : ∀ i, M 91 i = -9 ∨ (0 ≤ M 91 i ∧ M 91 i < 6)) (h_rpapers : ∀ i, 0 ≤ M 82 i ∧ M 82 i ≤ 3) (h_rchecks : ∀ i, 0 ≤ M 94 i ∧ M 94 i ≤ 4) (h_rcerr : ∀ i, -90 ≤ M 96 i ∧ M 96 i ≤ 90) (h_rlin : ∀ i, 0 ≤ M 92 i ∧ M 92 i ≤ 1439) (h_rlout : ∀ i, 0 ≤ M 93 i ∧ M 93 i ≤ 1440) (h_rkind : ∀ i, 0 ≤ M 80 i ∧ M 80 i ≤ 5) (h_rgrade : ∀ i, 0 ≤ M 81 i ∧ M 81 i ≤ 3) (h_rtrade : ∀ i, 0 ≤ M 76 i ∧ M 76 i ≤ 3) (h_rpaper : pOk (M 83)) (hA : rAct M) : jC yX9_sue D_X9_sue X FJ shJ [jR 74, jI m, jI h, jI d, jI o] M (jqI (q_X9_sue M m h d o)) := by
  refine jC_of (by decide) rfl (fun ad => Nat.le_of_ble_eq_true rfl) (by decide) ?_
  show jG D_X9_sue X FJ shJ 0 0 (jqI (q_X9_sue M m h d o)) 0 [(0, jR 74), (1, jI m), (2, jI h), (3, jI d), (4, jI o)] [] M
  refine j_aload_n 0 dX9_sue_0 rfl rfl ?_
  refine j_iconst dX9_sue_1 (by decide) ?_
  refine j_puti (k' := 0) f_X9_124 o_74_0 dX9_sue_2 rfl ?_
  refine j_nmM (fun M_1 eM_1 => ?_)
  have k1 : nK M M_1 := by rw [eM_1]; exact nK_jup M
  have hA1 : rAct M_1 := rAct_cg k1 hA
  have hown := h_rowner m
  refine j_aload_n 0 dX9_sue_5 rfl rfl ?_
  refine j_iload_n 2 dX9_sue_6 rfl rfl ?_
  refine j_iload_n 1 dX9_sue_7 rfl rfl ?_
  refine j_iload_n 3 dX9_sue_8 rfl rfl ?_
  refine j_callVi l_X9_265 ⟨Nat.le_of_ble_eq_true rfl, Nat.le_of_ble_eq_true rfl⟩ ⟨rfl, rfl⟩ dX9_sue_9 ob_74 (c_X9_isPlace M_1 h m d (by rw [((congrFun (congrFun eM_1 74) 8).trans (jup_ne (by decide)))]; exact h_rhands) (by rw [((congrFun (congrFun eM_1 74) 3).trans (jup_ne (by decide)))]; exact h_rmills)) rfl rfl (Nat.le_of_ble_eq_true rfl) (fun r_2 M_3 h_4 => ?_)
  obtain ⟨er_2, nh_4⟩ := h_4
  refine j_eqM nh_4 ?_
  clear nh_4
  simp only [((congrFun (congrFun eM_1 74) 8).trans (jup_ne (by decide))), ((congrFun (congrFun eM_1 74) 3).trans (jup_ne (by decide)))] at er_2
  refine j_if_eq (tgt := 25) dX9_sue_12 (by decide) (fun c12_5 => ?_) (fun c12_5 => ?_)
  · skip
    refine j_iconst dX9_sue_25 (by decide) ?_
    refine j_iret rfl rfl rfl rfl dX9_sue_26 ?_
    exact sueR_bad k1 (by omega)
  · skip
    refine j_iload 4 dX9_sue_15 rfl ?_
    refine j_iconst dX9_sue_17 (by decide) ?_
    refine j_iconst dX9_sue_18 (by decide) ?_
    refine j_callSi l_X9_137 ⟨Nat.le_of_ble_eq_true rfl, Nat.le_of_ble_eq_true rfl⟩ ⟨rfl, rfl⟩ dX9_sue_19 (c_X9_in M_1 o 0 5) rfl rfl (Nat.le_of_ble_eq_true rfl) (fun r_6 M_7 h_8 => ?_)
    obtain ⟨er_6, nh_8⟩ := h_8
    refine j_eqM nh_8 ?_
    clear nh_8
    refine j_if_ne (tgt := 27) dX9_sue_22 (by decide) (fun c22_9 => ?_) (fun c22_9 => ?_)
    · skip
      refine j_iconst dX9_sue_27 (by decide) ?_
      refine j_istore (ls' := [(0, jR 74), (1, jI m), (2, jI h), (3, jI d), (4, jI o), (5, jI 0)]) dX9_sue_28 (by decide) rfl ?_
      refine j_iconst dX9_sue_30 (by decide) ?_
      refine j_istore (ls' := [(0, jR 74), (1, jI m), (2, jI h), (3, jI d), (4, jI o), (5, jI 0), (6, jI 0)]) dX9_sue_31 (by decide) rfl ?_
      have lp33_10 : ∀ n33 : Nat, ∀ (v5 v6 : Int), (0 ≤ v6 ∧ v6 ≤ M 74 27) ∧ (thAt (M 89) (M 90) (M 91) v6 h d m v5) → (M 74 27 - v6).toNat < n33 → jG D_X9_sue X FJ shJ 0 0 (jqI (q_X9_sue M m h d o)) 33 [(0, jR 74), (1, jI m), (2, jI h), (3, jI d), (4, jI o), (5, jI v5), (6, jI v6)] ([]) M_1 := by
        intro n33
        induction n33 with
        | zero => intro v5 v6  _ hz; exact absurd hz (Nat.not_lt_zero _)
        | succ n33 ih33 =>
          intro v5 v6  hinv hm
          obtain ⟨h1, h5⟩ := hinv
          have h5i := thAt_in h5
          refine j_iload 6 dX9_sue_33 rfl ?_
          refine j_aload_n 0 dX9_sue_35 rfl rfl ?_
          refine j_geti (k' := 27) f_X9_275 o_74_27 dX9_sue_36 rfl ?_
          refine j_eq ((congrFun (congrFun eM_1 74) 27).trans (jup_ne (by decide))) ?_
          refine j_icmp_ge (tgt := 80) dX9_sue_39 (by decide) (fun c39_11 => ?_) (fun c39_11 => ?_)
          · skip
            have h5e : thAt (M 89) (M 90) (M 91) (M 74 27) h d m v5 := by rw [← show v6 = M 74 27 by omega]; exact h5
            refine j_iconst dX9_sue_80 (by decide) ?_
            refine j_istore (ls' := [(0, jR 74), (1, jI m), (2, jI h), (3, jI d), (4, jI o), (5, jI v5), (6, jI 0)]) dX9_sue_81 (by decide) rfl ?_
            have lp83_12 : ∀ n83 : Nat, ∀ (v6 : Int), (0 ≤ v6 ∧ v6 ≤ M 74 38) ∧ (∀ j, 0 ≤ j → j < v6 → jand (jshr (M 99 j) (M 77 m)) 1 = 1) → (M 74 38 - v6).toNat < n83 → jG D_X9_sue X FJ shJ 0 0 (jqI (q_X9_sue M m h d o)) 83 [(0, jR 74), (1, jI m), (2, jI h), (3, jI d), (4, jI o), (5, jI v5), (6, jI v6)] ([]) M_1 := by
              intro n83
              induction n83 with
              | zero => intro v6  _ hz; exact absurd hz (Nat.not_lt_zero _)
              | succ n83 ih83 =>
                intro v6  hinv hm
                obtain ⟨g1, g2⟩ := hinv
                refine j_iload 6 dX9_sue_83 rfl ?_
                refine j_aload_n 0 dX9_sue_85 rfl rfl ?_
                refine j_geti (k' := 38) f_X9_324 o_74_38 dX9_sue_86 rfl ?_
                refine j_eq ((congrFun (congrFun eM_1 74) 38).trans (jup_ne (by decide))) ?_
                refine j_icmp_ge (tgt := 118) dX9_sue_89 (by decide) (fun c89_13 => ?_) (fun c89_13 => ?_)
                · skip
                  have hbf : bF (M 99) (M 77 m) (M 74 38) v6 := ⟨⟨by omega, by omega⟩, g2, fun z => by have := jbit01 (h_rkin v6) hown; omega⟩
                  refine j_iload 5 dX9_sue_118 rfl ?_
                  refine j_if_eq (tgt := 144) dX9_sue_120 (by decide) (fun c120_14 => ?_) (fun c120_14 => ?_)
                  · skip
                    refine j_bipush dX9_sue_144 (by decide) ?_
                    refine j_iret rfl rfl rfl rfl dX9_sue_146 ?_
                    first | exact sueR_no' k1 (by omega) hbf (Or.inl (by omega)) | exact sueR_no' k1 (by omega) hbf (Or.inr (thAt_no h5e (by omega))) | exact sueR_no k2 (by omega) hbf eq (fun z => by have := z.2.1; omega)
                  · skip
                    refine j_iload 6 dX9_sue_123 rfl ?_
                    refine j_aload_n 0 dX9_sue_125 rfl rfl ?_
                    refine j_geti (k' := 38) f_X9_324 o_74_38 dX9_sue_126 rfl ?_
                    refine j_eq ((congrFun (congrFun eM_1 74) 38).trans (jup_ne (by decide))) ?_
                    refine j_icmp_eq (tgt := 144) dX9_sue_129 (by decide) (fun c129_15 => ?_) (fun c129_15 => ?_)
                    · skip
                      refine j_bipush dX9_sue_144 (by decide) ?_
                      refine j_iret rfl rfl rfl rfl dX9_sue_146 ?_
                      first | exact sueR_no' k1 (by omega) hbf (Or.inl (by omega)) | exact sueR_no' k1 (by omega) hbf (Or.inr (thAt_no h5e (by omega))) | exact sueR_no k2 (by omega) hbf eq (fun z => by have := z.2.1; omega)
                    · skip
                      refine j_aload_n 0 dX9_sue_132 rfl rfl ?_
                      refine j_iload_n 2 dX9_sue_133 rfl rfl ?_
                      refine j_iload_n 3 dX9_sue_134 rfl rfl ?_
                      refine j_iload 4 dX9_sue_135 rfl ?_
                      refine j_callVi l_X9_299 ⟨Nat.le_of_ble_eq_true rfl, Nat.le_of_ble_eq_true rfl⟩ ⟨rfl, rfl⟩ dX9_sue_137 ob_74 (c_X9_breachOf M_1 h d o (by rw [((congrFun (congrFun eM_1 74) 27).trans (jup_ne (by decide)))]; exact h_rlines) (by rw [((congrFun eM_1 89).trans (jup_cell (by decide)))]; exact h_rlhand) (by rw [((congrFun eM_1 90).trans (jup_cell (by decide)))]; exact h_rlday) (by rw [((congrFun eM_1 91).trans (jup_cell (by decide)))]; exact h_rlwhere) (by rw [((congrFun eM_1 82).trans (jup_cell (by decide)))]; exact h_rpapers) (by rw [((congrFun eM_1 94).trans (jup_cell (by decide)))]; exact h_rchecks) (by rw [((congrFun eM_1 96).trans (jup_cell (by decide)))]; exact h_rcerr) (by rw [((congrFun eM_1 92).trans (jup_cell (by decide)))]; exact h_rlin) (by rw [((congrFun eM_1 93).trans (jup_cell (by decide)))]; exact h_rlout) (by rw [((congrFun eM_1 80).trans (jup_cell (by decide)))]; exact h_rkind) (by rw [((congrFun eM_1 81).trans (jup_cell (by decide)))]; exact h_rgrade) (by rw [((congrFun eM_1 76).trans (jup_cell (by decide)))]; exact h_rtrade) (by rw [((congrFun eM_1 83).trans (jup_cell (by decide)))]; exact h_rpaper) hA1) rfl rfl (Nat.le_of_ble_eq_true rfl) (fun r_16 M_17 h_18 => ?_)
                      obtain ⟨eq, frh_18⟩ := h_18
                      rw [rHit_nK k1, rHit_nK k1, k1.2 27 (by decide)] at eq
                      have k2 := nK_tr k1 frh_18
                      refine j_iconst dX9_sue_140 (by decide) ?_
                      refine j_icmp_eq (tgt := 147) dX9_sue_141 (by decide) (fun c141_19 => ?_) (fun c141_19 => ?_)
                      · skip
                        refine j_aload_n 0 dX9_sue_147 rfl rfl ?_
                        refine j_geti (k' := 41) f_X9_327 o_74_41 dX9_sue_148 rfl ?_
                        refine j_eq (Eq.trans (congrFun (frh_18 74 (by decide) (by decide)) 41) ((congrFun (congrFun eM_1 74) 41).trans (jup_ne (by decide)))) ?_
                        refine j_bipush dX9_sue_151 (by decide) ?_
                        refine j_icmp_ne (tgt := 159) dX9_sue_153 (by decide) (fun c153_20 => ?_) (fun c153_20 => ?_)
                        · skip
                          refine j_aload_n 0 dX9_sue_159 rfl rfl ?_
                          refine j_getr f_X9_89 r_74_42 dX9_sue_160 ?_
                          refine j_aload_n 0 dX9_sue_163 rfl rfl ?_
                          refine j_geti (k' := 41) f_X9_327 o_74_41 dX9_sue_164 rfl ?_
                          refine j_eq (Eq.trans (congrFun (frh_18 74 (by decide) (by decide)) 41) ((congrFun (congrFun eM_1 74) 41).trans (jup_ne (by decide)))) ?_
                          refine j_iload_n 1 dX9_sue_167 rfl rfl ?_
                          refine j_iast a_101 dX9_sue_168 (by omega) (by omega) ?_
                          refine j_nmM (fun M_21 eM_21 => ?_)
                          refine j_aload_n 0 dX9_sue_169 rfl rfl ?_
                          refine j_getr f_X9_92 r_74_43 dX9_sue_170 ?_
                          refine j_aload_n 0 dX9_sue_173 rfl rfl ?_
                          refine j_geti (k' := 41) f_X9_327 o_74_41 dX9_sue_174 rfl ?_
                          refine j_eq (Eq.trans (congrFun ((congrFun eM_21 74).trans (jup_cell (by decide))) 41) (Eq.trans (congrFun (frh_18 74 (by decide) (by decide)) 41) ((congrFun (congrFun eM_1 74) 41).trans (jup_ne (by decide))))) ?_
                          refine j_iload_n 2 dX9_sue_177 rfl rfl ?_
                          refine j_iast a_102 dX9_sue_178 (by omega) (by omega) ?_
                          refine j_nmM (fun M_22 eM_22 => ?_)
                          refine j_aload_n 0 dX9_sue_179 rfl rfl ?_
                          refine j_getr f_X9_95 r_74_44 dX9_sue_180 ?_
                          refine j_aload_n 0 dX9_sue_183 rfl rfl ?_
                          refine j_geti (k' := 41) f_X9_327 o_74_41 dX9_sue_184 rfl ?_
                          refine j_eq (Eq.trans (congrFun ((congrFun eM_22 74).trans (jup_cell (by decide))) 41) (Eq.trans (congrFun ((congrFun eM_21 74).trans (jup_cell (by decide))) 41) (Eq.trans (congrFun (frh_18 74 (by decide) (by decide)) 41) ((congrFun (congrFun eM_1 74) 41).trans (jup_ne (by decide)))))) ?_
                          refine j_iload 4 dX9_sue_187 rfl ?_
                          refine j_iast a_103 dX9_sue_189 (by omega) (by omega) ?_
                          refine j_nmM (fun M_23 eM_23 => ?_)
                          refine j_aload_n 0 dX9_sue_190 rfl rfl ?_
                          refine j_getr f_X9_98 r_74_45 dX9_sue_191 ?_
                          refine j_aload_n 0 dX9_sue_194 rfl rfl ?_
                          refine j_geti (k' := 41) f_X9_327 o_74_41 dX9_sue_195 rfl ?_
                          refine j_eq (Eq.trans (congrFun ((congrFun eM_23 74).trans (jup_cell (by decide))) 41) (Eq.trans (congrFun ((congrFun eM_22 74).trans (jup_cell (by decide))) 41) (Eq.trans (congrFun ((congrFun eM_21 74).trans (jup_cell (by decide))) 41) (Eq.trans (congrFun (frh_18 74 (by decide) (by decide)) 41) ((congrFun (congrFun eM_1 74) 41).trans (jup_ne (by decide))))))) ?_
                          refine j_iload 6 dX9_sue_198 rfl ?_
                          refine j_iast a_104 dX9_sue_200 (by omega) (by omega) ?_
                          refine j_nmM (fun M_24 eM_24 => ?_)
                          refine j_aload_n 0 dX9_sue_201 rfl rfl ?_
                          refine j_getr f_X9_101 r_74_46 dX9_sue_202 ?_
                          refine j_aload_n 0 dX9_sue_205 rfl rfl ?_
                          refine j_geti (k' := 41) f_X9_327 o_74_41 dX9_sue_206 rfl ?_
                          refine j_eq (Eq.trans (congrFun ((congrFun eM_24 74).trans (jup_cell (by decide))) 41) (Eq.trans (congrFun ((congrFun eM_23 74).trans (jup_cell (by decide))) 41) (Eq.trans (congrFun ((congrFun eM_22 74).trans (jup_cell (by decide))) 41) (Eq.trans (congrFun ((congrFun eM_21 74).trans (jup_cell (by decide))) 41) (Eq.trans (congrFun (frh_18 74 (by decide) (by decide)) 41) ((congrFun (congrFun eM_1 74) 41).trans (jup_ne (by decide)))))))) ?_
                          refine j_iconst dX9_sue_209 (by decide) ?_
                          refine j_zast a_105 dX9_sue_210 (by omega) (by omega) (by omega) ?_
                          refine j_nmM (fun M_25 eM_25 => ?_)
                          refine j_aload_n 0 dX9_sue_211 rfl rfl ?_
                          refine j_dup dX9_sue_212 rfl ?_
                          refine j_geti (k' := 41) f_X9_327 o_74_41 dX9_sue_213 rfl ?_
                          refine j_eq (Eq.trans (congrFun ((congrFun eM_25 74).trans (jup_cell (by decide))) 41) (Eq.trans (congrFun ((congrFun eM_24 74).trans (jup_cell (by decide))) 41) (Eq.trans (congrFun ((congrFun eM_23 74).trans (jup_cell (by decide))) 41) (Eq.trans (congrFun ((congrFun eM_22 74).trans (jup_cell (by decide))) 41) (Eq.trans (congrFun ((congrFun eM_21 74).trans (jup_cell (by decide))) 41) (Eq.trans (congrFun (frh_18 74 (by decide) (by decide)) 41) ((congrFun (congrFun eM_1 74) 41).trans (jup_ne (by decide))))))))) ?_
                          refine j_iconst dX9_sue_216 (by decide) ?_
                          refine j_iadd dX9_sue_217 (by omega) ?_
                          refine j_puti (k' := 41) f_X9_327 o_74_41 dX9_sue_218 rfl ?_
                          refine j_nmM (fun M_26 eM_26 => ?_)
                          refine j_aload_n 0 dX9_sue_221 rfl rfl ?_
                          refine j_geti (k' := 41) f_X9_327 o_74_41 dX9_sue_222 rfl ?_
                          refine j_eq ((congrFun (congrFun eM_26 74) 41).trans (jup_self _ _ _ _)) ?_
                          refine j_iconst dX9_sue_225 (by decide) ?_
                          refine j_isub dX9_sue_226 (by omega) ?_
                          refine j_iret rfl rfl rfl rfl dX9_sue_227 ?_
                          exact sueR_yes k2 (by omega) hbf eq ⟨by omega, by omega, (thAt_yes h5e (by omega))⟩ (by omega) (Or.inr ⟨by omega, by omega, by rw [eM_26, eM_25, eM_24, eM_23, eM_22, eM_21]; rfl⟩)
                        · skip
                          refine j_bipush dX9_sue_156 (by decide) ?_
                          refine j_iret rfl rfl rfl rfl dX9_sue_158 ?_
                          exact sueR_yes k2 (by omega) hbf eq ⟨by omega, by omega, (thAt_yes h5e (by omega))⟩ (by omega) (Or.inl ⟨by omega, rfl, rfl⟩)
                      · skip
                        refine j_bipush dX9_sue_144 (by decide) ?_
                        refine j_iret rfl rfl rfl rfl dX9_sue_146 ?_
                        first | exact sueR_no' k1 (by omega) hbf (Or.inl (by omega)) | exact sueR_no' k1 (by omega) hbf (Or.inr (thAt_no h5e (by omega))) | exact sueR_no k2 (by omega) hbf eq (fun z => by have := z.2.1; omega)
                · skip
                  refine j_aload_n 0 dX9_sue_92 rfl rfl ?_
                  refine j_getr f_X9_83 r_74_39 dX9_sue_93 ?_
                  refine j_iload 6 dX9_sue_96 rfl ?_
                  refine j_iald a_99 dX9_sue_98 (by omega) (by omega) ?_
                  refine j_eq (congrFun ((congrFun eM_1 99).trans (jup_cell (by decide))) v6) ?_
                  have g_27 := h_rkin v6
                  refine j_aload_n 0 dX9_sue_99 rfl rfl ?_
                  refine j_getr f_X9_17 r_74_5 dX9_sue_100 ?_
                  refine j_iload_n 1 dX9_sue_103 rfl rfl ?_
                  refine j_iald a_77 dX9_sue_104 (by omega) (by omega) ?_
                  refine j_eq (congrFun ((congrFun eM_1 77).trans (jup_cell (by decide))) m) ?_
                  have g_28 := h_rowner m
                  refine j_ishr dX9_sue_105 ?_
                  refine j_iconst dX9_sue_106 (by decide) ?_
                  refine j_iand dX9_sue_107 ?_
                  refine j_iconst dX9_sue_108 (by decide) ?_
                  refine j_icmp_ne (tgt := 118) dX9_sue_109 (by decide) (fun c109_29 => ?_) (fun c109_29 => ?_)
                  · skip
                    have hbf : bF (M 99) (M 77 m) (M 74 38) v6 := ⟨⟨by omega, by omega⟩, g2, fun z => by have := jbit01 (h_rkin v6) hown; omega⟩
                    refine j_iload 5 dX9_sue_118 rfl ?_
                    refine j_if_eq (tgt := 144) dX9_sue_120 (by decide) (fun c120_30 => ?_) (fun c120_30 => ?_)
                    · skip
                      refine j_bipush dX9_sue_144 (by decide) ?_
                      refine j_iret rfl rfl rfl rfl dX9_sue_146 ?_
                      first | exact sueR_no' k1 (by omega) hbf (Or.inl (by omega)) | exact sueR_no' k1 (by omega) hbf (Or.inr (thAt_no h5e (by omega))) | exact sueR_no k2 (by omega) hbf eq (fun z => by have := z.2.1; omega)
                    · skip
                      refine j_iload 6 dX9_sue_123 rfl ?_
                      refine j_aload_n 0 dX9_sue_125 rfl rfl ?_
                      refine j_geti (k' := 38) f_X9_324 o_74_38 dX9_sue_126 rfl ?_
                      refine j_eq ((congrFun (congrFun eM_1 74) 38).trans (jup_ne (by decide))) ?_
                      refine j_icmp_eq (tgt := 144) dX9_sue_129 (by decide) (fun c129_31 => ?_) (fun c129_31 => ?_)
                      · skip
                        refine j_bipush dX9_sue_144 (by decide) ?_
                        refine j_iret rfl rfl rfl rfl dX9_sue_146 ?_
                        first | exact sueR_no' k1 (by omega) hbf (Or.inl (by omega)) | exact sueR_no' k1 (by omega) hbf (Or.inr (thAt_no h5e (by omega))) | exact sueR_no k2 (by omega) hbf eq (fun z => by have := z.2.1; omega)
                      · skip
                        refine j_aload_n 0 dX9_sue_132 rfl rfl ?_
                        refine j_iload_n 2 dX9_sue_133 rfl rfl ?_
                        refine j_iload_n 3 dX9_sue_134 rfl rfl ?_
                        refine j_iload 4 dX9_sue_135 rfl ?_
                        refine j_callVi l_X9_299 ⟨Nat.le_of_ble_eq_true rfl, Nat.le_of_ble_eq_true rfl⟩ ⟨rfl, rfl⟩ dX9_sue_137 ob_74 (c_X9_breachOf M_1 h d o (by rw [((congrFun (congrFun eM_1 74) 27).trans (jup_ne (by decide)))]; exact h_rlines) (by rw [((congrFun eM_1 89).trans (jup_cell (by decide)))]; exact h_rlhand) (by rw [((congrFun eM_1 90).trans (jup_cell (by decide)))]; exact h_rlday) (by rw [((congrFun eM_1 91).trans (jup_cell (by decide)))]; exact h_rlwhere) (by rw [((congrFun eM_1 82).trans (jup_cell (by decide)))]; exact h_rpapers) (by rw [((congrFun eM_1 94).trans (jup_cell (by decide)))]; exact h_rchecks) (by rw [((congrFun eM_1 96).trans (jup_cell (by decide)))]; exact h_rcerr) (by rw [((congrFun eM_1 92).trans (jup_cell (by decide)))]; exact h_rlin) (by rw [((congrFun eM_1 93).trans (jup_cell (by decide)))]; exact h_rlout) (by rw [((congrFun eM_1 80).trans (jup_cell (by decide)))]; exact h_rkind) (by rw [((congrFun eM_1 81).trans (jup_cell (by decide)))]; exact h_rgrade) (by rw [((congrFun eM_1 76).trans (jup_cell (by decide)))]; exact h_rtrade) (by rw [((congrFun eM_1 83).trans (jup_cell (by decide)))]; exact h_rpaper) hA1) rfl rfl (Nat.le_of_ble_eq_true rfl) (fun r_32 M_33 h_34 => ?_)
                        obtain ⟨eq, frh_34⟩ := h_34
                        rw [rHit_nK k1, rHit_nK k1, k1.2 27 (by decide)] at eq
                        have k2 := nK_tr k1 frh_34
                        refine j_iconst dX9_sue_140 (by decide) ?_
                        refine j_icmp_eq (tgt := 147) dX9_sue_141 (by decide) (fun c141_35 => ?_) (fun c141_35 => ?_)
                        · skip
                          refine j_aload_n 0 dX9_sue_147 rfl rfl ?_
                          refine j_geti (k' := 41) f_X9_327 o_74_41 dX9_sue_148 rfl ?_
                          refine j_eq (Eq.trans (congrFun (frh_34 74 (by decide) (by decide)) 41) ((congrFun (congrFun eM_1 74) 41).trans (jup_ne (by decide)))) ?_
                          refine j_bipush dX9_sue_151 (by decide) ?_
                          refine j_icmp_ne (tgt := 159) dX9_sue_153 (by decide) (fun c153_36 => ?_) (fun c153_36 => ?_)
                          · skip
                            refine j_aload_n 0 dX9_sue_159 rfl rfl ?_
                            refine j_getr f_X9_89 r_74_42 dX9_sue_160 ?_
                            refine j_aload_n 0 dX9_sue_163 rfl rfl ?_
                            refine j_geti (k' := 41) f_X9_327 o_74_41 dX9_sue_164 rfl ?_
                            refine j_eq (Eq.trans (congrFun (frh_34 74 (by decide) (by decide)) 41) ((congrFun (congrFun eM_1 74) 41).trans (jup_ne (by decide)))) ?_
                            refine j_iload_n 1 dX9_sue_167 rfl rfl ?_
                            refine j_iast a_101 dX9_sue_168 (by omega) (by omega) ?_
                            refine j_nmM (fun M_37 eM_37 => ?_)
                            refine j_aload_n 0 dX9_sue_169 rfl rfl ?_
                            refine j_getr f_X9_92 r_74_43 dX9_sue_170 ?_
                            refine j_aload_n 0 dX9_sue_173 rfl rfl ?_
                            refine j_geti (k' := 41) f_X9_327 o_74_41 dX9_sue_174 rfl ?_
                            refine j_eq (Eq.trans (congrFun ((congrFun eM_37 74).trans (jup_cell (by decide))) 41) (Eq.trans (congrFun (frh_34 74 (by decide) (by decide)) 41) ((congrFun (congrFun eM_1 74) 41).trans (jup_ne (by decide))))) ?_
                            refine j_iload_n 2 dX9_sue_177 rfl rfl ?_
                            refine j_iast a_102 dX9_sue_178 (by omega) (by omega) ?_
                            refine j_nmM (fun M_38 eM_38 => ?_)
                            refine j_aload_n 0 dX9_sue_179 rfl rfl ?_
                            refine j_getr f_X9_95 r_74_44 dX9_sue_180 ?_
                            refine j_aload_n 0 dX9_sue_183 rfl rfl ?_
                            refine j_geti (k' := 41) f_X9_327 o_74_41 dX9_sue_184 rfl ?_
                            refine j_eq (Eq.trans (congrFun ((congrFun eM_38 74).trans (jup_cell (by decide))) 41) (Eq.trans (congrFun ((congrFun eM_37 74).trans (jup_cell (by decide))) 41) (Eq.trans (congrFun (frh_34 74 (by decide) (by decide)) 41) ((congrFun (congrFun eM_1 74) 41).trans (jup_ne (by decide)))))) ?_
                            refine j_iload 4 dX9_sue_187 rfl ?_
                            refine j_iast a_103 dX9_sue_189 (by omega) (by omega) ?_
                            refine j_nmM (fun M_39 eM_39 => ?_)
                            refine j_aload_n 0 dX9_sue_190 rfl rfl ?_
                            refine j_getr f_X9_98 r_74_45 dX9_sue_191 ?_
                            refine j_aload_n 0 dX9_sue_194 rfl rfl ?_
                            refine j_geti (k' := 41) f_X9_327 o_74_41 dX9_sue_195 rfl ?_
                            refine j_eq (Eq.trans (congrFun ((congrFun eM_39 74).trans (jup_cell (by decide))) 41) (Eq.trans (congrFun ((congrFun eM_38 74).trans (jup_cell (by decide))) 41) (Eq.trans (congrFun ((congrFun eM_37 74).trans (jup_cell (by decide))) 41) (Eq.trans (congrFun (frh_34 74 (by decide) (by decide)) 41) ((congrFun (congrFun eM_1 74) 41).trans (jup_ne (by decide))))))) ?_
                            refine j_iload 6 dX9_sue_198 rfl ?_
                            refine j_iast a_104 dX9_sue_200 (by omega) (by omega) ?_
                            refine j_nmM (fun M_40 eM_40 => ?_)
                            refine j_aload_n 0 dX9_sue_201 rfl rfl ?_
                            refine j_getr f_X9_101 r_74_46 dX9_sue_202 ?_
                            refine j_aload_n 0 dX9_sue_205 rfl rfl ?_
                            refine j_geti (k' := 41) f_X9_327 o_74_41 dX9_sue_206 rfl ?_
                            refine j_eq (Eq.trans (congrFun ((congrFun eM_40 74).trans (jup_cell (by decide))) 41) (Eq.trans (congrFun ((congrFun eM_39 74).trans (jup_cell (by decide))) 41) (Eq.trans (congrFun ((congrFun eM_38 74).trans (jup_cell (by decide))) 41) (Eq.trans (congrFun ((congrFun eM_37 74).trans (jup_cell (by decide))) 41) (Eq.trans (congrFun (frh_34 74 (by decide) (by decide)) 41) ((congrFun (congrFun eM_1 74) 41).trans (jup_ne (by decide)))))))) ?_
                            refine j_iconst dX9_sue_209 (by decide) ?_
                            refine j_zast a_105 dX9_sue_210 (by omega) (by omega) (by omega) ?_
                            refine j_nmM (fun M_41 eM_41 => ?_)
                            refine j_aload_n 0 dX9_sue_211 rfl rfl ?_
                            refine j_dup dX9_sue_212 rfl ?_
                            refine j_geti (k' := 41) f_X9_327 o_74_41 dX9_sue_213 rfl ?_
                            refine j_eq (Eq.trans (congrFun ((congrFun eM_41 74).trans (jup_cell (by decide))) 41) (Eq.trans (congrFun ((congrFun eM_40 74).trans (jup_cell (by decide))) 41) (Eq.trans (congrFun ((congrFun eM_39 74).trans (jup_cell (by decide))) 41) (Eq.trans (congrFun ((congrFun eM_38 74).trans (jup_cell (by decide))) 41) (Eq.trans (congrFun ((congrFun eM_37 74).trans (jup_cell (by decide))) 41) (Eq.trans (congrFun (frh_34 74 (by decide) (by decide)) 41) ((congrFun (congrFun eM_1 74) 41).trans (jup_ne (by decide))))))))) ?_
                            refine j_iconst dX9_sue_216 (by decide) ?_
                            refine j_iadd dX9_sue_217 (by omega) ?_
                            refine j_puti (k' := 41) f_X9_327 o_74_41 dX9_sue_218 rfl ?_
                            refine j_nmM (fun M_42 eM_42 => ?_)
                            refine j_aload_n 0 dX9_sue_221 rfl rfl ?_
                            refine j_geti (k' := 41) f_X9_327 o_74_41 dX9_sue_222 rfl ?_
                            refine j_eq ((congrFun (congrFun eM_42 74) 41).trans (jup_self _ _ _ _)) ?_
                            refine j_iconst dX9_sue_225 (by decide) ?_
                            refine j_isub dX9_sue_226 (by omega) ?_
                            refine j_iret rfl rfl rfl rfl dX9_sue_227 ?_
                            exact sueR_yes k2 (by omega) hbf eq ⟨by omega, by omega, (thAt_yes h5e (by omega))⟩ (by omega) (Or.inr ⟨by omega, by omega, by rw [eM_42, eM_41, eM_40, eM_39, eM_38, eM_37]; rfl⟩)
                          · skip
                            refine j_bipush dX9_sue_156 (by decide) ?_
                            refine j_iret rfl rfl rfl rfl dX9_sue_158 ?_
                            exact sueR_yes k2 (by omega) hbf eq ⟨by omega, by omega, (thAt_yes h5e (by omega))⟩ (by omega) (Or.inl ⟨by omega, rfl, rfl⟩)
                        · skip
                          refine j_bipush dX9_sue_144 (by decide) ?_
                          refine j_iret rfl rfl rfl rfl dX9_sue_146 ?_
                          first | exact sueR_no' k1 (by omega) hbf (Or.inl (by omega)) | exact sueR_no' k1 (by omega) hbf (Or.inr (thAt_no h5e (by omega))) | exact sueR_no k2 (by omega) hbf eq (fun z => by have := z.2.1; omega)
                  · skip
                    obtain ⟨v6_43, ev6_43⟩ : ∃ y : Int, y = v6 + 1 := ⟨_, rfl⟩
                    refine j_iinc (y := v6_43) (ls' := [(0, jR 74), (1, jI m), (2, jI h), (3, jI d), (4, jI o), (5, jI v5), (6, jI v6_43)]) 6 dX9_sue_112 rfl ev6_43 (by omega) (by decide) rfl ?_
                    refine j_goto (tgt := 83) dX9_sue_115 (by decide) ?_
                    exact ih83 v6_43 ⟨by omega, by intro j a b; by_cases e : j = v6; (· rw [e]; assumption); (· exact g2 j a (by omega))⟩ (by omega)
            exact lp83_12 _ 0 ⟨by omega, by intro j a b; omega⟩ (Nat.lt_succ_self _)
          · skip
            refine j_iload 5 dX9_sue_42 rfl ?_
            refine j_aload_n 0 dX9_sue_44 rfl rfl ?_
            refine j_iload 6 dX9_sue_45 rfl ?_
            refine j_iload_n 2 dX9_sue_47 rfl rfl ?_
            refine j_iload_n 3 dX9_sue_48 rfl rfl ?_
            refine j_callVi l_X9_287 ⟨Nat.le_of_ble_eq_true rfl, Nat.le_of_ble_eq_true rfl⟩ ⟨rfl, rfl⟩ dX9_sue_49 ob_74 (c_X9_isLine M_1 v6 h d (by omega)) rfl rfl (Nat.le_of_ble_eq_true rfl) (fun r_44 M_45 h_46 => ?_)
            obtain ⟨er_44, nh_46⟩ := h_46
            refine j_eqM nh_46 ?_
            clear nh_46
            simp only [((congrFun eM_1 89).trans (jup_cell (by decide))), ((congrFun eM_1 90).trans (jup_cell (by decide)))] at er_44
            have hJ_47 : ∀ zz : Int, (r_44 = 0 ∧ zz = 0) ∨ (¬ r_44 = 0 ∧ ¬ (M 91 v6) = m ∧ zz = 0) ∨ (¬ r_44 = 0 ∧ (M 91 v6) = m ∧ zz = 1) → jG D_X9_sue X FJ shJ 0 0 (jqI (q_X9_sue M m h d o)) 71 [(0, jR 74), (1, jI m), (2, jI h), (3, jI d), (4, jI o), (5, jI v5), (6, jI v6)] (jI zz :: jI v5 :: []) M_1 := by
              intro t_48 et_48
              have ht48 : (t_48 = 1 ∧ (M 89 v6 = h ∧ M 90 v6 = d) ∧ M 91 v6 = m) ∨ (t_48 = 0 ∧ ¬ ((M 89 v6 = h ∧ M 90 v6 = d) ∧ M 91 v6 = m)) := by omega
              have hj := jor01 (x := v5) (y := t_48) h5i (by omega)
              refine j_ior dX9_sue_71 ?_
              refine j_nm (fun v5_49 ev5_49 => ?_)
              refine j_istore (ls' := [(0, jR 74), (1, jI m), (2, jI h), (3, jI d), (4, jI o), (5, jI v5_49), (6, jI v6)]) dX9_sue_72 (by decide) rfl ?_
              obtain ⟨v6_50, ev6_50⟩ : ∃ y : Int, y = v6 + 1 := ⟨_, rfl⟩
              refine j_iinc (y := v6_50) (ls' := [(0, jR 74), (1, jI m), (2, jI h), (3, jI d), (4, jI o), (5, jI v5_49), (6, jI v6_50)]) 6 dX9_sue_74 rfl ev6_50 (by omega) (by decide) rfl ?_
              refine j_goto (tgt := 33) dX9_sue_77 (by decide) ?_
              exact ih33 v5_49 v6_50 ⟨by omega, by rw [ev6_50]; exact thAt_s h1.1 h5 ht48 (by rw [ev5_49]; exact hj)⟩ (by omega)
            refine j_if_eq (tgt := 70) dX9_sue_52 (by decide) (fun c52_51 => ?_) (fun c52_51 => ?_)
            · skip
              refine j_iconst dX9_sue_70 (by decide) ?_
              exact hJ_47 _ (Or.inl ⟨c52_51, rfl⟩)
            · skip
              refine j_aload_n 0 dX9_sue_55 rfl rfl ?_
              refine j_getr f_X9_59 r_74_30 dX9_sue_56 ?_
              refine j_iload 6 dX9_sue_59 rfl ?_
              refine j_iald a_91 dX9_sue_61 (by omega) (by omega) ?_
              refine j_eq (congrFun ((congrFun eM_1 91).trans (jup_cell (by decide))) v6) ?_
              have g_52 := h_rlwhere v6
              refine j_iload_n 1 dX9_sue_62 rfl rfl ?_
              refine j_icmp_ne (tgt := 70) dX9_sue_63 (by decide) (fun c63_53 => ?_) (fun c63_53 => ?_)
              · skip
                refine j_iconst dX9_sue_70 (by decide) ?_
                exact hJ_47 _ (Or.inr (Or.inl ⟨c52_51, c63_53, rfl⟩))
              · skip
                refine j_iconst dX9_sue_66 (by decide) ?_
                refine j_goto (tgt := 71) dX9_sue_67 (by decide) ?_
                exact hJ_47 _ (Or.inr (Or.inr (⟨c52_51, c63_53, rfl⟩)))
      exact lp33_10 _ 0 0 ⟨by omega, by exact thAt_0 _ _ _ _ _ _⟩ (Nat.lt_succ_self _)
    · skip
      refine j_iconst dX9_sue_25 (by decide) ?_
      refine j_iret rfl rfl rfl rfl dX9_sue_26 ?_
      exact sueR_bad k1 (by omega)
