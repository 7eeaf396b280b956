abbrev q_X5_readHead (M : jM) (b : Int → Int) (q f : Int) (hf : jA f)  : Int → jM → Prop := fun r N => hdP b f M N (lNx b q) r
set_option maxHeartbeats 4000000 in
set_option maxRecDepth 20000 in
theorem c_X5_readHead {X : jX} (M : jM) (b : Int → Int) (q f : Int) (hf : jA f)  (h_ctyped : 0 ≤ M 71 0 ∧ M 71 0 ≤ 900) (h_ctext : ∀ i, -128 ≤ M 72 i ∧ M 72 i ≤ 127) (ht : cT b M q) (h6 : M 71 6 = f) (hru : 0 ≤ M f 0 ∧ M f 0 < 16) : jC yX5_readHead D_X5_readHead X FJ shJ [jR 71] M (jqI (q_X5_readHead M b q f hf)) := by
  refine jC_of (by decide) rfl (fun ad => Nat.le_of_ble_eq_true rfl) (by decide) ?_
  show jG D_X5_readHead X FJ shJ 0 0 (jqI (q_X5_readHead M b q f hf)) 0 [(0, jR 71)] [] M
  have hf2 : f = 47 ∨ f = 59 := hf
  have hwm : wMap 1 = 1 := by decide
  refine j_aload_n 0 dX5_readHead_0 rfl rfl ?_
  refine j_callVv l_X5_38 ⟨Nat.le_of_ble_eq_true rfl, Nat.le_of_ble_eq_true rfl⟩ ⟨rfl, rfl⟩ dX5_readHead_1 ob_71 (c_X5_step M b h_ctyped h_ctext ht.1 (cT_pre ht h_ctyped)) rfl rfl (Nat.le_of_ble_eq_true rfl) (fun M_2 h_3 => ?_)
  have sth_3 := h_3
  unfold q_X5_step at sth_3
  have frh_3 := sth_3.2.2.1
  have t0 := cT_step ht sth_3
  have f0 := sth_3.2.2
  have zh6 : M_2 71 6 = f := by rw [f0.2 6 (by decide) (by decide) (by decide) (by decide)]; exact h6
  have g0 : M_2 f 0 = M f 0 := by rw [f0.1 f (by omega)]
  have n0 := cT_0 t0
  have k0 := (cT_tok t0).2.1
  have v0 := (cT_tok t0).2.2.2.1
  have z0 := (cT_tok t0).1
  have c0 := cK_num (b := b) (q := (lNx b q))
  refine j_aload_n 0 dX5_readHead_4 rfl rfl ?_
  refine j_geti (k' := 2) f_X5_41 o_71_2 dX5_readHead_5 rfl ?_
  refine j_bipush dX5_readHead_8 (by decide) ?_
  refine j_icmp_ne (tgt := 31) dX5_readHead_10 (by decide) (fun c10_4 => ?_) (fun c10_4 => ?_)
  · skip
    have nd : ¬ hDup b f M (lNx b q) := hD_k (by omega)
    refine j_aload_n 0 dX5_readHead_31 rfl rfl ?_
    refine j_iconst dX5_readHead_32 (by decide) ?_
    refine j_bipush dX5_readHead_33 (by decide) ?_
    refine j_callVi l_X5_90 ⟨Nat.le_of_ble_eq_true rfl, Nat.le_of_ble_eq_true rfl⟩ ⟨rfl, rfl⟩ dX5_readHead_35 ob_71 (c_X5_takeNumber M_2 b (lNx b q) 1 99 (by rw [(sth_3.2.2.2 0 (by decide) (by decide) (by decide) (by decide))]; exact h_ctyped) (by rw [(frh_3 72 (by decide))]; exact h_ctext) t0) rfl rfl (Nat.le_of_ble_eq_true rfl) (fun r_5 M_6 h_7 => ?_)
    obtain ⟨tkh_7, fkh_7⟩ := h_7
    have frh_7 := fkh_7.1
    have y1 := zN n0 tkh_7 rfl (by decide)
    have f1 := cFr_tr f0 fkh_7
    clear tkh_7
    refine j_istore_n (ls' := [(0, jR 71), (1, jI r_5)]) dX5_readHead_38 rfl (by decide) rfl ?_
    refine j_iload_n 1 dX5_readHead_39 rfl rfl ?_
    refine j_bipush dX5_readHead_40 (by decide) ?_
    refine j_icmp_eq (tgt := 54) dX5_readHead_42 (by decide) (fun c42_8 => ?_) (fun c42_8 => ?_)
    · skip
      have zbad := pHb_1 (y1.2 (by omega))
      have zfr := f1
      refine j_iconst dX5_readHead_54 (by decide) ?_
      refine j_zret rfl rfl rfl rfl dX5_readHead_55 (by omega) ?_
      exact Or.inr ⟨nd, Or.inr ⟨rfl, zbad, zfr⟩⟩
    · skip
      have e1 := (y1.1 (by omega)).2
      have t1 : cT b _ (pH1 b (lNx b q)) := (y1.1 (by omega)).1
      have n1 := cT_0 t1
      refine j_aload_n 0 dX5_readHead_45 rfl rfl ?_
      refine j_ldcS (i := 1) (r := (-11)) (by decide) rfl rfl dX5_readHead_46 (by decide) ?_
      refine j_callVi l_X5_95 ⟨Nat.le_of_ble_eq_true rfl, Nat.le_of_ble_eq_true rfl⟩ ⟨rfl, rfl⟩ dX5_readHead_48 ob_71 (c_X5_takeWord M_6 b (pH1 b (lNx b q)) 1 (by decide) (-11) (by rw [(Eq.trans (fkh_7.2 0 (by decide) (by decide) (by decide) (by decide)) (sth_3.2.2.2 0 (by decide) (by decide) (by decide) (by decide)))]; exact h_ctyped) (by rw [(Eq.trans (frh_7 72 (by decide)) (frh_3 72 (by decide)))]; exact h_ctext) t1 (by decide)) rfl rfl (Nat.le_of_ble_eq_true rfl) (fun r_9 M_10 h_11 => ?_)
      obtain ⟨tkh_11, fkh_11⟩ := h_11
      have frh_11 := fkh_11.1
      have tk2 := tkh_11
      rw [hwm] at tk2
      have y2 := zW n1 tk2
      have f2 := cFr_tr f1 fkh_11
      clear tkh_11 tk2
      refine j_if_ne (tgt := 56) dX5_readHead_51 (by decide) (fun c51_12 => ?_) (fun c51_12 => ?_)
      · skip
        have t2 : cT b _ (pH2 b (lNx b q)) := y2.1 (by omega)
        have n2 := cT_0 t2
        refine j_aload_n 0 dX5_readHead_56 rfl rfl ?_
        refine j_iconst dX5_readHead_57 (by decide) ?_
        refine j_sipush dX5_readHead_58 (by decide) ?_
        refine j_callVi l_X5_90 ⟨Nat.le_of_ble_eq_true rfl, Nat.le_of_ble_eq_true rfl⟩ ⟨rfl, rfl⟩ dX5_readHead_61 ob_71 (c_X5_takeNumber M_10 b (pH2 b (lNx b q)) 0 359 (by rw [(Eq.trans (fkh_11.2 0 (by decide) (by decide) (by decide) (by decide)) (Eq.trans (fkh_7.2 0 (by decide) (by decide) (by decide) (by decide)) (sth_3.2.2.2 0 (by decide) (by decide) (by decide) (by decide))))]; exact h_ctyped) (by rw [(Eq.trans (frh_11 72 (by decide)) (Eq.trans (frh_7 72 (by decide)) (frh_3 72 (by decide))))]; exact h_ctext) t2) rfl rfl (Nat.le_of_ble_eq_true rfl) (fun r_13 M_14 h_15 => ?_)
        obtain ⟨tkh_15, fkh_15⟩ := h_15
        have frh_15 := fkh_15.1
        have y3 := zN n2 tkh_15 rfl (by decide)
        have f3 := cFr_tr f2 fkh_15
        clear tkh_15
        refine j_istore_n (ls' := [(0, jR 71), (1, jI r_5), (2, jI r_13)]) dX5_readHead_64 rfl (by decide) rfl ?_
        refine j_iload_n 2 dX5_readHead_65 rfl rfl ?_
        refine j_bipush dX5_readHead_66 (by decide) ?_
        refine j_icmp_eq (tgt := 80) dX5_readHead_68 (by decide) (fun c68_16 => ?_) (fun c68_16 => ?_)
        · skip
          have zbad := pHb_3 (y3.2 (by omega))
          have zfr := f3
          refine j_iconst dX5_readHead_80 (by decide) ?_
          refine j_zret rfl rfl rfl rfl dX5_readHead_81 (by omega) ?_
          exact Or.inr ⟨nd, Or.inr ⟨rfl, zbad, zfr⟩⟩
        · skip
          have e3 := (y3.1 (by omega)).2
          have t3 : cT b _ (pH3 b (lNx b q)) := (y3.1 (by omega)).1
          have n3 := cT_0 t3
          refine j_aload_n 0 dX5_readHead_71 rfl rfl ?_
          refine j_bipush dX5_readHead_72 (by decide) ?_
          refine j_callVi l_X5_98 ⟨Nat.le_of_ble_eq_true rfl, Nat.le_of_ble_eq_true rfl⟩ ⟨rfl, rfl⟩ dX5_readHead_74 ob_71 (c_X5_takeSign M_14 b (pH3 b (lNx b q)) 45 (by rw [(Eq.trans (fkh_15.2 0 (by decide) (by decide) (by decide) (by decide)) (Eq.trans (fkh_11.2 0 (by decide) (by decide) (by decide) (by decide)) (Eq.trans (fkh_7.2 0 (by decide) (by decide) (by decide) (by decide)) (sth_3.2.2.2 0 (by decide) (by decide) (by decide) (by decide)))))]; exact h_ctyped) (by rw [(Eq.trans (frh_15 72 (by decide)) (Eq.trans (frh_11 72 (by decide)) (Eq.trans (frh_7 72 (by decide)) (frh_3 72 (by decide)))))]; exact h_ctext) t3 (by decide)) rfl rfl (Nat.le_of_ble_eq_true rfl) (fun r_17 M_18 h_19 => ?_)
          obtain ⟨tkh_19, fkh_19⟩ := h_19
          have frh_19 := fkh_19.1
          have y4 := zS n3 tkh_19
          have f4 := cFr_tr f3 fkh_19
          clear tkh_19
          refine j_if_ne (tgt := 82) dX5_readHead_77 (by decide) (fun c77_20 => ?_) (fun c77_20 => ?_)
          · skip
            have t4 : cT b _ (pH4 b (lNx b q)) := y4.1 (by omega)
            have n4 := cT_0 t4
            refine j_aload_n 0 dX5_readHead_82 rfl rfl ?_
            refine j_iload_n 2 dX5_readHead_83 rfl rfl ?_
            refine j_sipush dX5_readHead_84 (by decide) ?_
            refine j_callVi l_X5_90 ⟨Nat.le_of_ble_eq_true rfl, Nat.le_of_ble_eq_true rfl⟩ ⟨rfl, rfl⟩ dX5_readHead_87 ob_71 (c_X5_takeNumber M_18 b (pH4 b (lNx b q)) r_13 359 (by rw [(Eq.trans (fkh_19.2 0 (by decide) (by decide) (by decide) (by decide)) (Eq.trans (fkh_15.2 0 (by decide) (by decide) (by decide) (by decide)) (Eq.trans (fkh_11.2 0 (by decide) (by decide) (by decide) (by decide)) (Eq.trans (fkh_7.2 0 (by decide) (by decide) (by decide) (by decide)) (sth_3.2.2.2 0 (by decide) (by decide) (by decide) (by decide))))))]; exact h_ctyped) (by rw [(Eq.trans (frh_19 72 (by decide)) (Eq.trans (frh_15 72 (by decide)) (Eq.trans (frh_11 72 (by decide)) (Eq.trans (frh_7 72 (by decide)) (frh_3 72 (by decide))))))]; exact h_ctext) t4) rfl rfl (Nat.le_of_ble_eq_true rfl) (fun r_21 M_22 h_23 => ?_)
            obtain ⟨tkh_23, fkh_23⟩ := h_23
            have frh_23 := fkh_23.1
            have y5 := zN n4 tkh_23 e3.1 (by omega)
            have f5 := cFr_tr f4 fkh_23
            clear tkh_23
            refine j_istore_n (ls' := [(0, jR 71), (1, jI r_5), (2, jI r_13), (3, jI r_21)]) dX5_readHead_90 rfl (by decide) rfl ?_
            refine j_iload_n 3 dX5_readHead_91 rfl rfl ?_
            refine j_bipush dX5_readHead_92 (by decide) ?_
            refine j_icmp_eq (tgt := 106) dX5_readHead_94 (by decide) (fun c94_24 => ?_) (fun c94_24 => ?_)
            · skip
              have zbad := pHb_5 (y5.2 (by omega))
              have zfr := f5
              refine j_iconst dX5_readHead_106 (by decide) ?_
              refine j_zret rfl rfl rfl rfl dX5_readHead_107 (by omega) ?_
              exact Or.inr ⟨nd, Or.inr ⟨rfl, zbad, zfr⟩⟩
            · skip
              have e5 := (y5.1 (by omega)).2
              have t5 : cT b _ (pH5 b (lNx b q)) := (y5.1 (by omega)).1
              have n5 := cT_0 t5
              refine j_aload_n 0 dX5_readHead_97 rfl rfl ?_
              refine j_bipush dX5_readHead_98 (by decide) ?_
              refine j_callVi l_X5_98 ⟨Nat.le_of_ble_eq_true rfl, Nat.le_of_ble_eq_true rfl⟩ ⟨rfl, rfl⟩ dX5_readHead_100 ob_71 (c_X5_takeSign M_22 b (pH5 b (lNx b q)) 58 (by rw [(Eq.trans (fkh_23.2 0 (by decide) (by decide) (by decide) (by decide)) (Eq.trans (fkh_19.2 0 (by decide) (by decide) (by decide) (by decide)) (Eq.trans (fkh_15.2 0 (by decide) (by decide) (by decide) (by decide)) (Eq.trans (fkh_11.2 0 (by decide) (by decide) (by decide) (by decide)) (Eq.trans (fkh_7.2 0 (by decide) (by decide) (by decide) (by decide)) (sth_3.2.2.2 0 (by decide) (by decide) (by decide) (by decide)))))))]; exact h_ctyped) (by rw [(Eq.trans (frh_23 72 (by decide)) (Eq.trans (frh_19 72 (by decide)) (Eq.trans (frh_15 72 (by decide)) (Eq.trans (frh_11 72 (by decide)) (Eq.trans (frh_7 72 (by decide)) (frh_3 72 (by decide)))))))]; exact h_ctext) t5 (by decide)) rfl rfl (Nat.le_of_ble_eq_true rfl) (fun r_25 M_26 h_27 => ?_)
              obtain ⟨tkh_27, fkh_27⟩ := h_27
              have frh_27 := fkh_27.1
              have y6 := zS n5 tkh_27
              have f6 := cFr_tr f5 fkh_27
              clear tkh_27
              have zh6b : M_26 71 6 = f := by rw [f6.2 6 (by decide) (by decide) (by decide) (by decide)]; exact h6
              refine j_if_ne (tgt := 108) dX5_readHead_103 (by decide) (fun c103_28 => ?_) (fun c103_28 => ?_)
              · skip
                have t6 : cT b _ (pH6 b (lNx b q)) := y6.1 (by omega)
                refine j_aload_n 0 dX5_readHead_108 rfl rfl ?_
                refine j_getd (k' := 6) f_X5_19 o_71_6 dX5_readHead_109 rfl ?_
                refine j_eqR (y := f) (by first | exact zh6b | exact zh6) ?_
                refine j_iload_n 1 dX5_readHead_112 rfl rfl ?_
                refine j_iload_n 2 dX5_readHead_113 rfl rfl ?_
                refine j_iload_n 3 dX5_readHead_114 rfl rfl ?_
                refine j_callVv l_X5_102 ⟨Nat.le_of_ble_eq_true rfl, Nat.le_of_ble_eq_true rfl⟩ ⟨rfl, rfl⟩ dX5_readHead_115 (oba hf) (c_X0_add M_26 f hf r_5 r_13 r_21 (by rw [f6.1 f (by omega)]; exact hru)) rfl rfl (Nat.le_of_ble_eq_true rfl) (fun M_30 h_31 => ?_)
                have adh_31 := h_31
                unfold q_X0_add at adh_31
                have frh_31 := adh_31.1
                refine j_iconst dX5_readHead_118 (by decide) ?_
                refine j_zret rfl rfl rfl rfl dX5_readHead_119 (by omega) ?_
                exact hdP_ok hf2 nd t6 f6 adh_31 e1.1 e3.1 e5.1
              · skip
                have zbad : zBd (pH6 b (lNx b q)) _ := y6.2 (by omega)
                have zfr := f6
                refine j_iconst dX5_readHead_106 (by decide) ?_
                refine j_zret rfl rfl rfl rfl dX5_readHead_107 (by omega) ?_
                exact Or.inr ⟨nd, Or.inr ⟨rfl, zbad, zfr⟩⟩
          · skip
            have zbad := pHb_4 (y4.2 (by omega))
            have zfr := f4
            refine j_iconst dX5_readHead_80 (by decide) ?_
            refine j_zret rfl rfl rfl rfl dX5_readHead_81 (by omega) ?_
            exact Or.inr ⟨nd, Or.inr ⟨rfl, zbad, zfr⟩⟩
      · skip
        have zbad := pHb_2 (y2.2 (by omega))
        have zfr := f2
        refine j_iconst dX5_readHead_54 (by decide) ?_
        refine j_zret rfl rfl rfl rfl dX5_readHead_55 (by omega) ?_
        exact Or.inr ⟨nd, Or.inr ⟨rfl, zbad, zfr⟩⟩
  · skip
    have kk : lK b (lNx b q) = 2 := by omega
    have vv := v0 kk
    refine j_aload_n 0 dX5_readHead_13 rfl rfl ?_
    refine j_getd (k' := 6) f_X5_19 o_71_6 dX5_readHead_14 rfl ?_
    refine j_eqR (y := f) (by first | exact zh6b | exact zh6) ?_
    refine j_aload_n 0 dX5_readHead_17 rfl rfl ?_
    refine j_geti (k' := 5) f_X5_68 o_71_5 dX5_readHead_18 rfl ?_
    refine j_callVi l_X5_86 ⟨Nat.le_of_ble_eq_true rfl, Nat.le_of_ble_eq_true rfl⟩ ⟨rfl, rfl⟩ dX5_readHead_21 (oba hf) (c_X0_find M_2 f hf ((M_2 71 5)) (by rw [g0]; omega)) rfl rfl (Nat.le_of_ble_eq_true rfl) (fun r_32 M_33 h_34 => ?_)
    obtain ⟨er_32, nh_34⟩ := h_34
    refine j_eqM nh_34 ?_
    clear nh_34
    simp only [(congrFun (frh_3 f (by omega)) 0), (frh_3 (f + 1) (by omega))] at er_32
    have zfd := er_32
    refine j_bipush dX5_readHead_24 (by decide) ?_
    refine j_icmp_eq (tgt := 31) dX5_readHead_26 (by decide) (fun c26_35 => ?_) (fun c26_35 => ?_)
    · skip
      have nd : ¬ hDup b f M (lNx b q) := by first | exact hD_no hf2 f0 (by omega) vv zfd (by omega) | exact hD_no hf2 (cFr_rf M) (by omega) vv zfd (by omega)
      refine j_aload_n 0 dX5_readHead_31 rfl rfl ?_
      refine j_iconst dX5_readHead_32 (by decide) ?_
      refine j_bipush dX5_readHead_33 (by decide) ?_
      refine j_callVi l_X5_90 ⟨Nat.le_of_ble_eq_true rfl, Nat.le_of_ble_eq_true rfl⟩ ⟨rfl, rfl⟩ dX5_readHead_35 ob_71 (c_X5_takeNumber M_2 b (lNx b q) 1 99 (by rw [(sth_3.2.2.2 0 (by decide) (by decide) (by decide) (by decide))]; exact h_ctyped) (by rw [(frh_3 72 (by decide))]; exact h_ctext) t0) rfl rfl (Nat.le_of_ble_eq_true rfl) (fun r_36 M_37 h_38 => ?_)
      obtain ⟨tkh_38, fkh_38⟩ := h_38
      have frh_38 := fkh_38.1
      have y1 := zN n0 tkh_38 rfl (by decide)
      have f1 := cFr_tr f0 fkh_38
      clear tkh_38
      refine j_istore_n (ls' := [(0, jR 71), (1, jI r_36)]) dX5_readHead_38 rfl (by decide) rfl ?_
      refine j_iload_n 1 dX5_readHead_39 rfl rfl ?_
      refine j_bipush dX5_readHead_40 (by decide) ?_
      refine j_icmp_eq (tgt := 54) dX5_readHead_42 (by decide) (fun c42_39 => ?_) (fun c42_39 => ?_)
      · skip
        have zbad := pHb_1 (y1.2 (by omega))
        have zfr := f1
        refine j_iconst dX5_readHead_54 (by decide) ?_
        refine j_zret rfl rfl rfl rfl dX5_readHead_55 (by omega) ?_
        exact Or.inr ⟨nd, Or.inr ⟨rfl, zbad, zfr⟩⟩
      · skip
        have e1 := (y1.1 (by omega)).2
        have t1 : cT b _ (pH1 b (lNx b q)) := (y1.1 (by omega)).1
        have n1 := cT_0 t1
        refine j_aload_n 0 dX5_readHead_45 rfl rfl ?_
        refine j_ldcS (i := 1) (r := (-11)) (by decide) rfl rfl dX5_readHead_46 (by decide) ?_
        refine j_callVi l_X5_95 ⟨Nat.le_of_ble_eq_true rfl, Nat.le_of_ble_eq_true rfl⟩ ⟨rfl, rfl⟩ dX5_readHead_48 ob_71 (c_X5_takeWord M_37 b (pH1 b (lNx b q)) 1 (by decide) (-11) (by rw [(Eq.trans (fkh_38.2 0 (by decide) (by decide) (by decide) (by decide)) (sth_3.2.2.2 0 (by decide) (by decide) (by decide) (by decide)))]; exact h_ctyped) (by rw [(Eq.trans (frh_38 72 (by decide)) (frh_3 72 (by decide)))]; exact h_ctext) t1 (by decide)) rfl rfl (Nat.le_of_ble_eq_true rfl) (fun r_40 M_41 h_42 => ?_)
        obtain ⟨tkh_42, fkh_42⟩ := h_42
        have frh_42 := fkh_42.1
        have tk2 := tkh_42
        rw [hwm] at tk2
        have y2 := zW n1 tk2
        have f2 := cFr_tr f1 fkh_42
        clear tkh_42 tk2
        refine j_if_ne (tgt := 56) dX5_readHead_51 (by decide) (fun c51_43 => ?_) (fun c51_43 => ?_)
        · skip
          have t2 : cT b _ (pH2 b (lNx b q)) := y2.1 (by omega)
          have n2 := cT_0 t2
          refine j_aload_n 0 dX5_readHead_56 rfl rfl ?_
          refine j_iconst dX5_readHead_57 (by decide) ?_
          refine j_sipush dX5_readHead_58 (by decide) ?_
          refine j_callVi l_X5_90 ⟨Nat.le_of_ble_eq_true rfl, Nat.le_of_ble_eq_true rfl⟩ ⟨rfl, rfl⟩ dX5_readHead_61 ob_71 (c_X5_takeNumber M_41 b (pH2 b (lNx b q)) 0 359 (by rw [(Eq.trans (fkh_42.2 0 (by decide) (by decide) (by decide) (by decide)) (Eq.trans (fkh_38.2 0 (by decide) (by decide) (by decide) (by decide)) (sth_3.2.2.2 0 (by decide) (by decide) (by decide) (by decide))))]; exact h_ctyped) (by rw [(Eq.trans (frh_42 72 (by decide)) (Eq.trans (frh_38 72 (by decide)) (frh_3 72 (by decide))))]; exact h_ctext) t2) rfl rfl (Nat.le_of_ble_eq_true rfl) (fun r_44 M_45 h_46 => ?_)
          obtain ⟨tkh_46, fkh_46⟩ := h_46
          have frh_46 := fkh_46.1
          have y3 := zN n2 tkh_46 rfl (by decide)
          have f3 := cFr_tr f2 fkh_46
          clear tkh_46
          refine j_istore_n (ls' := [(0, jR 71), (1, jI r_36), (2, jI r_44)]) dX5_readHead_64 rfl (by decide) rfl ?_
          refine j_iload_n 2 dX5_readHead_65 rfl rfl ?_
          refine j_bipush dX5_readHead_66 (by decide) ?_
          refine j_icmp_eq (tgt := 80) dX5_readHead_68 (by decide) (fun c68_47 => ?_) (fun c68_47 => ?_)
          · skip
            have zbad := pHb_3 (y3.2 (by omega))
            have zfr := f3
            refine j_iconst dX5_readHead_80 (by decide) ?_
            refine j_zret rfl rfl rfl rfl dX5_readHead_81 (by omega) ?_
            exact Or.inr ⟨nd, Or.inr ⟨rfl, zbad, zfr⟩⟩
          · skip
            have e3 := (y3.1 (by omega)).2
            have t3 : cT b _ (pH3 b (lNx b q)) := (y3.1 (by omega)).1
            have n3 := cT_0 t3
            refine j_aload_n 0 dX5_readHead_71 rfl rfl ?_
            refine j_bipush dX5_readHead_72 (by decide) ?_
            refine j_callVi l_X5_98 ⟨Nat.le_of_ble_eq_true rfl, Nat.le_of_ble_eq_true rfl⟩ ⟨rfl, rfl⟩ dX5_readHead_74 ob_71 (c_X5_takeSign M_45 b (pH3 b (lNx b q)) 45 (by rw [(Eq.trans (fkh_46.2 0 (by decide) (by decide) (by decide) (by decide)) (Eq.trans (fkh_42.2 0 (by decide) (by decide) (by decide) (by decide)) (Eq.trans (fkh_38.2 0 (by decide) (by decide) (by decide) (by decide)) (sth_3.2.2.2 0 (by decide) (by decide) (by decide) (by decide)))))]; exact h_ctyped) (by rw [(Eq.trans (frh_46 72 (by decide)) (Eq.trans (frh_42 72 (by decide)) (Eq.trans (frh_38 72 (by decide)) (frh_3 72 (by decide)))))]; exact h_ctext) t3 (by decide)) rfl rfl (Nat.le_of_ble_eq_true rfl) (fun r_48 M_49 h_50 => ?_)
            obtain ⟨tkh_50, fkh_50⟩ := h_50
            have frh_50 := fkh_50.1
            have y4 := zS n3 tkh_50
            have f4 := cFr_tr f3 fkh_50
            clear tkh_50
            refine j_if_ne (tgt := 82) dX5_readHead_77 (by decide) (fun c77_51 => ?_) (fun c77_51 => ?_)
            · skip
              have t4 : cT b _ (pH4 b (lNx b q)) := y4.1 (by omega)
              have n4 := cT_0 t4
              refine j_aload_n 0 dX5_readHead_82 rfl rfl ?_
              refine j_iload_n 2 dX5_readHead_83 rfl rfl ?_
              refine j_sipush dX5_readHead_84 (by decide) ?_
              refine j_callVi l_X5_90 ⟨Nat.le_of_ble_eq_true rfl, Nat.le_of_ble_eq_true rfl⟩ ⟨rfl, rfl⟩ dX5_readHead_87 ob_71 (c_X5_takeNumber M_49 b (pH4 b (lNx b q)) r_44 359 (by rw [(Eq.trans (fkh_50.2 0 (by decide) (by decide) (by decide) (by decide)) (Eq.trans (fkh_46.2 0 (by decide) (by decide) (by decide) (by decide)) (Eq.trans (fkh_42.2 0 (by decide) (by decide) (by decide) (by decide)) (Eq.trans (fkh_38.2 0 (by decide) (by decide) (by decide) (by decide)) (sth_3.2.2.2 0 (by decide) (by decide) (by decide) (by decide))))))]; exact h_ctyped) (by rw [(Eq.trans (frh_50 72 (by decide)) (Eq.trans (frh_46 72 (by decide)) (Eq.trans (frh_42 72 (by decide)) (Eq.trans (frh_38 72 (by decide)) (frh_3 72 (by decide))))))]; exact h_ctext) t4) rfl rfl (Nat.le_of_ble_eq_true rfl) (fun r_52 M_53 h_54 => ?_)
              obtain ⟨tkh_54, fkh_54⟩ := h_54
              have frh_54 := fkh_54.1
              have y5 := zN n4 tkh_54 e3.1 (by omega)
              have f5 := cFr_tr f4 fkh_54
              clear tkh_54
              refine j_istore_n (ls' := [(0, jR 71), (1, jI r_36), (2, jI r_44), (3, jI r_52)]) dX5_readHead_90 rfl (by decide) rfl ?_
              refine j_iload_n 3 dX5_readHead_91 rfl rfl ?_
              refine j_bipush dX5_readHead_92 (by decide) ?_
              refine j_icmp_eq (tgt := 106) dX5_readHead_94 (by decide) (fun c94_55 => ?_) (fun c94_55 => ?_)
              · skip
                have zbad := pHb_5 (y5.2 (by omega))
                have zfr := f5
                refine j_iconst dX5_readHead_106 (by decide) ?_
                refine j_zret rfl rfl rfl rfl dX5_readHead_107 (by omega) ?_
                exact Or.inr ⟨nd, Or.inr ⟨rfl, zbad, zfr⟩⟩
              · skip
                have e5 := (y5.1 (by omega)).2
                have t5 : cT b _ (pH5 b (lNx b q)) := (y5.1 (by omega)).1
                have n5 := cT_0 t5
                refine j_aload_n 0 dX5_readHead_97 rfl rfl ?_
                refine j_bipush dX5_readHead_98 (by decide) ?_
                refine j_callVi l_X5_98 ⟨Nat.le_of_ble_eq_true rfl, Nat.le_of_ble_eq_true rfl⟩ ⟨rfl, rfl⟩ dX5_readHead_100 ob_71 (c_X5_takeSign M_53 b (pH5 b (lNx b q)) 58 (by rw [(Eq.trans (fkh_54.2 0 (by decide) (by decide) (by decide) (by decide)) (Eq.trans (fkh_50.2 0 (by decide) (by decide) (by decide) (by decide)) (Eq.trans (fkh_46.2 0 (by decide) (by decide) (by decide) (by decide)) (Eq.trans (fkh_42.2 0 (by decide) (by decide) (by decide) (by decide)) (Eq.trans (fkh_38.2 0 (by decide) (by decide) (by decide) (by decide)) (sth_3.2.2.2 0 (by decide) (by decide) (by decide) (by decide)))))))]; exact h_ctyped) (by rw [(Eq.trans (frh_54 72 (by decide)) (Eq.trans (frh_50 72 (by decide)) (Eq.trans (frh_46 72 (by decide)) (Eq.trans (frh_42 72 (by decide)) (Eq.trans (frh_38 72 (by decide)) (frh_3 72 (by decide)))))))]; exact h_ctext) t5 (by decide)) rfl rfl (Nat.le_of_ble_eq_true rfl) (fun r_56 M_57 h_58 => ?_)
                obtain ⟨tkh_58, fkh_58⟩ := h_58
                have frh_58 := fkh_58.1
                have y6 := zS n5 tkh_58
                have f6 := cFr_tr f5 fkh_58
                clear tkh_58
                have zh6b : M_57 71 6 = f := by rw [f6.2 6 (by decide) (by decide) (by decide) (by decide)]; exact h6
                refine j_if_ne (tgt := 108) dX5_readHead_103 (by decide) (fun c103_59 => ?_) (fun c103_59 => ?_)
                · skip
                  have t6 : cT b _ (pH6 b (lNx b q)) := y6.1 (by omega)
                  refine j_aload_n 0 dX5_readHead_108 rfl rfl ?_
                  refine j_getd (k' := 6) f_X5_19 o_71_6 dX5_readHead_109 rfl ?_
                  refine j_eqR (y := f) (by first | exact zh6b | exact zh6) ?_
                  refine j_iload_n 1 dX5_readHead_112 rfl rfl ?_
                  refine j_iload_n 2 dX5_readHead_113 rfl rfl ?_
                  refine j_iload_n 3 dX5_readHead_114 rfl rfl ?_
                  refine j_callVv l_X5_102 ⟨Nat.le_of_ble_eq_true rfl, Nat.le_of_ble_eq_true rfl⟩ ⟨rfl, rfl⟩ dX5_readHead_115 (oba hf) (c_X0_add M_57 f hf r_36 r_44 r_52 (by rw [f6.1 f (by omega)]; exact hru)) rfl rfl (Nat.le_of_ble_eq_true rfl) (fun M_61 h_62 => ?_)
                  have adh_62 := h_62
                  unfold q_X0_add at adh_62
                  have frh_62 := adh_62.1
                  refine j_iconst dX5_readHead_118 (by decide) ?_
                  refine j_zret rfl rfl rfl rfl dX5_readHead_119 (by omega) ?_
                  exact hdP_ok hf2 nd t6 f6 adh_62 e1.1 e3.1 e5.1
                · skip
                  have zbad : zBd (pH6 b (lNx b q)) _ := y6.2 (by omega)
                  have zfr := f6
                  refine j_iconst dX5_readHead_106 (by decide) ?_
                  refine j_zret rfl rfl rfl rfl dX5_readHead_107 (by omega) ?_
                  exact Or.inr ⟨nd, Or.inr ⟨rfl, zbad, zfr⟩⟩
            · skip
              have zbad := pHb_4 (y4.2 (by omega))
              have zfr := f4
              refine j_iconst dX5_readHead_80 (by decide) ?_
              refine j_zret rfl rfl rfl rfl dX5_readHead_81 (by omega) ?_
              exact Or.inr ⟨nd, Or.inr ⟨rfl, zbad, zfr⟩⟩
        · skip
          have zbad := pHb_2 (y2.2 (by omega))
          have zfr := f2
          refine j_iconst dX5_readHead_54 (by decide) ?_
          refine j_zret rfl rfl rfl rfl dX5_readHead_55 (by omega) ?_
          exact Or.inr ⟨nd, Or.inr ⟨rfl, zbad, zfr⟩⟩
    · skip
      have yd : hDup b f M (lNx b q) := by first | exact hD_yes hf2 f0 (by omega) vv kk zfd (by omega) | exact hD_yes hf2 (cFr_rf M) (by omega) vv kk zfd (by omega)
      refine j_iconst dX5_readHead_29 (by decide) ?_
      refine j_zret rfl rfl rfl rfl dX5_readHead_30 (by omega) ?_
      exact Or.inl ⟨yd, rfl, z0, f0⟩
