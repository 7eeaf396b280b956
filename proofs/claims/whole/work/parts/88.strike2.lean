abbrev q_X5_readStrike (M : jM) (b : Int → Int) (q f : Int) (hf : jA f)  : Int → jM → Prop := fun r N => skP b f M N (lNx b q) r
set_option maxHeartbeats 4000000 in
set_option maxRecDepth 20000 in
theorem c_X5_readStrike {X : jX} (M : jM) (b : Int → Int) (q f : Int) (hf : jA f)  (h_ctyped : 0 ≤ M 71 0 ∧ M 71 0 ≤ 900) (h_ctext : ∀ i, -128 ≤ M 72 i ∧ M 72 i ≤ 127) (ht : cT b M q) (h6 : M 71 6 = f) (hru : 0 ≤ M f 0 ∧ M f 0 ≤ 16) : jC yX5_readStrike D_X5_readStrike X FJ shJ [jR 71] M (jqI (q_X5_readStrike M b q f hf)) := by
  refine jC_of (by decide) rfl (fun ad => Nat.le_of_ble_eq_true rfl) (by decide) ?_
  show jG D_X5_readStrike X FJ shJ 0 0 (jqI (q_X5_readStrike M b q f hf)) 0 [(0, jR 71)] [] M
  have hf2 : f = 47 ∨ f = 59 := hf
  have hwm : wMap 1 = 1 := by decide
  refine j_aload_n 0 dX5_readStrike_0 rfl rfl ?_
  refine j_callVv l_X5_38 ⟨Nat.le_of_ble_eq_true rfl, Nat.le_of_ble_eq_true rfl⟩ ⟨rfl, rfl⟩ dX5_readStrike_1 ob_71 (c_X5_step M b h_ctyped h_ctext ht.1 (cT_pre ht h_ctyped)) rfl rfl (Nat.le_of_ble_eq_true rfl) (fun M_2 h_3 => ?_)
  have sth_3 := h_3
  unfold q_X5_step at sth_3
  have frh_3 := sth_3.2.2.1
  have t0 := cT_step ht sth_3
  have f0 := sth_3.2.2
  have zh6 : M_2 71 6 = f := by rw [f0.2 6 (by decide) (by decide) (by decide) (by decide)]; exact h6
  have g0 : M_2 f 0 = M f 0 := by rw [f0.1 f (by omega)]
  have n0 := cT_0 t0
  have k0 := (cT_tok t0).2.1
  have v0 := (cT_tok t0).2.2.2.1
  have z0 := (cT_tok t0).1
  have c0 := cK_num (b := b) (q := (lNx b q))
  refine j_aload_n 0 dX5_readStrike_4 rfl rfl ?_
  refine j_geti (k' := 2) f_X5_41 o_71_2 dX5_readStrike_5 rfl ?_
  refine j_bipush dX5_readStrike_8 (by decide) ?_
  refine j_icmp_ne (tgt := 27) dX5_readStrike_10 (by decide) (fun c10_4 => ?_) (fun c10_4 => ?_)
  · skip
    have zX := zFd_k (b := b) (f := f) (M := M) (s := (lNx b q)) (by omega)
    refine j_bipush dX5_readStrike_27 (by decide) ?_
    refine j_istore_n (ls' := [(0, jR 71), (1, jI (-9))]) dX5_readStrike_29 rfl (by decide) rfl ?_
    refine j_iload_n 1 dX5_readStrike_30 rfl rfl ?_
    refine j_bipush dX5_readStrike_31 (by decide) ?_
    refine j_icmp_ne (tgt := 38) dX5_readStrike_33 (by decide) (fun c33_5 => ?_) (fun c33_5 => ?_)
    · skip
      have zY := zFd_y zX (by omega)
      refine j_aload_n 0 dX5_readStrike_38 rfl rfl ?_
      refine j_callVv l_X5_38 ⟨Nat.le_of_ble_eq_true rfl, Nat.le_of_ble_eq_true rfl⟩ ⟨rfl, rfl⟩ dX5_readStrike_39 ob_71 (c_X5_step M_2 b (by rw [(sth_3.2.2.2 0 (by decide) (by decide) (by decide) (by decide))]; exact h_ctyped) (by rw [(frh_3 72 (by decide))]; exact h_ctext) t0.1 (cT_pre t0 (by rw [(sth_3.2.2.2 0 (by decide) (by decide) (by decide) (by decide))]; exact h_ctyped))) rfl rfl (Nat.le_of_ble_eq_true rfl) (fun M_7 h_8 => ?_)
      have sth_8 := h_8
      unfold q_X5_step at sth_8
      have frh_8 := sth_8.2.2.1
      have t1 := cT_step t0 sth_8
      have f1 := cFr_tr f0 sth_8.2.2
      have n1 := cT_0 t1
      refine j_aload_n 0 dX5_readStrike_42 rfl rfl ?_
      refine j_ldcS (i := 1) (r := (-11)) (by decide) rfl rfl dX5_readStrike_43 (by decide) ?_
      refine j_callVi l_X5_95 ⟨Nat.le_of_ble_eq_true rfl, Nat.le_of_ble_eq_true rfl⟩ ⟨rfl, rfl⟩ dX5_readStrike_45 ob_71 (c_X5_takeWord M_7 b (lNx b (lNx b q)) 1 (by decide) (-11) (by rw [(Eq.trans (sth_8.2.2.2 0 (by decide) (by decide) (by decide) (by decide)) (sth_3.2.2.2 0 (by decide) (by decide) (by decide) (by decide)))]; exact h_ctyped) (by rw [(Eq.trans (frh_8 72 (by decide)) (frh_3 72 (by decide)))]; exact h_ctext) t1 (by decide)) rfl rfl (Nat.le_of_ble_eq_true rfl) (fun r_9 M_10 h_11 => ?_)
      obtain ⟨tkh_11, fkh_11⟩ := h_11
      have frh_11 := fkh_11.1
      have tk2 := tkh_11
      rw [hwm] at tk2
      have y2 := zW n1 tk2
      have f2 := cFr_tr f1 fkh_11
      clear tkh_11 tk2
      refine j_if_ne (tgt := 53) dX5_readStrike_48 (by decide) (fun c48_12 => ?_) (fun c48_12 => ?_)
      · skip
        have t2 : cT b _ (pK2 b (lNx b q)) := y2.1 (by omega)
        have n2 := cT_0 t2
        refine j_aload_n 0 dX5_readStrike_53 rfl rfl ?_
        refine j_iconst dX5_readStrike_54 (by decide) ?_
        refine j_sipush dX5_readStrike_55 (by decide) ?_
        refine j_callVi l_X5_90 ⟨Nat.le_of_ble_eq_true rfl, Nat.le_of_ble_eq_true rfl⟩ ⟨rfl, rfl⟩ dX5_readStrike_58 ob_71 (c_X5_takeNumber M_10 b (pK2 b (lNx b q)) 0 359 (by rw [(Eq.trans (fkh_11.2 0 (by decide) (by decide) (by decide) (by decide)) (Eq.trans (sth_8.2.2.2 0 (by decide) (by decide) (by decide) (by decide)) (sth_3.2.2.2 0 (by decide) (by decide) (by decide) (by decide))))]; exact h_ctyped) (by rw [(Eq.trans (frh_11 72 (by decide)) (Eq.trans (frh_8 72 (by decide)) (frh_3 72 (by decide))))]; exact h_ctext) t2) rfl rfl (Nat.le_of_ble_eq_true rfl) (fun r_13 M_14 h_15 => ?_)
        obtain ⟨tkh_15, fkh_15⟩ := h_15
        have frh_15 := fkh_15.1
        have y3 := zN n2 tkh_15 rfl (by decide)
        have f3 := cFr_tr f2 fkh_15
        clear tkh_15
        have zh6b : M_14 71 6 = f := by rw [f3.2 6 (by decide) (by decide) (by decide) (by decide)]; exact h6
        refine j_istore_n (ls' := [(0, jR 71), (1, jI (-9)), (2, jI r_13)]) dX5_readStrike_61 rfl (by decide) rfl ?_
        refine j_iload_n 2 dX5_readStrike_62 rfl rfl ?_
        refine j_bipush dX5_readStrike_63 (by decide) ?_
        refine j_icmp_ne (tgt := 70) dX5_readStrike_65 (by decide) (fun c65_16 => ?_) (fun c65_16 => ?_)
        · skip
          have e3 := (y3.1 (by omega)).2
          have t3 : cT b _ (pK3 b (lNx b q)) := (y3.1 (by omega)).1
          have n3 := cT_0 t3
          refine j_aload_n 0 dX5_readStrike_70 rfl rfl ?_
          refine j_getd (k' := 6) f_X5_19 o_71_6 dX5_readStrike_71 rfl ?_
          refine j_eqR (y := f) (by first | exact zh6b | exact zh6) ?_
          refine j_iload_n 1 dX5_readStrike_74 rfl rfl ?_
          refine j_iload_n 2 dX5_readStrike_75 rfl rfl ?_
          refine j_callVv l_X5_113 ⟨Nat.le_of_ble_eq_true rfl, Nat.le_of_ble_eq_true rfl⟩ ⟨rfl, rfl⟩ dX5_readStrike_76 (oba hf) (c_X0_strike M_14 f hf (-9) r_13 (by have := zY.2.1; omega)) rfl rfl (Nat.le_of_ble_eq_true rfl) (fun M_18 h_19 => ?_)
          have skh_19 := h_19
          unfold q_X0_strike at skh_19
          have frh_19 := skC skh_19
          have sk_ := skh_19
          have t4 := skT hf2 sk_ t3
          refine j_aload_n 0 dX5_readStrike_79 rfl rfl ?_
          refine j_bipush dX5_readStrike_80 (by decide) ?_
          refine j_callVi l_X5_98 ⟨Nat.le_of_ble_eq_true rfl, Nat.le_of_ble_eq_true rfl⟩ ⟨rfl, rfl⟩ dX5_readStrike_82 ob_71 (c_X5_takeSign M_18 b (pK3 b (lNx b q)) 59 (by rw [(Eq.trans (congrFun (frh_19 71 (by omega)) 0) (Eq.trans (fkh_15.2 0 (by decide) (by decide) (by decide) (by decide)) (Eq.trans (fkh_11.2 0 (by decide) (by decide) (by decide) (by decide)) (Eq.trans (sth_8.2.2.2 0 (by decide) (by decide) (by decide) (by decide)) (sth_3.2.2.2 0 (by decide) (by decide) (by decide) (by decide))))))]; exact h_ctyped) (by rw [(Eq.trans (frh_19 72 (by omega)) (Eq.trans (frh_15 72 (by decide)) (Eq.trans (frh_11 72 (by decide)) (Eq.trans (frh_8 72 (by decide)) (frh_3 72 (by decide))))))]; exact h_ctext) t4 (by decide)) rfl rfl (Nat.le_of_ble_eq_true rfl) (fun r_20 M_21 h_22 => ?_)
          obtain ⟨tkh_22, fkh_22⟩ := h_22
          have frh_22 := fkh_22.1
          have tk5 := tkh_22
          have f5 := fkh_22
          refine j_zret rfl rfl rfl rfl dX5_readStrike_85 (by omega) ?_
          exact skP_end hf2 zY f3 sk_ e3.1 n3 tk5 f5
        · skip
          have zbad := pKb_3 (y3.2 (by omega))
          have zfr := skF_fr (f := f) f3
          refine j_iconst dX5_readStrike_68 (by decide) ?_
          refine j_zret rfl rfl rfl rfl dX5_readStrike_69 (by omega) ?_
          exact Or.inr ⟨_, zY, zfr, Or.inl ⟨rfl, zbad⟩⟩
      · skip
        have zbad := pKb_2 (y2.2 (by omega))
        have zfr := skF_fr (f := f) f2
        refine j_iconst dX5_readStrike_51 (by decide) ?_
        refine j_zret rfl rfl rfl rfl dX5_readStrike_52 (by omega) ?_
        exact Or.inr ⟨_, zY, zfr, Or.inl ⟨rfl, zbad⟩⟩
    · skip
      have zNo := zFd_n zX (by omega)
      refine j_iconst dX5_readStrike_36 (by decide) ?_
      refine j_zret rfl rfl rfl rfl dX5_readStrike_37 (by omega) ?_
      exact Or.inl ⟨zNo, rfl, z0, f0⟩
  · skip
    have kk : lK b (lNx b q) = 2 := by omega
    have vv := v0 kk
    refine j_aload_n 0 dX5_readStrike_13 rfl rfl ?_
    refine j_getd (k' := 6) f_X5_19 o_71_6 dX5_readStrike_14 rfl ?_
    refine j_eqR (y := f) (by first | exact zh6b | exact zh6) ?_
    refine j_aload_n 0 dX5_readStrike_17 rfl rfl ?_
    refine j_geti (k' := 5) f_X5_68 o_71_5 dX5_readStrike_18 rfl ?_
    refine j_callVi l_X5_86 ⟨Nat.le_of_ble_eq_true rfl, Nat.le_of_ble_eq_true rfl⟩ ⟨rfl, rfl⟩ dX5_readStrike_21 (oba hf) (c_X0_find M_2 f hf ((M_2 71 5)) (by rw [g0]; omega)) rfl rfl (Nat.le_of_ble_eq_true rfl) (fun r_23 M_24 h_25 => ?_)
    obtain ⟨er_23, nh_25⟩ := h_25
    refine j_eqM nh_25 ?_
    clear nh_25
    simp only [(congrFun (frh_3 f (by omega)) 0), (frh_3 (f + 1) (by omega))] at er_23
    first | have zX := zFd_of hf2 f0 (by omega) vv kk er_23 | have zX := zFd_of hf2 (cFr_rf M) (by omega) vv kk er_23
    refine j_goto (tgt := 29) dX5_readStrike_24 (by decide) ?_
    refine j_istore_n (ls' := [(0, jR 71), (1, jI r_23)]) dX5_readStrike_29 rfl (by decide) rfl ?_
    refine j_iload_n 1 dX5_readStrike_30 rfl rfl ?_
    refine j_bipush dX5_readStrike_31 (by decide) ?_
    refine j_icmp_ne (tgt := 38) dX5_readStrike_33 (by decide) (fun c33_26 => ?_) (fun c33_26 => ?_)
    · skip
      have zY := zFd_y zX (by omega)
      refine j_aload_n 0 dX5_readStrike_38 rfl rfl ?_
      refine j_callVv l_X5_38 ⟨Nat.le_of_ble_eq_true rfl, Nat.le_of_ble_eq_true rfl⟩ ⟨rfl, rfl⟩ dX5_readStrike_39 ob_71 (c_X5_step M_2 b (by rw [(sth_3.2.2.2 0 (by decide) (by decide) (by decide) (by decide))]; exact h_ctyped) (by rw [(frh_3 72 (by decide))]; exact h_ctext) t0.1 (cT_pre t0 (by rw [(sth_3.2.2.2 0 (by decide) (by decide) (by decide) (by decide))]; exact h_ctyped))) rfl rfl (Nat.le_of_ble_eq_true rfl) (fun M_28 h_29 => ?_)
      have sth_29 := h_29
      unfold q_X5_step at sth_29
      have frh_29 := sth_29.2.2.1
      have t1 := cT_step t0 sth_29
      have f1 := cFr_tr f0 sth_29.2.2
      have n1 := cT_0 t1
      refine j_aload_n 0 dX5_readStrike_42 rfl rfl ?_
      refine j_ldcS (i := 1) (r := (-11)) (by decide) rfl rfl dX5_readStrike_43 (by decide) ?_
      refine j_callVi l_X5_95 ⟨Nat.le_of_ble_eq_true rfl, Nat.le_of_ble_eq_true rfl⟩ ⟨rfl, rfl⟩ dX5_readStrike_45 ob_71 (c_X5_takeWord M_28 b (lNx b (lNx b q)) 1 (by decide) (-11) (by rw [(Eq.trans (sth_29.2.2.2 0 (by decide) (by decide) (by decide) (by decide)) (sth_3.2.2.2 0 (by decide) (by decide) (by decide) (by decide)))]; exact h_ctyped) (by rw [(Eq.trans (frh_29 72 (by decide)) (frh_3 72 (by decide)))]; exact h_ctext) t1 (by decide)) rfl rfl (Nat.le_of_ble_eq_true rfl) (fun r_30 M_31 h_32 => ?_)
      obtain ⟨tkh_32, fkh_32⟩ := h_32
      have frh_32 := fkh_32.1
      have tk2 := tkh_32
      rw [hwm] at tk2
      have y2 := zW n1 tk2
      have f2 := cFr_tr f1 fkh_32
      clear tkh_32 tk2
      refine j_if_ne (tgt := 53) dX5_readStrike_48 (by decide) (fun c48_33 => ?_) (fun c48_33 => ?_)
      · skip
        have t2 : cT b _ (pK2 b (lNx b q)) := y2.1 (by omega)
        have n2 := cT_0 t2
        refine j_aload_n 0 dX5_readStrike_53 rfl rfl ?_
        refine j_iconst dX5_readStrike_54 (by decide) ?_
        refine j_sipush dX5_readStrike_55 (by decide) ?_
        refine j_callVi l_X5_90 ⟨Nat.le_of_ble_eq_true rfl, Nat.le_of_ble_eq_true rfl⟩ ⟨rfl, rfl⟩ dX5_readStrike_58 ob_71 (c_X5_takeNumber M_31 b (pK2 b (lNx b q)) 0 359 (by rw [(Eq.trans (fkh_32.2 0 (by decide) (by decide) (by decide) (by decide)) (Eq.trans (sth_29.2.2.2 0 (by decide) (by decide) (by decide) (by decide)) (sth_3.2.2.2 0 (by decide) (by decide) (by decide) (by decide))))]; exact h_ctyped) (by rw [(Eq.trans (frh_32 72 (by decide)) (Eq.trans (frh_29 72 (by decide)) (frh_3 72 (by decide))))]; exact h_ctext) t2) rfl rfl (Nat.le_of_ble_eq_true rfl) (fun r_34 M_35 h_36 => ?_)
        obtain ⟨tkh_36, fkh_36⟩ := h_36
        have frh_36 := fkh_36.1
        have y3 := zN n2 tkh_36 rfl (by decide)
        have f3 := cFr_tr f2 fkh_36
        clear tkh_36
        have zh6b : M_35 71 6 = f := by rw [f3.2 6 (by decide) (by decide) (by decide) (by decide)]; exact h6
        refine j_istore_n (ls' := [(0, jR 71), (1, jI r_23), (2, jI r_34)]) dX5_readStrike_61 rfl (by decide) rfl ?_
        refine j_iload_n 2 dX5_readStrike_62 rfl rfl ?_
        refine j_bipush dX5_readStrike_63 (by decide) ?_
        refine j_icmp_ne (tgt := 70) dX5_readStrike_65 (by decide) (fun c65_37 => ?_) (fun c65_37 => ?_)
        · skip
          have e3 := (y3.1 (by omega)).2
          have t3 : cT b _ (pK3 b (lNx b q)) := (y3.1 (by omega)).1
          have n3 := cT_0 t3
          refine j_aload_n 0 dX5_readStrike_70 rfl rfl ?_
          refine j_getd (k' := 6) f_X5_19 o_71_6 dX5_readStrike_71 rfl ?_
          refine j_eqR (y := f) (by first | exact zh6b | exact zh6) ?_
          refine j_iload_n 1 dX5_readStrike_74 rfl rfl ?_
          refine j_iload_n 2 dX5_readStrike_75 rfl rfl ?_
          refine j_callVv l_X5_113 ⟨Nat.le_of_ble_eq_true rfl, Nat.le_of_ble_eq_true rfl⟩ ⟨rfl, rfl⟩ dX5_readStrike_76 (oba hf) (c_X0_strike M_35 f hf r_23 r_34 (by have := zY.2.1; omega)) rfl rfl (Nat.le_of_ble_eq_true rfl) (fun M_39 h_40 => ?_)
          have skh_40 := h_40
          unfold q_X0_strike at skh_40
          have frh_40 := skC skh_40
          have sk_ := skh_40
          have t4 := skT hf2 sk_ t3
          refine j_aload_n 0 dX5_readStrike_79 rfl rfl ?_
          refine j_bipush dX5_readStrike_80 (by decide) ?_
          refine j_callVi l_X5_98 ⟨Nat.le_of_ble_eq_true rfl, Nat.le_of_ble_eq_true rfl⟩ ⟨rfl, rfl⟩ dX5_readStrike_82 ob_71 (c_X5_takeSign M_39 b (pK3 b (lNx b q)) 59 (by rw [(Eq.trans (congrFun (frh_40 71 (by omega)) 0) (Eq.trans (fkh_36.2 0 (by decide) (by decide) (by decide) (by decide)) (Eq.trans (fkh_32.2 0 (by decide) (by decide) (by decide) (by decide)) (Eq.trans (sth_29.2.2.2 0 (by decide) (by decide) (by decide) (by decide)) (sth_3.2.2.2 0 (by decide) (by decide) (by decide) (by decide))))))]; exact h_ctyped) (by rw [(Eq.trans (frh_40 72 (by omega)) (Eq.trans (frh_36 72 (by decide)) (Eq.trans (frh_32 72 (by decide)) (Eq.trans (frh_29 72 (by decide)) (frh_3 72 (by decide))))))]; exact h_ctext) t4 (by decide)) rfl rfl (Nat.le_of_ble_eq_true rfl) (fun r_41 M_42 h_43 => ?_)
          obtain ⟨tkh_43, fkh_43⟩ := h_43
          have frh_43 := fkh_43.1
          have tk5 := tkh_43
          have f5 := fkh_43
          refine j_zret rfl rfl rfl rfl dX5_readStrike_85 (by omega) ?_
          exact skP_end hf2 zY f3 sk_ e3.1 n3 tk5 f5
        · skip
          have zbad := pKb_3 (y3.2 (by omega))
          have zfr := skF_fr (f := f) f3
          refine j_iconst dX5_readStrike_68 (by decide) ?_
          refine j_zret rfl rfl rfl rfl dX5_readStrike_69 (by omega) ?_
          exact Or.inr ⟨_, zY, zfr, Or.inl ⟨rfl, zbad⟩⟩
      · skip
        have zbad := pKb_2 (y2.2 (by omega))
        have zfr := skF_fr (f := f) f2
        refine j_iconst dX5_readStrike_51 (by decide) ?_
        refine j_zret rfl rfl rfl rfl dX5_readStrike_52 (by omega) ?_
        exact Or.inr ⟨_, zY, zfr, Or.inl ⟨rfl, zbad⟩⟩
    · skip
      have zNo := zFd_n zX (by omega)
      refine j_iconst dX5_readStrike_36 (by decide) ?_
      refine j_zret rfl rfl rfl rfl dX5_readStrike_37 (by omega) ?_
      exact Or.inl ⟨zNo, rfl, z0, f0⟩
