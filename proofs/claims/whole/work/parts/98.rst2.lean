abbrev q_X9_readsStrike (M : jM) (b : Int → Int) (A : pSt)  : jM → Prop := fun N => rsP b A M N
set_option maxHeartbeats 4000000 in
set_option maxRecDepth 20000 in
theorem c_X9_readsStrike {X : jX} (M : jM) (b : Int → Int) (A : pSt)  (h_rtyped : 0 ≤ M 74 14 ∧ M 74 14 ≤ 900) (h_rtext : ∀ i, 0 ≤ M 84 i ∧ M 84 i ≤ 255) (h_rwords : ∀ k, 0 ≤ k → k < 16 → M 75 k = wVal k) (hp0 : rP b M A.1) (h0 : 0 ≤ A.1) (hn : 0 ≤ A.2.1 ∧ A.2.1 ≤ 16) (hR : rAr M A) (hk : lK b A.1 = 1 ∧ lV b A.1 = 4) : jC yX9_readsStrike D_X9_readsStrike X FJ shJ [jR 74] M (jqV (q_X9_readsStrike M b A)) := by
  refine jC_of (by decide) rfl (fun ad => Nat.le_of_ble_eq_true rfl) (by decide) ?_
  show jG D_X9_readsStrike X FJ shJ 0 0 (jqV (q_X9_readsStrike M b A)) 0 [(0, jR 74)] [] M
  have hbk := rP_bok hp0 h_rtyped h_rtext
  have hs : A.1 ≤ M 74 14 := (rP_well hp0 h0).2.2.2.2.2
  have nx := lNx_lt hbk h0 hs (by omega)
  have r21 := hR.1
  have r24 := hR.2.1
  have w19m := (rP_well hp0 h0).1
  refine j_aload_n 0 dX9_readsStrike_0 rfl rfl ?_
  refine j_callVv l_X9_210 ⟨Nat.le_of_ble_eq_true rfl, Nat.le_of_ble_eq_true rfl⟩ ⟨rfl, rfl⟩ dX9_readsStrike_1 ob_74 (c_X9_advances M b h_rtyped h_rtext h_rwords hp0.1 (rP_pre hp0 h0 h_rtyped h_rtext)) rfl rfl (Nat.le_of_ble_eq_true rfl) (fun M_2 h_3 => ?_)
  have adh_3 := h_3
  unfold q_X9_advances at adh_3
  have frh_3 := adh_3.2.2.1
  have zp0 := rP_adv hp0 h0 adh_3
  have zf0 := rF2_of adh_3.2.2
  have wb := rP_well zp0 (by omega)
  have b16 := wb.2.2.1
  have b18 := wb.2.2.2.1
  have b19 := wb.1
  have z14 : M_2 74 14 = M 74 14 := zf0.2 14 (by decide) (by decide) (by decide) (by decide) (by decide)
  have z21 : M_2 74 21 = M 74 21 := zf0.2 21 (by decide) (by decide) (by decide) (by decide) (by decide)
  have z85 : M_2 85 = M 85 := zf0.1 85 (by decide)
  clear wb
  refine j_aload_n 0 dX9_readsStrike_4 rfl rfl ?_
  refine j_callVi l_X9_203 ⟨Nat.le_of_ble_eq_true rfl, Nat.le_of_ble_eq_true rfl⟩ ⟨rfl, rfl⟩ dX9_readsStrike_5 ob_74 (c_X9_isWell M_2) rfl rfl (Nat.le_of_ble_eq_true rfl) (fun r_4 M_5 h_6 => ?_)
  obtain ⟨er_4, nh_6⟩ := h_6
  refine j_eqM nh_6 ?_
  clear nh_6
  simp only [(adh_3.2.2.2 19 (by decide) (by decide) (by decide) (by decide))] at er_4
  refine j_if_eq (tgt := 30) dX9_readsStrike_8 (by decide) (fun c8_7 => ?_) (fun c8_7 => ?_)
  · skip
    exfalso; omega
  · skip
    refine j_aload_n 0 dX9_readsStrike_11 rfl rfl ?_
    refine j_geti (k' := 16) f_X9_191 o_74_16 dX9_readsStrike_12 rfl ?_
    refine j_iconst dX9_readsStrike_15 (by decide) ?_
    refine j_icmp_ne (tgt := 30) dX9_readsStrike_16 (by decide) (fun c16_8 => ?_) (fun c16_8 => ?_)
    · skip
      refine j_iconst dX9_readsStrike_30 (by decide) ?_
      refine j_istore_n (ls' := [(0, jR 74), (1, jI (-1))]) dX9_readsStrike_31 rfl (by decide) rfl ?_
      refine j_iload_n 1 dX9_readsStrike_32 rfl rfl ?_
      refine j_if_ge (tgt := 41) dX9_readsStrike_33 (by decide) (fun c33_9 => ?_) (fun c33_9 => ?_)
      · skip
        have zy : pFd b A.2.2 A.2.1 (lNx b A.1) = (-1) ∧ (-1) < A.2.1 := by first | exact rQ_y hR (fun j z => rfl) hn.1 r21 (show lK b (lNx b A.1) = 2 by omega) (b18 (by omega) (by omega)) zfd (by omega) | (exfalso; omega)
        refine j_aload_n 0 dX9_readsStrike_41 rfl rfl ?_
        refine j_callVv l_X9_210 ⟨Nat.le_of_ble_eq_true rfl, Nat.le_of_ble_eq_true rfl⟩ ⟨rfl, rfl⟩ dX9_readsStrike_42 ob_74 (c_X9_advances M_2 b (by rw [(adh_3.2.2.2 14 (by decide) (by decide) (by decide) (by decide))]; exact h_rtyped) (by rw [(frh_3 84 (by decide))]; exact h_rtext) (by rw [(frh_3 75 (by decide))]; exact h_rwords) zp0.1 (rP_pre2 zp0 (by omega) hbk z14)) rfl rfl (Nat.le_of_ble_eq_true rfl) (fun M_11 h_12 => ?_)
        have adh_12 := h_12
        unfold q_X9_advances at adh_12
        have frh_12 := adh_12.2.2.1
        have zp1 := rP_adv zp0 (by omega) adh_12
        have zf1 := rF2_tr zf0 (rF2_of adh_12.2.2)
        refine j_aload_n 0 dX9_readsStrike_45 rfl rfl ?_
        refine j_iconst dX9_readsStrike_46 (by decide) ?_
        refine j_callVv l_X9_235 ⟨Nat.le_of_ble_eq_true rfl, Nat.le_of_ble_eq_true rfl⟩ ⟨rfl, rfl⟩ dX9_readsStrike_47 ob_74 (c_X9_takesWord M_11 b (lNx b (lNx b A.1)) 1 (by rw [(Eq.trans (adh_12.2.2.2 14 (by decide) (by decide) (by decide) (by decide)) (adh_3.2.2.2 14 (by decide) (by decide) (by decide) (by decide)))]; exact h_rtyped) (by rw [(Eq.trans (frh_12 84 (by decide)) (frh_3 84 (by decide)))]; exact h_rtext) (by rw [(Eq.trans (frh_12 75 (by decide)) (frh_3 75 (by decide)))]; exact h_rwords) zp1) rfl rfl (Nat.le_of_ble_eq_true rfl) (fun M_14 h_15 => ?_)
        obtain ⟨rkh_15, fkh_15⟩ := h_15
        have frh_15 := fkh_15.1
        have zp2 : rP b M_14 (pK2 b (lNx b A.1)) := rkh_15
        have zf2 := rF2_tr zf1 fkh_15
        refine j_aload_n 0 dX9_readsStrike_50 rfl rfl ?_
        refine j_iconst dX9_readsStrike_51 (by decide) ?_
        refine j_sipush dX9_readsStrike_52 (by decide) ?_
        refine j_callVi l_X9_228 ⟨Nat.le_of_ble_eq_true rfl, Nat.le_of_ble_eq_true rfl⟩ ⟨rfl, rfl⟩ dX9_readsStrike_55 ob_74 (c_X9_takesNumber M_14 b (pK2 b (lNx b A.1)) 0 359 (by rw [(Eq.trans (fkh_15.2 14 (by decide) (by decide) (by decide) (by decide) (by decide)) (Eq.trans (adh_12.2.2.2 14 (by decide) (by decide) (by decide) (by decide)) (adh_3.2.2.2 14 (by decide) (by decide) (by decide) (by decide))))]; exact h_rtyped) (by rw [(Eq.trans (frh_15 84 (by decide)) (Eq.trans (frh_12 84 (by decide)) (frh_3 84 (by decide))))]; exact h_rtext) (by rw [(Eq.trans (frh_15 75 (by decide)) (Eq.trans (frh_12 75 (by decide)) (frh_3 75 (by decide))))]; exact h_rwords) zp2) rfl rfl (Nat.le_of_ble_eq_true rfl) (fun r_16 M_17 h_18 => ?_)
        obtain ⟨rvh_18, rkh_18, fkh_18⟩ := h_18
        have frh_18 := fkh_18.1
        have zp3 : rP b M_17 (pK3 b (lNx b A.1)) := rkh_18
        have zf3 := rF2_tr zf2 fkh_18
        have zd := rvh_18
        refine j_istore_n (ls' := [(0, jR 74), (1, jI (-1)), (2, jI r_16)]) dX9_readsStrike_58 rfl (by decide) rfl ?_
        refine j_aload_n 0 dX9_readsStrike_59 rfl rfl ?_
        refine j_bipush dX9_readsStrike_60 (by decide) ?_
        refine j_callVv l_X9_231 ⟨Nat.le_of_ble_eq_true rfl, Nat.le_of_ble_eq_true rfl⟩ ⟨rfl, rfl⟩ dX9_readsStrike_62 ob_74 (c_X9_takesSign M_17 b (pK3 b (lNx b A.1)) 59 (by rw [(Eq.trans (fkh_18.2 14 (by decide) (by decide) (by decide) (by decide) (by decide)) (Eq.trans (fkh_15.2 14 (by decide) (by decide) (by decide) (by decide) (by decide)) (Eq.trans (adh_12.2.2.2 14 (by decide) (by decide) (by decide) (by decide)) (adh_3.2.2.2 14 (by decide) (by decide) (by decide) (by decide)))))]; exact h_rtyped) (by rw [(Eq.trans (frh_18 84 (by decide)) (Eq.trans (frh_15 84 (by decide)) (Eq.trans (frh_12 84 (by decide)) (frh_3 84 (by decide)))))]; exact h_rtext) (by rw [(Eq.trans (frh_18 75 (by decide)) (Eq.trans (frh_15 75 (by decide)) (Eq.trans (frh_12 75 (by decide)) (frh_3 75 (by decide)))))]; exact h_rwords) zp3) rfl rfl (Nat.le_of_ble_eq_true rfl) (fun M_20 h_21 => ?_)
        obtain ⟨rkh_21, fkh_21⟩ := h_21
        have frh_21 := fkh_21.1
        have zp4 : rP b M_20 (pK4 b (lNx b A.1)) := rkh_21
        have zf4 := rF2_tr zf3 fkh_21
        have w4 := rP_19 zp4
        refine j_sipush dX9_readsStrike_65 (by decide) ?_
        refine j_bipush dX9_readsStrike_68 (by decide) ?_
        refine j_iload_n 1 dX9_readsStrike_70 rfl rfl ?_
        refine j_imul dX9_readsStrike_71 (by omega) ?_
        refine j_iadd dX9_readsStrike_72 (by omega) ?_
        refine j_iconst dX9_readsStrike_73 (by decide) ?_
        refine j_iadd dX9_readsStrike_74 (by omega) ?_
        refine j_nm (fun v3_22 ev3_22 => ?_)
        refine j_istore_n (ls' := [(0, jR 74), (1, jI (-1)), (2, jI r_16), (3, jI v3_22)]) dX9_readsStrike_75 rfl (by decide) rfl ?_
        have zat : v3_22 = 320 + 20 * (-1) + 3 := by omega
        refine j_aload_n 0 dX9_readsStrike_76 rfl rfl ?_
        refine j_callVi l_X9_203 ⟨Nat.le_of_ble_eq_true rfl, Nat.le_of_ble_eq_true rfl⟩ ⟨rfl, rfl⟩ dX9_readsStrike_77 ob_74 (c_X9_isWell M_20) rfl rfl (Nat.le_of_ble_eq_true rfl) (fun r_23 M_24 h_25 => ?_)
        obtain ⟨er_23, nh_25⟩ := h_25
        refine j_eqM nh_25 ?_
        clear nh_25
        refine j_if_eq (tgt := 111) dX9_readsStrike_80 (by decide) (fun c80_26 => ?_) (fun c80_26 => ?_)
        · skip
          have z4 : pK4 b (lNx b A.1) < 0 := by omega
          refine j_vret rfl rfl rfl rfl dX9_readsStrike_111 ?_
          first | exact rsP_sn hk (by omega) z4 zp4 zf4 | exact rsP_so hbk h0 hs hk hR zy (by omega) z4 zp4 zf4 zd (Or.inl ⟨by rw [← zat]; omega, by rw [← zat, jup_zz]⟩) | exact rsP_so hbk h0 hs hk hR zy (by omega) z4 zp4 zf4 zd (Or.inr ⟨by rw [← zat]; omega, rfl⟩)
        · skip
          have z4 : 0 ≤ pK4 b (lNx b A.1) := by omega
          refine j_aload_n 0 dX9_readsStrike_83 rfl rfl ?_
          refine j_getr f_X9_41 r_74_22 dX9_readsStrike_84 ?_
          refine j_iload_n 3 dX9_readsStrike_87 rfl rfl ?_
          refine j_iald a_85 dX9_readsStrike_88 (by omega) (by omega) ?_
          refine j_eq (Eq.trans (congrFun (frh_21 85 (by decide)) v3_22) (Eq.trans (congrFun (frh_18 85 (by decide)) v3_22) (Eq.trans (congrFun (frh_15 85 (by decide)) v3_22) (Eq.trans (congrFun (frh_12 85 (by decide)) v3_22) (congrFun (frh_3 85 (by decide)) v3_22))))) ?_
          refine j_bipush dX9_readsStrike_89 (by decide) ?_
          refine j_icmp_eq (tgt := 104) dX9_readsStrike_91 (by decide) (fun c91_27 => ?_) (fun c91_27 => ?_)
          · skip
            refine j_aload_n 0 dX9_readsStrike_104 rfl rfl ?_
            refine j_getr f_X9_41 r_74_22 dX9_readsStrike_105 ?_
            refine j_iload_n 3 dX9_readsStrike_108 rfl rfl ?_
            refine j_iload_n 2 dX9_readsStrike_109 rfl rfl ?_
            refine j_iast a_85 dX9_readsStrike_110 (by omega) (by omega) ?_
            refine j_nmM (fun M_28 eM_28 => ?_)
            refine j_vret rfl rfl rfl rfl dX9_readsStrike_111 ?_
            first | exact rsP_sn hk (by omega) z4 zp4 zf4 | exact rsP_so hbk h0 hs hk hR zy (by omega) z4 zp4 zf4 zd (Or.inl ⟨by rw [← zat]; omega, by rw [← zat, eM_28]⟩) | exact rsP_so hbk h0 hs hk hR zy (by omega) z4 zp4 zf4 zd (Or.inr ⟨by rw [← zat]; omega, rfl⟩)
          · skip
            refine j_iload_n 2 dX9_readsStrike_94 rfl rfl ?_
            refine j_aload_n 0 dX9_readsStrike_95 rfl rfl ?_
            refine j_getr f_X9_41 r_74_22 dX9_readsStrike_96 ?_
            refine j_iload_n 3 dX9_readsStrike_99 rfl rfl ?_
            refine j_iald a_85 dX9_readsStrike_100 (by omega) (by omega) ?_
            refine j_eq (Eq.trans (congrFun (frh_21 85 (by decide)) v3_22) (Eq.trans (congrFun (frh_18 85 (by decide)) v3_22) (Eq.trans (congrFun (frh_15 85 (by decide)) v3_22) (Eq.trans (congrFun (frh_12 85 (by decide)) v3_22) (congrFun (frh_3 85 (by decide)) v3_22))))) ?_
            refine j_icmp_ge (tgt := 111) dX9_readsStrike_101 (by decide) (fun c101_29 => ?_) (fun c101_29 => ?_)
            · skip
              refine j_vret rfl rfl rfl rfl dX9_readsStrike_111 ?_
              first | exact rsP_sn hk (by omega) z4 zp4 zf4 | exact rsP_so hbk h0 hs hk hR zy (by omega) z4 zp4 zf4 zd (Or.inl ⟨by rw [← zat]; omega, by rw [← zat, jup_zz]⟩) | exact rsP_so hbk h0 hs hk hR zy (by omega) z4 zp4 zf4 zd (Or.inr ⟨by rw [← zat]; omega, rfl⟩)
            · skip
              refine j_aload_n 0 dX9_readsStrike_104 rfl rfl ?_
              refine j_getr f_X9_41 r_74_22 dX9_readsStrike_105 ?_
              refine j_iload_n 3 dX9_readsStrike_108 rfl rfl ?_
              refine j_iload_n 2 dX9_readsStrike_109 rfl rfl ?_
              refine j_iast a_85 dX9_readsStrike_110 (by omega) (by omega) ?_
              refine j_nmM (fun M_30 eM_30 => ?_)
              refine j_vret rfl rfl rfl rfl dX9_readsStrike_111 ?_
              first | exact rsP_sn hk (by omega) z4 zp4 zf4 | exact rsP_so hbk h0 hs hk hR zy (by omega) z4 zp4 zf4 zd (Or.inl ⟨by rw [← zat]; omega, by rw [← zat, eM_30]⟩) | exact rsP_so hbk h0 hs hk hR zy (by omega) z4 zp4 zf4 zd (Or.inr ⟨by rw [← zat]; omega, rfl⟩)
      · skip
        have zn : pFd b A.2.2 A.2.1 (lNx b A.1) < 0 := by first | exact rQ_n2 hR hn.1 r21 (b18 (by omega) (by omega)) zfd (by omega) | exact pFd_k (by omega)
        refine j_aload_n 0 dX9_readsStrike_36 rfl rfl ?_
        refine j_callVv l_X9_213 ⟨Nat.le_of_ble_eq_true rfl, Nat.le_of_ble_eq_true rfl⟩ ⟨rfl, rfl⟩ dX9_readsStrike_37 ob_74 (c_X9_fails M_2 b (lNx b A.1) zp0) rfl rfl (Nat.le_of_ble_eq_true rfl) (fun M_32 h_33 => ?_)
        obtain ⟨rkh_33, fkh_33⟩ := h_33
        have frh_33 := fkh_33.1
        refine j_vret rfl rfl rfl rfl dX9_readsStrike_40 ?_
        exact rsP_sd hbk h0 hs hk zn rkh_33 (rF2_tr zf0 fkh_33)
    · skip
      refine j_aload_n 0 dX9_readsStrike_19 rfl rfl ?_
      refine j_aload_n 0 dX9_readsStrike_20 rfl rfl ?_
      refine j_geti (k' := 18) f_X9_194 o_74_18 dX9_readsStrike_21 rfl ?_
      refine j_callVi l_X9_238 ⟨Nat.le_of_ble_eq_true rfl, Nat.le_of_ble_eq_true rfl⟩ ⟨rfl, rfl⟩ dX9_readsStrike_24 ob_74 (c_X9_find M_2 ((M_2 74 18)) (by omega)) rfl rfl (Nat.le_of_ble_eq_true rfl) (fun r_34 M_35 h_36 => ?_)
      obtain ⟨er_34, nh_36⟩ := h_36
      refine j_eqM nh_36 ?_
      clear nh_36
      simp only [(adh_3.2.2.2 21 (by decide) (by decide) (by decide) (by decide)), (frh_3 85 (by decide))] at er_34
      have zfd := er_34
      refine j_goto (tgt := 31) dX9_readsStrike_27 (by decide) ?_
      refine j_istore_n (ls' := [(0, jR 74), (1, jI r_34)]) dX9_readsStrike_31 rfl (by decide) rfl ?_
      refine j_iload_n 1 dX9_readsStrike_32 rfl rfl ?_
      refine j_if_ge (tgt := 41) dX9_readsStrike_33 (by decide) (fun c33_37 => ?_) (fun c33_37 => ?_)
      · skip
        have zy : pFd b A.2.2 A.2.1 (lNx b A.1) = r_34 ∧ r_34 < A.2.1 := by first | exact rQ_y hR (fun j z => rfl) hn.1 r21 (show lK b (lNx b A.1) = 2 by omega) (b18 (by omega) (by omega)) zfd (by omega) | (exfalso; omega)
        refine j_aload_n 0 dX9_readsStrike_41 rfl rfl ?_
        refine j_callVv l_X9_210 ⟨Nat.le_of_ble_eq_true rfl, Nat.le_of_ble_eq_true rfl⟩ ⟨rfl, rfl⟩ dX9_readsStrike_42 ob_74 (c_X9_advances M_2 b (by rw [(adh_3.2.2.2 14 (by decide) (by decide) (by decide) (by decide))]; exact h_rtyped) (by rw [(frh_3 84 (by decide))]; exact h_rtext) (by rw [(frh_3 75 (by decide))]; exact h_rwords) zp0.1 (rP_pre2 zp0 (by omega) hbk z14)) rfl rfl (Nat.le_of_ble_eq_true rfl) (fun M_39 h_40 => ?_)
        have adh_40 := h_40
        unfold q_X9_advances at adh_40
        have frh_40 := adh_40.2.2.1
        have zp1 := rP_adv zp0 (by omega) adh_40
        have zf1 := rF2_tr zf0 (rF2_of adh_40.2.2)
        refine j_aload_n 0 dX9_readsStrike_45 rfl rfl ?_
        refine j_iconst dX9_readsStrike_46 (by decide) ?_
        refine j_callVv l_X9_235 ⟨Nat.le_of_ble_eq_true rfl, Nat.le_of_ble_eq_true rfl⟩ ⟨rfl, rfl⟩ dX9_readsStrike_47 ob_74 (c_X9_takesWord M_39 b (lNx b (lNx b A.1)) 1 (by rw [(Eq.trans (adh_40.2.2.2 14 (by decide) (by decide) (by decide) (by decide)) (adh_3.2.2.2 14 (by decide) (by decide) (by decide) (by decide)))]; exact h_rtyped) (by rw [(Eq.trans (frh_40 84 (by decide)) (frh_3 84 (by decide)))]; exact h_rtext) (by rw [(Eq.trans (frh_40 75 (by decide)) (frh_3 75 (by decide)))]; exact h_rwords) zp1) rfl rfl (Nat.le_of_ble_eq_true rfl) (fun M_42 h_43 => ?_)
        obtain ⟨rkh_43, fkh_43⟩ := h_43
        have frh_43 := fkh_43.1
        have zp2 : rP b M_42 (pK2 b (lNx b A.1)) := rkh_43
        have zf2 := rF2_tr zf1 fkh_43
        refine j_aload_n 0 dX9_readsStrike_50 rfl rfl ?_
        refine j_iconst dX9_readsStrike_51 (by decide) ?_
        refine j_sipush dX9_readsStrike_52 (by decide) ?_
        refine j_callVi l_X9_228 ⟨Nat.le_of_ble_eq_true rfl, Nat.le_of_ble_eq_true rfl⟩ ⟨rfl, rfl⟩ dX9_readsStrike_55 ob_74 (c_X9_takesNumber M_42 b (pK2 b (lNx b A.1)) 0 359 (by rw [(Eq.trans (fkh_43.2 14 (by decide) (by decide) (by decide) (by decide) (by decide)) (Eq.trans (adh_40.2.2.2 14 (by decide) (by decide) (by decide) (by decide)) (adh_3.2.2.2 14 (by decide) (by decide) (by decide) (by decide))))]; exact h_rtyped) (by rw [(Eq.trans (frh_43 84 (by decide)) (Eq.trans (frh_40 84 (by decide)) (frh_3 84 (by decide))))]; exact h_rtext) (by rw [(Eq.trans (frh_43 75 (by decide)) (Eq.trans (frh_40 75 (by decide)) (frh_3 75 (by decide))))]; exact h_rwords) zp2) rfl rfl (Nat.le_of_ble_eq_true rfl) (fun r_44 M_45 h_46 => ?_)
        obtain ⟨rvh_46, rkh_46, fkh_46⟩ := h_46
        have frh_46 := fkh_46.1
        have zp3 : rP b M_45 (pK3 b (lNx b A.1)) := rkh_46
        have zf3 := rF2_tr zf2 fkh_46
        have zd := rvh_46
        refine j_istore_n (ls' := [(0, jR 74), (1, jI r_34), (2, jI r_44)]) dX9_readsStrike_58 rfl (by decide) rfl ?_
        refine j_aload_n 0 dX9_readsStrike_59 rfl rfl ?_
        refine j_bipush dX9_readsStrike_60 (by decide) ?_
        refine j_callVv l_X9_231 ⟨Nat.le_of_ble_eq_true rfl, Nat.le_of_ble_eq_true rfl⟩ ⟨rfl, rfl⟩ dX9_readsStrike_62 ob_74 (c_X9_takesSign M_45 b (pK3 b (lNx b A.1)) 59 (by rw [(Eq.trans (fkh_46.2 14 (by decide) (by decide) (by decide) (by decide) (by decide)) (Eq.trans (fkh_43.2 14 (by decide) (by decide) (by decide) (by decide) (by decide)) (Eq.trans (adh_40.2.2.2 14 (by decide) (by decide) (by decide) (by decide)) (adh_3.2.2.2 14 (by decide) (by decide) (by decide) (by decide)))))]; exact h_rtyped) (by rw [(Eq.trans (frh_46 84 (by decide)) (Eq.trans (frh_43 84 (by decide)) (Eq.trans (frh_40 84 (by decide)) (frh_3 84 (by decide)))))]; exact h_rtext) (by rw [(Eq.trans (frh_46 75 (by decide)) (Eq.trans (frh_43 75 (by decide)) (Eq.trans (frh_40 75 (by decide)) (frh_3 75 (by decide)))))]; exact h_rwords) zp3) rfl rfl (Nat.le_of_ble_eq_true rfl) (fun M_48 h_49 => ?_)
        obtain ⟨rkh_49, fkh_49⟩ := h_49
        have frh_49 := fkh_49.1
        have zp4 : rP b M_48 (pK4 b (lNx b A.1)) := rkh_49
        have zf4 := rF2_tr zf3 fkh_49
        have w4 := rP_19 zp4
        refine j_sipush dX9_readsStrike_65 (by decide) ?_
        refine j_bipush dX9_readsStrike_68 (by decide) ?_
        refine j_iload_n 1 dX9_readsStrike_70 rfl rfl ?_
        refine j_imul dX9_readsStrike_71 (by omega) ?_
        refine j_iadd dX9_readsStrike_72 (by omega) ?_
        refine j_iconst dX9_readsStrike_73 (by decide) ?_
        refine j_iadd dX9_readsStrike_74 (by omega) ?_
        refine j_nm (fun v3_50 ev3_50 => ?_)
        refine j_istore_n (ls' := [(0, jR 74), (1, jI r_34), (2, jI r_44), (3, jI v3_50)]) dX9_readsStrike_75 rfl (by decide) rfl ?_
        have zat : v3_50 = 320 + 20 * r_34 + 3 := by omega
        refine j_aload_n 0 dX9_readsStrike_76 rfl rfl ?_
        refine j_callVi l_X9_203 ⟨Nat.le_of_ble_eq_true rfl, Nat.le_of_ble_eq_true rfl⟩ ⟨rfl, rfl⟩ dX9_readsStrike_77 ob_74 (c_X9_isWell M_48) rfl rfl (Nat.le_of_ble_eq_true rfl) (fun r_51 M_52 h_53 => ?_)
        obtain ⟨er_51, nh_53⟩ := h_53
        refine j_eqM nh_53 ?_
        clear nh_53
        refine j_if_eq (tgt := 111) dX9_readsStrike_80 (by decide) (fun c80_54 => ?_) (fun c80_54 => ?_)
        · skip
          have z4 : pK4 b (lNx b A.1) < 0 := by omega
          refine j_vret rfl rfl rfl rfl dX9_readsStrike_111 ?_
          first | exact rsP_sn hk (by omega) z4 zp4 zf4 | exact rsP_so hbk h0 hs hk hR zy (by omega) z4 zp4 zf4 zd (Or.inl ⟨by rw [← zat]; omega, by rw [← zat, jup_zz]⟩) | exact rsP_so hbk h0 hs hk hR zy (by omega) z4 zp4 zf4 zd (Or.inr ⟨by rw [← zat]; omega, rfl⟩)
        · skip
          have z4 : 0 ≤ pK4 b (lNx b A.1) := by omega
          refine j_aload_n 0 dX9_readsStrike_83 rfl rfl ?_
          refine j_getr f_X9_41 r_74_22 dX9_readsStrike_84 ?_
          refine j_iload_n 3 dX9_readsStrike_87 rfl rfl ?_
          refine j_iald a_85 dX9_readsStrike_88 (by omega) (by omega) ?_
          refine j_eq (Eq.trans (congrFun (frh_49 85 (by decide)) v3_50) (Eq.trans (congrFun (frh_46 85 (by decide)) v3_50) (Eq.trans (congrFun (frh_43 85 (by decide)) v3_50) (Eq.trans (congrFun (frh_40 85 (by decide)) v3_50) (congrFun (frh_3 85 (by decide)) v3_50))))) ?_
          refine j_bipush dX9_readsStrike_89 (by decide) ?_
          refine j_icmp_eq (tgt := 104) dX9_readsStrike_91 (by decide) (fun c91_55 => ?_) (fun c91_55 => ?_)
          · skip
            refine j_aload_n 0 dX9_readsStrike_104 rfl rfl ?_
            refine j_getr f_X9_41 r_74_22 dX9_readsStrike_105 ?_
            refine j_iload_n 3 dX9_readsStrike_108 rfl rfl ?_
            refine j_iload_n 2 dX9_readsStrike_109 rfl rfl ?_
            refine j_iast a_85 dX9_readsStrike_110 (by omega) (by omega) ?_
            refine j_nmM (fun M_56 eM_56 => ?_)
            refine j_vret rfl rfl rfl rfl dX9_readsStrike_111 ?_
            first | exact rsP_sn hk (by omega) z4 zp4 zf4 | exact rsP_so hbk h0 hs hk hR zy (by omega) z4 zp4 zf4 zd (Or.inl ⟨by rw [← zat]; omega, by rw [← zat, eM_56]⟩) | exact rsP_so hbk h0 hs hk hR zy (by omega) z4 zp4 zf4 zd (Or.inr ⟨by rw [← zat]; omega, rfl⟩)
          · skip
            refine j_iload_n 2 dX9_readsStrike_94 rfl rfl ?_
            refine j_aload_n 0 dX9_readsStrike_95 rfl rfl ?_
            refine j_getr f_X9_41 r_74_22 dX9_readsStrike_96 ?_
            refine j_iload_n 3 dX9_readsStrike_99 rfl rfl ?_
            refine j_iald a_85 dX9_readsStrike_100 (by omega) (by omega) ?_
            refine j_eq (Eq.trans (congrFun (frh_49 85 (by decide)) v3_50) (Eq.trans (congrFun (frh_46 85 (by decide)) v3_50) (Eq.trans (congrFun (frh_43 85 (by decide)) v3_50) (Eq.trans (congrFun (frh_40 85 (by decide)) v3_50) (congrFun (frh_3 85 (by decide)) v3_50))))) ?_
            refine j_icmp_ge (tgt := 111) dX9_readsStrike_101 (by decide) (fun c101_57 => ?_) (fun c101_57 => ?_)
            · skip
              refine j_vret rfl rfl rfl rfl dX9_readsStrike_111 ?_
              first | exact rsP_sn hk (by omega) z4 zp4 zf4 | exact rsP_so hbk h0 hs hk hR zy (by omega) z4 zp4 zf4 zd (Or.inl ⟨by rw [← zat]; omega, by rw [← zat, jup_zz]⟩) | exact rsP_so hbk h0 hs hk hR zy (by omega) z4 zp4 zf4 zd (Or.inr ⟨by rw [← zat]; omega, rfl⟩)
            · skip
              refine j_aload_n 0 dX9_readsStrike_104 rfl rfl ?_
              refine j_getr f_X9_41 r_74_22 dX9_readsStrike_105 ?_
              refine j_iload_n 3 dX9_readsStrike_108 rfl rfl ?_
              refine j_iload_n 2 dX9_readsStrike_109 rfl rfl ?_
              refine j_iast a_85 dX9_readsStrike_110 (by omega) (by omega) ?_
              refine j_nmM (fun M_58 eM_58 => ?_)
              refine j_vret rfl rfl rfl rfl dX9_readsStrike_111 ?_
              first | exact rsP_sn hk (by omega) z4 zp4 zf4 | exact rsP_so hbk h0 hs hk hR zy (by omega) z4 zp4 zf4 zd (Or.inl ⟨by rw [← zat]; omega, by rw [← zat, eM_58]⟩) | exact rsP_so hbk h0 hs hk hR zy (by omega) z4 zp4 zf4 zd (Or.inr ⟨by rw [← zat]; omega, rfl⟩)
      · skip
        have zn : pFd b A.2.2 A.2.1 (lNx b A.1) < 0 := by first | exact rQ_n2 hR hn.1 r21 (b18 (by omega) (by omega)) zfd (by omega) | exact pFd_k (by omega)
        refine j_aload_n 0 dX9_readsStrike_36 rfl rfl ?_
        refine j_callVv l_X9_213 ⟨Nat.le_of_ble_eq_true rfl, Nat.le_of_ble_eq_true rfl⟩ ⟨rfl, rfl⟩ dX9_readsStrike_37 ob_74 (c_X9_fails M_2 b (lNx b A.1) zp0) rfl rfl (Nat.le_of_ble_eq_true rfl) (fun M_60 h_61 => ?_)
        obtain ⟨rkh_61, fkh_61⟩ := h_61
        have frh_61 := fkh_61.1
        refine j_vret rfl rfl rfl rfl dX9_readsStrike_40 ?_
        exact rsP_sd hbk h0 hs hk zn rkh_61 (rF2_tr zf0 fkh_61)
