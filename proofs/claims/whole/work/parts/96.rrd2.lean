abbrev q_X9_readsRule (M : jM) (b : Int → Int) (A : pSt)  : jM → Prop := fun N => rsP b A M N
set_option maxHeartbeats 4000000 in
set_option maxRecDepth 20000 in
theorem c_X9_readsRule {X : jX} (M : jM) (b : Int → Int) (A : pSt)  (h_rtyped : 0 ≤ M 74 14 ∧ M 74 14 ≤ 900) (h_rtext : ∀ i, 0 ≤ M 84 i ∧ M 84 i ≤ 255) (h_rwords : ∀ k, 0 ≤ k → k < 16 → M 75 k = wVal k) (hp0 : rP b M A.1) (h0 : 0 ≤ A.1) (hn : 0 ≤ A.2.1 ∧ A.2.1 ≤ 16) (hR : rAr M A) (hk : lK b A.1 = 1 ∧ lV b A.1 = 0) : jC yX9_readsRule D_X9_readsRule X FJ shJ [jR 74] M (jqV (q_X9_readsRule M b A)) := by
  refine jC_of (by decide) rfl (fun ad => Nat.le_of_ble_eq_true rfl) (by decide) ?_
  show jG D_X9_readsRule X FJ shJ 0 0 (jqV (q_X9_readsRule M b A)) 0 [(0, jR 74)] [] M
  have hbk := rP_bok hp0 h_rtyped h_rtext
  have hs : A.1 ≤ M 74 14 := (rP_well hp0 h0).2.2.2.2.2
  have nx := lNx_lt hbk h0 hs (by omega)
  have r21 := hR.1
  have r24 := hR.2.1
  have w19m := (rP_well hp0 h0).1
  refine j_aload_n 0 dX9_readsRule_0 rfl rfl ?_
  refine j_geti (k' := 21) f_X9_219 o_74_21 dX9_readsRule_1 rfl ?_
  refine j_bipush dX9_readsRule_4 (by decide) ?_
  refine j_icmp_ne (tgt := 14) dX9_readsRule_6 (by decide) (fun c6_1 => ?_) (fun c6_1 => ?_)
  · skip
    refine j_aload_n 0 dX9_readsRule_14 rfl rfl ?_
    refine j_callVv l_X9_210 ⟨Nat.le_of_ble_eq_true rfl, Nat.le_of_ble_eq_true rfl⟩ ⟨rfl, rfl⟩ dX9_readsRule_15 ob_74 (c_X9_advances M b h_rtyped h_rtext h_rwords hp0.1 (rP_pre hp0 h0 h_rtyped h_rtext)) rfl rfl (Nat.le_of_ble_eq_true rfl) (fun M_3 h_4 => ?_)
    have adh_4 := h_4
    unfold q_X9_advances at adh_4
    have frh_4 := adh_4.2.2.1
    have p0a := rP_adv hp0 h0 adh_4
    have zad := adh_4.2.2
    have wb := rP_well p0a (by omega)
    have b16 := wb.2.2.1
    have b18 := wb.2.2.2.1
    refine j_sipush dX9_readsRule_18 (by decide) ?_
    refine j_bipush dX9_readsRule_21 (by decide) ?_
    refine j_aload_n 0 dX9_readsRule_23 rfl rfl ?_
    refine j_geti (k' := 21) f_X9_219 o_74_21 dX9_readsRule_24 rfl ?_
    refine j_eq (adh_4.2.2.2 21 (by decide) (by decide) (by decide) (by decide)) ?_
    refine j_imul dX9_readsRule_27 (by omega) ?_
    refine j_iadd dX9_readsRule_28 (by omega) ?_
    refine j_nm (fun v1_5 ev1_5 => ?_)
    refine j_istore_n (ls' := [(0, jR 74), (1, jI v1_5)]) dX9_readsRule_29 rfl (by decide) rfl ?_
    have za : v1_5 = 320 + 20 * A.2.1 := by omega
    refine j_iconst dX9_readsRule_30 (by decide) ?_
    refine j_istore_n (ls' := [(0, jR 74), (1, jI v1_5), (2, jI 0)]) dX9_readsRule_31 rfl (by decide) rfl ?_
    have lp32_6 : ∀ n32 : Nat, ∀ (v2 : Int), ∀ N32 : jM, (0 ≤ v2 ∧ v2 ≤ 20) ∧ (∀ c, c ≠ 85 → N32 c = M_3 c) ∧ (∀ j, N32 85 j = if v1_5 ≤ j ∧ j < v1_5 + v2 then -9 else M_3 85 j) → (20 - v2).toNat < n32 → jG D_X9_readsRule X FJ shJ 0 0 (jqV (q_X9_readsRule M b A)) 32 [(0, jR 74), (1, jI v1_5), (2, jI v2)] ([]) N32 := by
      intro n32
      induction n32 with
      | zero => intro v2 N32 _ hz; exact absurd hz (Nat.not_lt_zero _)
      | succ n32 ih32 =>
        intro v2 N32 hinv hm
        obtain ⟨h2, hl1, hl2⟩ := hinv
        refine j_iload_n 2 dX9_readsRule_32 rfl rfl ?_
        refine j_bipush dX9_readsRule_33 (by decide) ?_
        refine j_icmp_ge (tgt := 54) dX9_readsRule_35 (by decide) (fun c35_7 => ?_) (fun c35_7 => ?_)
        · skip
          refine j_aload_n 0 dX9_readsRule_54 rfl rfl ?_
          refine j_getr f_X9_41 r_74_22 dX9_readsRule_55 ?_
          refine j_iload_n 1 dX9_readsRule_58 rfl rfl ?_
          refine j_iconst dX9_readsRule_59 (by decide) ?_
          refine j_iadd dX9_readsRule_60 (by omega) ?_
          refine j_iconst dX9_readsRule_61 (by decide) ?_
          refine j_iast a_85 dX9_readsRule_62 (by omega) (by omega) ?_
          refine j_nmM (fun M_8 eM_8 => ?_)
          have e20 : v2 = 20 := by omega
          subst e20
          have zw0 : rHd M M_8 v1_5 (-9) (-9) (-9) := by rw [eM_8]; exact rHd_0 zad hl1 hl2
          have zq0 : rP b M_8 (lNx b A.1) := by rw [eM_8]; exact rP_85 (rP_cg p0a (hl1 84 (by decide)) (fun k _ => by rw [hl1 74 (by decide)]))
          have e21 : M_8 74 21 = M 74 21 := zw0.2.1 21 (by decide) (by decide) (by decide) (by decide) (by decide)
          have ct93_9 : ∀ K93 : jM, (rP b K93 (pQ1 b A)) ∧ (rHd M K93 v1_5 (-9) (-9) (-9)) → jG D_X9_readsRule X FJ shJ 0 0 (jqV (q_X9_readsRule M b A)) 93 [(0, jR 74), (1, jI v1_5)] ([]) K93 := by
            intro  K93 hinv
            obtain ⟨hp, hw⟩ := hinv
            refine j_aload_n 0 dX9_readsRule_93 rfl rfl ?_
            refine j_getr f_X9_41 r_74_22 dX9_readsRule_94 ?_
            refine j_iload_n 1 dX9_readsRule_97 rfl rfl ?_
            refine j_aload_n 0 dX9_readsRule_98 rfl rfl ?_
            refine j_iconst dX9_readsRule_99 (by decide) ?_
            refine j_bipush dX9_readsRule_100 (by decide) ?_
            refine j_callVi l_X9_228 ⟨Nat.le_of_ble_eq_true rfl, Nat.le_of_ble_eq_true rfl⟩ ⟨rfl, rfl⟩ dX9_readsRule_102 ob_74 (c_X9_takesNumber K93 b (pQ1 b A) 1 99 (by rw [(hw.2.1 14 (by decide) (by decide) (by decide) (by decide) (by decide))]; exact h_rtyped) (by rw [(hw.1 84 (by decide) (by decide))]; exact h_rtext) (by rw [(hw.1 75 (by decide) (by decide))]; exact h_rwords) hp) rfl rfl (Nat.le_of_ble_eq_true rfl) (fun r_10 M_11 h_12 => ?_)
            obtain ⟨rvh_12, rkh_12, fkh_12⟩ := h_12
            have frh_12 := fkh_12.1
            refine j_iast a_85 dX9_readsRule_105 (by omega) (by omega) ?_
            refine j_nmM (fun M_13 eM_13 => ?_)
            have zw1 : rHd M M_13 v1_5 (nV b 1 99 (pQ1 b A)) (-9) (-9) := by rw [eM_13, rvh_12]; exact rHd_a (rHd_2 hw fkh_12)
            have zp1 : rP b M_13 (pH1 b (pQ1 b A)) := by rw [eM_13]; exact rP_85 rkh_12
            refine j_aload_n 0 dX9_readsRule_106 rfl rfl ?_
            refine j_iconst dX9_readsRule_107 (by decide) ?_
            refine j_callVv l_X9_235 ⟨Nat.le_of_ble_eq_true rfl, Nat.le_of_ble_eq_true rfl⟩ ⟨rfl, rfl⟩ dX9_readsRule_108 ob_74 (c_X9_takesWord M_13 b (pH1 b (pQ1 b A)) 1 (by rw [(Eq.trans (congrFun ((congrFun eM_13 74).trans (jup_cell (by decide))) 14) (Eq.trans (fkh_12.2 14 (by decide) (by decide) (by decide) (by decide) (by decide)) (hw.2.1 14 (by decide) (by decide) (by decide) (by decide) (by decide))))]; exact h_rtyped) (by rw [(Eq.trans ((congrFun eM_13 84).trans (jup_cell (by decide))) (Eq.trans (frh_12 84 (by decide)) (hw.1 84 (by decide) (by decide))))]; exact h_rtext) (by rw [(Eq.trans ((congrFun eM_13 75).trans (jup_cell (by decide))) (Eq.trans (frh_12 75 (by decide)) (hw.1 75 (by decide) (by decide))))]; exact h_rwords) zp1) rfl rfl (Nat.le_of_ble_eq_true rfl) (fun M_15 h_16 => ?_)
            obtain ⟨rkh_16, fkh_16⟩ := h_16
            have frh_16 := fkh_16.1
            have zw2 := rHd_2 zw1 fkh_16
            have zp2 : rP b M_15 (pH2 b (pQ1 b A)) := rkh_16
            refine j_aload_n 0 dX9_readsRule_111 rfl rfl ?_
            refine j_getr f_X9_41 r_74_22 dX9_readsRule_112 ?_
            refine j_iload_n 1 dX9_readsRule_115 rfl rfl ?_
            refine j_iconst dX9_readsRule_116 (by decide) ?_
            refine j_iadd dX9_readsRule_117 (by omega) ?_
            refine j_aload_n 0 dX9_readsRule_118 rfl rfl ?_
            refine j_iconst dX9_readsRule_119 (by decide) ?_
            refine j_sipush dX9_readsRule_120 (by decide) ?_
            refine j_callVi l_X9_228 ⟨Nat.le_of_ble_eq_true rfl, Nat.le_of_ble_eq_true rfl⟩ ⟨rfl, rfl⟩ dX9_readsRule_123 ob_74 (c_X9_takesNumber M_15 b (pH2 b (pQ1 b A)) 0 359 (by rw [(Eq.trans (fkh_16.2 14 (by decide) (by decide) (by decide) (by decide) (by decide)) (Eq.trans (congrFun ((congrFun eM_13 74).trans (jup_cell (by decide))) 14) (Eq.trans (fkh_12.2 14 (by decide) (by decide) (by decide) (by decide) (by decide)) (hw.2.1 14 (by decide) (by decide) (by decide) (by decide) (by decide)))))]; exact h_rtyped) (by rw [(Eq.trans (frh_16 84 (by decide)) (Eq.trans ((congrFun eM_13 84).trans (jup_cell (by decide))) (Eq.trans (frh_12 84 (by decide)) (hw.1 84 (by decide) (by decide)))))]; exact h_rtext) (by rw [(Eq.trans (frh_16 75 (by decide)) (Eq.trans ((congrFun eM_13 75).trans (jup_cell (by decide))) (Eq.trans (frh_12 75 (by decide)) (hw.1 75 (by decide) (by decide)))))]; exact h_rwords) zp2) rfl rfl (Nat.le_of_ble_eq_true rfl) (fun r_17 M_18 h_19 => ?_)
            obtain ⟨rvh_19, rkh_19, fkh_19⟩ := h_19
            have frh_19 := fkh_19.1
            have rv3 := rvh_19
            refine j_iast a_85 dX9_readsRule_126 (by omega) (by omega) ?_
            refine j_nmM (fun M_20 eM_20 => ?_)
            have zw3 : rHd M M_20 v1_5 (nV b 1 99 (pQ1 b A)) (pHf b (pQ1 b A)) (-9) := by rw [eM_20, rvh_19]; exact rHd_b (rHd_2 zw2 fkh_19)
            have zp3 : rP b M_20 (pH3 b (pQ1 b A)) := by rw [eM_20]; exact rP_85 rkh_19
            refine j_aload_n 0 dX9_readsRule_127 rfl rfl ?_
            refine j_bipush dX9_readsRule_128 (by decide) ?_
            refine j_callVv l_X9_231 ⟨Nat.le_of_ble_eq_true rfl, Nat.le_of_ble_eq_true rfl⟩ ⟨rfl, rfl⟩ dX9_readsRule_130 ob_74 (c_X9_takesSign M_20 b (pH3 b (pQ1 b A)) 45 (by rw [(Eq.trans (congrFun ((congrFun eM_20 74).trans (jup_cell (by decide))) 14) (Eq.trans (fkh_19.2 14 (by decide) (by decide) (by decide) (by decide) (by decide)) (Eq.trans (fkh_16.2 14 (by decide) (by decide) (by decide) (by decide) (by decide)) (Eq.trans (congrFun ((congrFun eM_13 74).trans (jup_cell (by decide))) 14) (Eq.trans (fkh_12.2 14 (by decide) (by decide) (by decide) (by decide) (by decide)) (hw.2.1 14 (by decide) (by decide) (by decide) (by decide) (by decide)))))))]; exact h_rtyped) (by rw [(Eq.trans ((congrFun eM_20 84).trans (jup_cell (by decide))) (Eq.trans (frh_19 84 (by decide)) (Eq.trans (frh_16 84 (by decide)) (Eq.trans ((congrFun eM_13 84).trans (jup_cell (by decide))) (Eq.trans (frh_12 84 (by decide)) (hw.1 84 (by decide) (by decide)))))))]; exact h_rtext) (by rw [(Eq.trans ((congrFun eM_20 75).trans (jup_cell (by decide))) (Eq.trans (frh_19 75 (by decide)) (Eq.trans (frh_16 75 (by decide)) (Eq.trans ((congrFun eM_13 75).trans (jup_cell (by decide))) (Eq.trans (frh_12 75 (by decide)) (hw.1 75 (by decide) (by decide)))))))]; exact h_rwords) zp3) rfl rfl (Nat.le_of_ble_eq_true rfl) (fun M_22 h_23 => ?_)
            obtain ⟨rkh_23, fkh_23⟩ := h_23
            have frh_23 := fkh_23.1
            have zw4 := rHd_2 zw3 fkh_23
            have zp4 : rP b M_22 (pH4 b (pQ1 b A)) := rkh_23
            refine j_aload_n 0 dX9_readsRule_133 rfl rfl ?_
            refine j_getr f_X9_41 r_74_22 dX9_readsRule_134 ?_
            refine j_iload_n 1 dX9_readsRule_137 rfl rfl ?_
            refine j_iconst dX9_readsRule_138 (by decide) ?_
            refine j_iadd dX9_readsRule_139 (by omega) ?_
            refine j_aload_n 0 dX9_readsRule_140 rfl rfl ?_
            refine j_aload_n 0 dX9_readsRule_141 rfl rfl ?_
            refine j_getr f_X9_41 r_74_22 dX9_readsRule_142 ?_
            refine j_iload_n 1 dX9_readsRule_145 rfl rfl ?_
            refine j_iconst dX9_readsRule_146 (by decide) ?_
            refine j_iadd dX9_readsRule_147 (by omega) ?_
            refine j_iald a_85 dX9_readsRule_148 (by omega) (by omega) ?_
            refine j_eq (Eq.trans (congrFun (frh_23 85 (by decide)) (v1_5 + 1)) ((congrFun (congrFun eM_20 85) (v1_5 + 1)).trans (jup_self _ _ _ _))) ?_
            refine j_sipush dX9_readsRule_149 (by decide) ?_
            refine j_callVi l_X9_228 ⟨Nat.le_of_ble_eq_true rfl, Nat.le_of_ble_eq_true rfl⟩ ⟨rfl, rfl⟩ dX9_readsRule_152 ob_74 (c_X9_takesNumber M_22 b (pH4 b (pQ1 b A)) r_17 359 (by rw [(Eq.trans (fkh_23.2 14 (by decide) (by decide) (by decide) (by decide) (by decide)) (Eq.trans (congrFun ((congrFun eM_20 74).trans (jup_cell (by decide))) 14) (Eq.trans (fkh_19.2 14 (by decide) (by decide) (by decide) (by decide) (by decide)) (Eq.trans (fkh_16.2 14 (by decide) (by decide) (by decide) (by decide) (by decide)) (Eq.trans (congrFun ((congrFun eM_13 74).trans (jup_cell (by decide))) 14) (Eq.trans (fkh_12.2 14 (by decide) (by decide) (by decide) (by decide) (by decide)) (hw.2.1 14 (by decide) (by decide) (by decide) (by decide) (by decide))))))))]; exact h_rtyped) (by rw [(Eq.trans (frh_23 84 (by decide)) (Eq.trans ((congrFun eM_20 84).trans (jup_cell (by decide))) (Eq.trans (frh_19 84 (by decide)) (Eq.trans (frh_16 84 (by decide)) (Eq.trans ((congrFun eM_13 84).trans (jup_cell (by decide))) (Eq.trans (frh_12 84 (by decide)) (hw.1 84 (by decide) (by decide))))))))]; exact h_rtext) (by rw [(Eq.trans (frh_23 75 (by decide)) (Eq.trans ((congrFun eM_20 75).trans (jup_cell (by decide))) (Eq.trans (frh_19 75 (by decide)) (Eq.trans (frh_16 75 (by decide)) (Eq.trans ((congrFun eM_13 75).trans (jup_cell (by decide))) (Eq.trans (frh_12 75 (by decide)) (hw.1 75 (by decide) (by decide))))))))]; exact h_rwords) zp4) rfl rfl (Nat.le_of_ble_eq_true rfl) (fun r_24 M_25 h_26 => ?_)
            obtain ⟨rvh_26, rkh_26, fkh_26⟩ := h_26
            have frh_26 := fkh_26.1
            have rv5 := rvh_26
            have rk5 := rkh_26
            rw [rv3] at rv5 rk5
            refine j_iast a_85 dX9_readsRule_155 (by omega) (by omega) ?_
            refine j_nmM (fun M_27 eM_27 => ?_)
            have zw5 : rHd M M_27 v1_5 (nV b 1 99 (pQ1 b A)) (pHf b (pQ1 b A)) (pHl b (pQ1 b A)) := by rw [eM_27, rv5]; exact rHd_c (rHd_2 zw4 fkh_26)
            have zp5 : rP b M_27 (pH5 b (pQ1 b A)) := by rw [eM_27]; exact rP_85 rk5
            refine j_aload_n 0 dX9_readsRule_156 rfl rfl ?_
            refine j_bipush dX9_readsRule_157 (by decide) ?_
            refine j_callVv l_X9_231 ⟨Nat.le_of_ble_eq_true rfl, Nat.le_of_ble_eq_true rfl⟩ ⟨rfl, rfl⟩ dX9_readsRule_159 ob_74 (c_X9_takesSign M_27 b (pH5 b (pQ1 b A)) 58 (by rw [(Eq.trans (congrFun ((congrFun eM_27 74).trans (jup_cell (by decide))) 14) (Eq.trans (fkh_26.2 14 (by decide) (by decide) (by decide) (by decide) (by decide)) (Eq.trans (fkh_23.2 14 (by decide) (by decide) (by decide) (by decide) (by decide)) (Eq.trans (congrFun ((congrFun eM_20 74).trans (jup_cell (by decide))) 14) (Eq.trans (fkh_19.2 14 (by decide) (by decide) (by decide) (by decide) (by decide)) (Eq.trans (fkh_16.2 14 (by decide) (by decide) (by decide) (by decide) (by decide)) (Eq.trans (congrFun ((congrFun eM_13 74).trans (jup_cell (by decide))) 14) (Eq.trans (fkh_12.2 14 (by decide) (by decide) (by decide) (by decide) (by decide)) (hw.2.1 14 (by decide) (by decide) (by decide) (by decide) (by decide))))))))))]; exact h_rtyped) (by rw [(Eq.trans ((congrFun eM_27 84).trans (jup_cell (by decide))) (Eq.trans (frh_26 84 (by decide)) (Eq.trans (frh_23 84 (by decide)) (Eq.trans ((congrFun eM_20 84).trans (jup_cell (by decide))) (Eq.trans (frh_19 84 (by decide)) (Eq.trans (frh_16 84 (by decide)) (Eq.trans ((congrFun eM_13 84).trans (jup_cell (by decide))) (Eq.trans (frh_12 84 (by decide)) (hw.1 84 (by decide) (by decide))))))))))]; exact h_rtext) (by rw [(Eq.trans ((congrFun eM_27 75).trans (jup_cell (by decide))) (Eq.trans (frh_26 75 (by decide)) (Eq.trans (frh_23 75 (by decide)) (Eq.trans ((congrFun eM_20 75).trans (jup_cell (by decide))) (Eq.trans (frh_19 75 (by decide)) (Eq.trans (frh_16 75 (by decide)) (Eq.trans ((congrFun eM_13 75).trans (jup_cell (by decide))) (Eq.trans (frh_12 75 (by decide)) (hw.1 75 (by decide) (by decide))))))))))]; exact h_rwords) zp5) rfl rfl (Nat.le_of_ble_eq_true rfl) (fun M_29 h_30 => ?_)
            obtain ⟨rkh_30, fkh_30⟩ := h_30
            have frh_30 := fkh_30.1
            have zw6 := rHd_2 zw5 fkh_30
            have zp6 : rP b M_29 (pH6 b (pQ1 b A)) := rkh_30
            have z21 : M_29 74 21 = A.2.1 := by rw [zw6.2.1 21 (by decide) (by decide) (by decide) (by decide) (by decide)]; exact r21
            have z24 : M_29 74 24 = M 74 24 := zw6.2.1 24 (by decide) (by decide) (by decide) (by decide) (by decide)
            have z14 : M_29 74 14 = M 74 14 := zw6.2.1 14 (by decide) (by decide) (by decide) (by decide) (by decide)
            have ct187_31 : ∀ K187 : jM, (rI2 b A M K187 v1_5) → jG D_X9_readsRule X FJ shJ 0 0 (jqV (q_X9_readsRule M b A)) 187 [(0, jR 74), (1, jI v1_5)] ([]) K187 := by
              intro  K187 hinv
              have hI2 := hinv
              refine j_aload_n 0 dX9_readsRule_187 rfl rfl ?_
              have z21b : K187 74 21 = A.2.1 := by rw [hI2.2.1.2.1 21 (by decide) (by decide) (by decide) (by decide) (by decide) (by decide)]; exact r21
              have w2p := rP_19 hI2.1
              have ct202_32 : ∀ K202 : jM, (rI3 b A M K202) → jG D_X9_readsRule X FJ shJ 0 0 (jqV (q_X9_readsRule M b A)) 202 [(0, jR 74), (1, jI v1_5)] ([]) K202 := by
                intro  K202 hinv
                have hI3 := hinv
                obtain ⟨s3, hp3, hs3⟩ := hI3.1
                refine j_aload_n 0 dX9_readsRule_202 rfl rfl ?_
                refine j_bipush dX9_readsRule_203 (by decide) ?_
                refine j_callVv l_X9_231 ⟨Nat.le_of_ble_eq_true rfl, Nat.le_of_ble_eq_true rfl⟩ ⟨rfl, rfl⟩ dX9_readsRule_205 ob_74 (c_X9_takesSign K202 b s3 59 (by rw [(hI3.2.1.2.1 14 (by decide) (by decide) (by decide) (by decide) (by decide) (by decide))]; exact h_rtyped) (by rw [(hI3.2.1.1 84 (by decide) (by decide) (by decide))]; exact h_rtext) (by rw [(hI3.2.1.1 75 (by decide) (by decide) (by decide))]; exact h_rwords) hp3) rfl rfl (Nat.le_of_ble_eq_true rfl) (fun M_34 h_35 => ?_)
                obtain ⟨rkh_35, fkh_35⟩ := h_35
                have frh_35 := fkh_35.1
                have zrk := rkh_35
                have zfk := fkh_35
                refine j_aload_n 0 dX9_readsRule_208 rfl rfl ?_
                refine j_dup dX9_readsRule_209 rfl ?_
                refine j_geti (k' := 21) f_X9_219 o_74_21 dX9_readsRule_210 rfl ?_
                refine j_eq (Eq.trans (fkh_35.2 21 (by decide) (by decide) (by decide) (by decide) (by decide)) (hI3.2.1.2.1 21 (by decide) (by decide) (by decide) (by decide) (by decide) (by decide))) ?_
                refine j_aload_n 0 dX9_readsRule_213 rfl rfl ?_
                refine j_callVi l_X9_203 ⟨Nat.le_of_ble_eq_true rfl, Nat.le_of_ble_eq_true rfl⟩ ⟨rfl, rfl⟩ dX9_readsRule_214 ob_74 (c_X9_isWell M_34) rfl rfl (Nat.le_of_ble_eq_true rfl) (fun r_36 M_37 h_38 => ?_)
                obtain ⟨er_36, nh_38⟩ := h_38
                refine j_eqM nh_38 ?_
                clear nh_38
                have zer := er_36
                have hJ_39 : ∀ zz : Int, (r_36 = 0 ∧ zz = 0) ∨ (¬ r_36 = 0 ∧ zz = 1) → jG D_X9_readsRule X FJ shJ 0 0 (jqV (q_X9_readsRule M b A)) 225 [(0, jR 74), (1, jI v1_5)] (jI zz :: jI (M 74 21) :: jR 74 :: []) M_34 := by
                  intro t_40 et_40
                  refine j_iadd dX9_readsRule_225 (by omega) ?_
                  refine j_puti (k' := 21) f_X9_219 o_74_21 dX9_readsRule_226 rfl ?_
                  refine j_nmM (fun M_41 eM_41 => ?_)
                  refine j_vret rfl rfl rfl rfl dX9_readsRule_229 ?_
                  exact rsP_of r21 hI3 (by rw [← hs3]; exact zrk) zfk zer (by assumption) (by rw [eM_41])
                refine j_if_eq (tgt := 224) dX9_readsRule_217 (by decide) (fun c217_42 => ?_) (fun c217_42 => ?_)
                · skip
                  refine j_iconst dX9_readsRule_224 (by decide) ?_
                  exact hJ_39 _ (Or.inl ⟨c217_42, rfl⟩)
                · skip
                  refine j_iconst dX9_readsRule_220 (by decide) ?_
                  refine j_goto (tgt := 225) dX9_readsRule_221 (by decide) ?_
                  exact hJ_39 _ (Or.inr (⟨c217_42, rfl⟩))
              refine j_callVi l_X9_203 ⟨Nat.le_of_ble_eq_true rfl, Nat.le_of_ble_eq_true rfl⟩ ⟨rfl, rfl⟩ dX9_readsRule_188 ob_74 (c_X9_isWell K187) rfl rfl (Nat.le_of_ble_eq_true rfl) (fun r_43 M_44 h_45 => ?_)
              obtain ⟨er_43, nh_45⟩ := h_45
              refine j_eqM nh_45 ?_
              clear nh_45
              refine j_if_eq (tgt := 202) dX9_readsRule_191 (by decide) (fun c191_46 => ?_) (fun c191_46 => ?_)
              · skip
                exact ct202_32 K187 (by first | exact rI3_no hbk h0 hs hk (by omega) hI2 (by omega) (by omega) (by omega) | exact rI3_yes hbk h0 hs hk (by omega) hR hI2 hp2 za (by rw [z320]; exact ruh_45))
              · skip
                have hp2 : 0 ≤ pS2 b A := by omega
                have z320 : v1_5 = 320 + 20 * M 74 21 := by omega
                refine j_aload_n 0 dX9_readsRule_194 rfl rfl ?_
                refine j_aload_n 0 dX9_readsRule_195 rfl rfl ?_
                refine j_geti (k' := 21) f_X9_219 o_74_21 dX9_readsRule_196 rfl ?_
                refine j_eq (hI2.2.1.2.1 21 (by decide) (by decide) (by decide) (by decide) (by decide) (by decide)) ?_
                refine j_callVv l_X9_243 ⟨Nat.le_of_ble_eq_true rfl, Nat.le_of_ble_eq_true rfl⟩ ⟨rfl, rfl⟩ dX9_readsRule_199 ob_74 (c_X9_duties K187 b (pS2 b A) (fun _ => -9) ((M 74 21)) (by rw [(hI2.2.1.2.1 14 (by decide) (by decide) (by decide) (by decide) (by decide) (by decide))]; exact h_rtyped) (by rw [(hI2.2.1.1 84 (by decide) (by decide) (by decide))]; exact h_rtext) (by rw [(hI2.2.1.1 75 (by decide) (by decide) (by decide))]; exact h_rwords) hI2.1 hp2 (by omega) tOk_0 (by rw [← z320]; exact (hI2.2.2 hp2).2.1)) rfl rfl (Nat.le_of_ble_eq_true rfl) (fun M_48 h_49 => ?_)
                have ruh_49 := h_49
                unfold q_X9_duties at ruh_49
                exact ct202_32 M_48 (by first | exact rI3_no hbk h0 hs hk (by omega) hI2 (by omega) (by omega) (by omega) | exact rI3_yes hbk h0 hs hk (by omega) hR hI2 hp2 za (by rw [z320]; exact ruh_49))
            refine j_aload_n 0 dX9_readsRule_162 rfl rfl ?_
            refine j_iconst dX9_readsRule_163 (by decide) ?_
            refine j_callVi l_X9_216 ⟨Nat.le_of_ble_eq_true rfl, Nat.le_of_ble_eq_true rfl⟩ ⟨rfl, rfl⟩ dX9_readsRule_164 ob_74 (c_X9_isWord M_29 b (pH6 b (pQ1 b A)) 2 zp6) rfl rfl (Nat.le_of_ble_eq_true rfl) (fun r_50 M_51 h_52 => ?_)
            obtain ⟨er_50, nh_52⟩ := h_52
            refine j_eqM nh_52 ?_
            clear nh_52
            refine j_if_eq (tgt := 187) dX9_readsRule_167 (by decide) (fun c167_53 => ?_) (fun c167_53 => ?_)
            · skip
              exact ct187_31 M_29 (by first | exact rI2_no zp6 zw6 (by omega) | exact rI2_yes (by omega) (by omega) zw7 zrd (by omega) rkh_52 fkh_52)
            · skip
              refine j_aload_n 0 dX9_readsRule_170 rfl rfl ?_
              refine j_callVv l_X9_210 ⟨Nat.le_of_ble_eq_true rfl, Nat.le_of_ble_eq_true rfl⟩ ⟨rfl, rfl⟩ dX9_readsRule_171 ob_74 (c_X9_advances M_29 b (by rw [(Eq.trans (fkh_30.2 14 (by decide) (by decide) (by decide) (by decide) (by decide)) (Eq.trans (congrFun ((congrFun eM_27 74).trans (jup_cell (by decide))) 14) (Eq.trans (fkh_26.2 14 (by decide) (by decide) (by decide) (by decide) (by decide)) (Eq.trans (fkh_23.2 14 (by decide) (by decide) (by decide) (by decide) (by decide)) (Eq.trans (congrFun ((congrFun eM_20 74).trans (jup_cell (by decide))) 14) (Eq.trans (fkh_19.2 14 (by decide) (by decide) (by decide) (by decide) (by decide)) (Eq.trans (fkh_16.2 14 (by decide) (by decide) (by decide) (by decide) (by decide)) (Eq.trans (congrFun ((congrFun eM_13 74).trans (jup_cell (by decide))) 14) (Eq.trans (fkh_12.2 14 (by decide) (by decide) (by decide) (by decide) (by decide)) (hw.2.1 14 (by decide) (by decide) (by decide) (by decide) (by decide)))))))))))]; exact h_rtyped) (by rw [(Eq.trans (frh_30 84 (by decide)) (Eq.trans ((congrFun eM_27 84).trans (jup_cell (by decide))) (Eq.trans (frh_26 84 (by decide)) (Eq.trans (frh_23 84 (by decide)) (Eq.trans ((congrFun eM_20 84).trans (jup_cell (by decide))) (Eq.trans (frh_19 84 (by decide)) (Eq.trans (frh_16 84 (by decide)) (Eq.trans ((congrFun eM_13 84).trans (jup_cell (by decide))) (Eq.trans (frh_12 84 (by decide)) (hw.1 84 (by decide) (by decide)))))))))))]; exact h_rtext) (by rw [(Eq.trans (frh_30 75 (by decide)) (Eq.trans ((congrFun eM_27 75).trans (jup_cell (by decide))) (Eq.trans (frh_26 75 (by decide)) (Eq.trans (frh_23 75 (by decide)) (Eq.trans ((congrFun eM_20 75).trans (jup_cell (by decide))) (Eq.trans (frh_19 75 (by decide)) (Eq.trans (frh_16 75 (by decide)) (Eq.trans ((congrFun eM_13 75).trans (jup_cell (by decide))) (Eq.trans (frh_12 75 (by decide)) (hw.1 75 (by decide) (by decide)))))))))))]; exact h_rwords) zp6.1 (rP_pre2 zp6 (by omega) hbk z14)) rfl rfl (Nat.le_of_ble_eq_true rfl) (fun M_55 h_56 => ?_)
              have adh_56 := h_56
              unfold q_X9_advances at adh_56
              have frh_56 := adh_56.2.2.1
              have zw7 := rHd_2 zw6 (rF2_of adh_56.2.2)
              have zp7 := rP_adv zp6 (by omega) adh_56
              have z24b : M_55 74 24 = M 74 24 := zw7.2.1 24 (by decide) (by decide) (by decide) (by decide) (by decide)
              have nxh := lNx_lt hbk (q := (pH6 b (pQ1 b A))) (by omega) (by have := (rP_well zp6 (by omega)).2.2.2.2.2; omega) (by omega)
              have phin := pQ_h hbk h0 hs hk (by omega)
              refine j_aload_n 0 dX9_readsRule_174 rfl rfl ?_
              refine j_aload_n 0 dX9_readsRule_175 rfl rfl ?_
              refine j_geti (k' := 21) f_X9_219 o_74_21 dX9_readsRule_176 rfl ?_
              refine j_eq (Eq.trans (adh_56.2.2.2 21 (by decide) (by decide) (by decide) (by decide)) (Eq.trans (fkh_30.2 21 (by decide) (by decide) (by decide) (by decide) (by decide)) (Eq.trans (congrFun ((congrFun eM_27 74).trans (jup_cell (by decide))) 21) (Eq.trans (fkh_26.2 21 (by decide) (by decide) (by decide) (by decide) (by decide)) (Eq.trans (fkh_23.2 21 (by decide) (by decide) (by decide) (by decide) (by decide)) (Eq.trans (congrFun ((congrFun eM_20 74).trans (jup_cell (by decide))) 21) (Eq.trans (fkh_19.2 21 (by decide) (by decide) (by decide) (by decide) (by decide)) (Eq.trans (fkh_16.2 21 (by decide) (by decide) (by decide) (by decide) (by decide)) (Eq.trans (congrFun ((congrFun eM_13 74).trans (jup_cell (by decide))) 21) (Eq.trans (fkh_12.2 21 (by decide) (by decide) (by decide) (by decide) (by decide)) (hw.2.1 21 (by decide) (by decide) (by decide) (by decide) (by decide)))))))))))) ?_
              refine j_callVv l_X9_241 ⟨Nat.le_of_ble_eq_true rfl, Nat.le_of_ble_eq_true rfl⟩ ⟨rfl, rfl⟩ dX9_readsRule_179 ob_74 (c_X9_cond M_55 b (lNx b (pH6 b (pQ1 b A))) ((M 74 21)) (by rw [(Eq.trans (adh_56.2.2.2 14 (by decide) (by decide) (by decide) (by decide)) (Eq.trans (fkh_30.2 14 (by decide) (by decide) (by decide) (by decide) (by decide)) (Eq.trans (congrFun ((congrFun eM_27 74).trans (jup_cell (by decide))) 14) (Eq.trans (fkh_26.2 14 (by decide) (by decide) (by decide) (by decide) (by decide)) (Eq.trans (fkh_23.2 14 (by decide) (by decide) (by decide) (by decide) (by decide)) (Eq.trans (congrFun ((congrFun eM_20 74).trans (jup_cell (by decide))) 14) (Eq.trans (fkh_19.2 14 (by decide) (by decide) (by decide) (by decide) (by decide)) (Eq.trans (fkh_16.2 14 (by decide) (by decide) (by decide) (by decide) (by decide)) (Eq.trans (congrFun ((congrFun eM_13 74).trans (jup_cell (by decide))) 14) (Eq.trans (fkh_12.2 14 (by decide) (by decide) (by decide) (by decide) (by decide)) (hw.2.1 14 (by decide) (by decide) (by decide) (by decide) (by decide))))))))))))]; exact h_rtyped) (by rw [(Eq.trans (frh_56 84 (by decide)) (Eq.trans (frh_30 84 (by decide)) (Eq.trans ((congrFun eM_27 84).trans (jup_cell (by decide))) (Eq.trans (frh_26 84 (by decide)) (Eq.trans (frh_23 84 (by decide)) (Eq.trans ((congrFun eM_20 84).trans (jup_cell (by decide))) (Eq.trans (frh_19 84 (by decide)) (Eq.trans (frh_16 84 (by decide)) (Eq.trans ((congrFun eM_13 84).trans (jup_cell (by decide))) (Eq.trans (frh_12 84 (by decide)) (hw.1 84 (by decide) (by decide))))))))))))]; exact h_rtext) (by rw [(Eq.trans (frh_56 75 (by decide)) (Eq.trans (frh_30 75 (by decide)) (Eq.trans ((congrFun eM_27 75).trans (jup_cell (by decide))) (Eq.trans (frh_26 75 (by decide)) (Eq.trans (frh_23 75 (by decide)) (Eq.trans ((congrFun eM_20 75).trans (jup_cell (by decide))) (Eq.trans (frh_19 75 (by decide)) (Eq.trans (frh_16 75 (by decide)) (Eq.trans ((congrFun eM_13 75).trans (jup_cell (by decide))) (Eq.trans (frh_12 75 (by decide)) (hw.1 75 (by decide) (by decide))))))))))))]; exact h_rwords) zp7 (by omega) (by omega) (by omega)) rfl rfl (Nat.le_of_ble_eq_true rfl) (fun M_58 h_59 => ?_)
              have rdh_59 := h_59
              unfold q_X9_cond at rdh_59
              have frh_59 := rdh_59.2.2.1
              have zrd := rdh_59
              refine j_aload_n 0 dX9_readsRule_182 rfl rfl ?_
              refine j_iconst dX9_readsRule_183 (by decide) ?_
              refine j_callVv l_X9_235 ⟨Nat.le_of_ble_eq_true rfl, Nat.le_of_ble_eq_true rfl⟩ ⟨rfl, rfl⟩ dX9_readsRule_184 ob_74 (c_X9_takesWord M_58 b (pCd b 901 (lNx b (pH6 b (pQ1 b A))) [] true 0 0).1 3 (by rw [(Eq.trans (rdh_59.2.2.2.1 14 (by decide) (by decide) (by decide) (by decide) (by decide) (by decide)) (Eq.trans (adh_56.2.2.2 14 (by decide) (by decide) (by decide) (by decide)) (Eq.trans (fkh_30.2 14 (by decide) (by decide) (by decide) (by decide) (by decide)) (Eq.trans (congrFun ((congrFun eM_27 74).trans (jup_cell (by decide))) 14) (Eq.trans (fkh_26.2 14 (by decide) (by decide) (by decide) (by decide) (by decide)) (Eq.trans (fkh_23.2 14 (by decide) (by decide) (by decide) (by decide) (by decide)) (Eq.trans (congrFun ((congrFun eM_20 74).trans (jup_cell (by decide))) 14) (Eq.trans (fkh_19.2 14 (by decide) (by decide) (by decide) (by decide) (by decide)) (Eq.trans (fkh_16.2 14 (by decide) (by decide) (by decide) (by decide) (by decide)) (Eq.trans (congrFun ((congrFun eM_13 74).trans (jup_cell (by decide))) 14) (Eq.trans (fkh_12.2 14 (by decide) (by decide) (by decide) (by decide) (by decide)) (hw.2.1 14 (by decide) (by decide) (by decide) (by decide) (by decide)))))))))))))]; exact h_rtyped) (by rw [(Eq.trans (frh_59 84 (by decide) (by decide) (by decide)) (Eq.trans (frh_56 84 (by decide)) (Eq.trans (frh_30 84 (by decide)) (Eq.trans ((congrFun eM_27 84).trans (jup_cell (by decide))) (Eq.trans (frh_26 84 (by decide)) (Eq.trans (frh_23 84 (by decide)) (Eq.trans ((congrFun eM_20 84).trans (jup_cell (by decide))) (Eq.trans (frh_19 84 (by decide)) (Eq.trans (frh_16 84 (by decide)) (Eq.trans ((congrFun eM_13 84).trans (jup_cell (by decide))) (Eq.trans (frh_12 84 (by decide)) (hw.1 84 (by decide) (by decide)))))))))))))]; exact h_rtext) (by rw [(Eq.trans (frh_59 75 (by decide) (by decide) (by decide)) (Eq.trans (frh_56 75 (by decide)) (Eq.trans (frh_30 75 (by decide)) (Eq.trans ((congrFun eM_27 75).trans (jup_cell (by decide))) (Eq.trans (frh_26 75 (by decide)) (Eq.trans (frh_23 75 (by decide)) (Eq.trans ((congrFun eM_20 75).trans (jup_cell (by decide))) (Eq.trans (frh_19 75 (by decide)) (Eq.trans (frh_16 75 (by decide)) (Eq.trans ((congrFun eM_13 75).trans (jup_cell (by decide))) (Eq.trans (frh_12 75 (by decide)) (hw.1 75 (by decide) (by decide)))))))))))))]; exact h_rwords) zrd.1) rfl rfl (Nat.le_of_ble_eq_true rfl) (fun M_61 h_62 => ?_)
              obtain ⟨rkh_62, fkh_62⟩ := h_62
              have frh_62 := fkh_62.1
              exact ct187_31 M_61 (by first | exact rI2_no zp6 zw6 (by omega) | exact rI2_yes (by omega) (by omega) zw7 zrd (by omega) rkh_62 fkh_62)
          refine j_aload_n 0 dX9_readsRule_63 rfl rfl ?_
          refine j_callVi l_X9_203 ⟨Nat.le_of_ble_eq_true rfl, Nat.le_of_ble_eq_true rfl⟩ ⟨rfl, rfl⟩ dX9_readsRule_64 ob_74 (c_X9_isWell M_8) rfl rfl (Nat.le_of_ble_eq_true rfl) (fun r_63 M_64 h_65 => ?_)
          obtain ⟨er_63, nh_65⟩ := h_65
          refine j_eqM nh_65 ?_
          clear nh_65
          simp only [(Eq.trans (congrFun ((congrFun eM_8 74).trans (jup_cell (by decide))) 19) (Eq.trans (congrFun (hl1 74 (by decide)) 19) (adh_4.2.2.2 19 (by decide) (by decide) (by decide) (by decide))))] at er_63
          refine j_if_eq (tgt := 93) dX9_readsRule_67 (by decide) (fun c67_66 => ?_) (fun c67_66 => ?_)
          · skip
            exfalso; omega
          · skip
            refine j_aload_n 0 dX9_readsRule_70 rfl rfl ?_
            refine j_geti (k' := 16) f_X9_191 o_74_16 dX9_readsRule_71 rfl ?_
            refine j_eq (Eq.trans (congrFun ((congrFun eM_8 74).trans (jup_cell (by decide))) 16) (congrFun (hl1 74 (by decide)) 16)) ?_
            refine j_iconst dX9_readsRule_74 (by decide) ?_
            refine j_icmp_ne (tgt := 93) dX9_readsRule_75 (by decide) (fun c75_67 => ?_) (fun c75_67 => ?_)
            · skip
              have zq : pQ1 b A = lNx b A.1 := pQ1_k (by omega)
              refine j_sub (ls' := [(0, jR 74), (1, jI v1_5)]) [0, 1] rfl ?_
              exact ct93_9 M_8 ⟨by rw [zq]; first | exact zq0 | exact rkh_65, by first | exact zw0 | exact rHd_2 zw0 fkh_65⟩
            · skip
              refine j_aload_n 0 dX9_readsRule_78 rfl rfl ?_
              refine j_aload_n 0 dX9_readsRule_79 rfl rfl ?_
              refine j_geti (k' := 18) f_X9_194 o_74_18 dX9_readsRule_80 rfl ?_
              refine j_eq (Eq.trans (congrFun ((congrFun eM_8 74).trans (jup_cell (by decide))) 18) (congrFun (hl1 74 (by decide)) 18)) ?_
              refine j_callVi l_X9_238 ⟨Nat.le_of_ble_eq_true rfl, Nat.le_of_ble_eq_true rfl⟩ ⟨rfl, rfl⟩ dX9_readsRule_83 ob_74 (c_X9_find M_8 ((M_3 74 18)) (by omega)) rfl rfl (Nat.le_of_ble_eq_true rfl) (fun r_68 M_69 h_70 => ?_)
              obtain ⟨er_68, nh_70⟩ := h_70
              refine j_eqM nh_70 ?_
              clear nh_70
              simp only [(Eq.trans (congrFun ((congrFun eM_8 74).trans (jup_cell (by decide))) 21) (Eq.trans (congrFun (hl1 74 (by decide)) 21) (adh_4.2.2.2 21 (by decide) (by decide) (by decide) (by decide))))] at er_68
              refine j_if_lt (tgt := 93) dX9_readsRule_86 (by decide) (fun c86_71 => ?_) (fun c86_71 => ?_)
              · skip
                have zq : pQ1 b A = lNx b A.1 := pQ1_n (rQ_n hR zw0 za hn.1 r21 (b18 (by omega) (by omega)) er_68 (by omega))
                refine j_sub (ls' := [(0, jR 74), (1, jI v1_5)]) [0, 1] rfl ?_
                exact ct93_9 M_8 ⟨by rw [zq]; first | exact zq0 | exact rkh_70, by first | exact zw0 | exact rHd_2 zw0 fkh_70⟩
              · skip
                have zqy := rQ_y hR (fun j z => zw0.2.2.1 j (by omega)) hn.1 r21 (show lK b (lNx b A.1) = 2 by omega) (b18 (by omega) (by omega)) er_68 (by omega)
                have zq : pQ1 b A = fl (lNx b A.1) := pQ1_y (by omega)
                refine j_aload_n 0 dX9_readsRule_89 rfl rfl ?_
                refine j_callVv l_X9_213 ⟨Nat.le_of_ble_eq_true rfl, Nat.le_of_ble_eq_true rfl⟩ ⟨rfl, rfl⟩ dX9_readsRule_90 ob_74 (c_X9_fails M_8 b (lNx b A.1) zq0) rfl rfl (Nat.le_of_ble_eq_true rfl) (fun M_73 h_74 => ?_)
                obtain ⟨rkh_74, fkh_74⟩ := h_74
                have frh_74 := fkh_74.1
                refine j_sub (ls' := [(0, jR 74), (1, jI v1_5)]) [0, 1] rfl ?_
                exact ct93_9 M_73 ⟨by rw [zq]; first | exact zq0 | exact rkh_74, by first | exact zw0 | exact rHd_2 zw0 fkh_74⟩
        · skip
          refine j_aload_n 0 dX9_readsRule_38 rfl rfl ?_
          refine j_getr f_X9_41 r_74_22 dX9_readsRule_39 ?_
          refine j_iload_n 1 dX9_readsRule_42 rfl rfl ?_
          refine j_iload_n 2 dX9_readsRule_43 rfl rfl ?_
          refine j_iadd dX9_readsRule_44 (by omega) ?_
          refine j_bipush dX9_readsRule_45 (by decide) ?_
          refine j_iast a_85 dX9_readsRule_47 (by omega) (by omega) ?_
          refine j_nmM (fun M_75 eM_75 => ?_)
          obtain ⟨v2_76, ev2_76⟩ : ∃ y : Int, y = v2 + 1 := ⟨_, rfl⟩
          refine j_iinc (y := v2_76) (ls' := [(0, jR 74), (1, jI v1_5), (2, jI v2_76)]) 2 dX9_readsRule_48 rfl ev2_76 (by omega) (by decide) rfl ?_
          refine j_goto (tgt := 32) dX9_readsRule_51 (by decide) ?_
          exact ih32 v2_76 M_75 ⟨by omega, by intro c z; rw [eM_75, jup_cell z]; exact hl1 c z, by intro j; rw [eM_75, jup_at]; by_cases hj : j = v1_5 + v2; (· rw [if_pos hj, if_pos (by omega)]); (· rw [if_neg hj, hl2 j]; by_cases hc : v1_5 ≤ j ∧ j < v1_5 + v2; (· rw [if_pos hc, if_pos (by omega)]); (· rw [if_neg hc, if_neg (by omega)]))⟩ (by omega)
    exact lp32_6 _ 0 M_3 ⟨by omega, by intro c _; rfl, by intro j; rw [if_neg (by omega)]⟩ (Nat.lt_succ_self _)
  · skip
    refine j_aload_n 0 dX9_readsRule_9 rfl rfl ?_
    refine j_callVv l_X9_213 ⟨Nat.le_of_ble_eq_true rfl, Nat.le_of_ble_eq_true rfl⟩ ⟨rfl, rfl⟩ dX9_readsRule_10 ob_74 (c_X9_fails M b A.1 hp0) rfl rfl (Nat.le_of_ble_eq_true rfl) (fun M_78 h_79 => ?_)
    obtain ⟨rkh_79, fkh_79⟩ := h_79
    have frh_79 := fkh_79.1
    refine j_vret rfl rfl rfl rfl dX9_readsRule_13 ?_
    exact rsP_16 h0 hk (by omega) rkh_79 fkh_79
