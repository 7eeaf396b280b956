abbrev q_X5_readTest (M : jM) (b : Int → Int) (q f : Int) (hf : jA f) (S0 : Int) (W O : List Int)  : Int → jM → Prop := fun r N => rtP b f S0 q M N W O r
set_option maxHeartbeats 4000000 in
set_option maxRecDepth 20000 in
theorem c_X5_readTest {X : jX} (M : jM) (b : Int → Int) (q f : Int) (hf : jA f) (S0 : Int) (W O : List Int)  (h_ctyped : 0 ≤ M 71 0 ∧ M 71 0 ≤ 900) (h_ctext : ∀ i, -128 ≤ M 72 i ∧ M 72 i ≤ 127) (ht : cT b M q) (hc : cC f S0 M W O) (h7 : 0 ≤ M 71 7 ∧ M 71 7 ≤ 30) (hsz : M f 9 < 900) : jC yX5_readTest D_X5_readTest X FJ shJ [jR 71] M (jqI (q_X5_readTest M b q f hf S0 W O)) := by
  refine jC_of (by decide) rfl (fun ad => Nat.le_of_ble_eq_true rfl) (by decide) ?_
  show jG D_X5_readTest X FJ shJ 0 0 (jqI (q_X5_readTest M b q f hf S0 W O)) 0 [(0, jR 71)] [] M
  have hf2 : f = 47 ∨ f = 59 := hf
  have hbk := cT_bok ht h_ctyped
  have tq := (cT_tok ht).2.2.2.2.1
  have hs0 := hc.2.1
  have hs5 := hc.2.2.2.2.1
  refine j_aload_n 0 dX5_readTest_0 rfl rfl ?_
  refine j_callVi l_X5_178 ⟨Nat.le_of_ble_eq_true rfl, Nat.le_of_ble_eq_true rfl⟩ ⟨rfl, rfl⟩ dX5_readTest_1 ob_71 (c_X5_testWord M b q h_ctyped h_ctext ht) rfl rfl (Nat.le_of_ble_eq_true rfl) (fun r_1 M_2 h_3 => ?_)
  obtain ⟨er_1, nh_3⟩ := h_3
  refine j_eqM nh_3 ?_
  clear nh_3
  have hw_ : twD b q r_1 := by unfold twD; (repeat' split at er_1) <;> omega
  clear er_1
  have hw2 := twD_in hw_
  refine j_istore_n (ls' := [(0, jR 71), (1, jI r_1)]) dX5_readTest_4 rfl (by decide) rfl ?_
  refine j_iload_n 1 dX5_readTest_5 rfl rfl ?_
  refine j_bipush dX5_readTest_6 (by decide) ?_
  refine j_icmp_eq (tgt := 20) dX5_readTest_8 (by decide) (fun c8_4 => ?_) (fun c8_4 => ?_)
  · skip
    refine j_iconst dX5_readTest_20 (by decide) ?_
    refine j_zret rfl rfl rfl rfl dX5_readTest_21 (by omega) ?_
    exact ⟨Or.inr (Or.inr ⟨rfl, (by (unfold twD at hw_; omega)), (cT_tok ht).1⟩), cCF_rf f S0 M⟩
  · skip
    refine j_aload_n 0 dX5_readTest_11 rfl rfl ?_
    refine j_geti (k' := 7) f_X5_153 o_71_7 dX5_readTest_12 rfl ?_
    refine j_bipush dX5_readTest_15 (by decide) ?_
    refine j_icmp_ne (tgt := 22) dX5_readTest_17 (by decide) (fun c17_5 => ?_) (fun c17_5 => ?_)
    · skip
      refine j_aload_n 0 dX5_readTest_22 rfl rfl ?_
      refine j_dup dX5_readTest_23 rfl ?_
      refine j_geti (k' := 7) f_X5_153 o_71_7 dX5_readTest_24 rfl ?_
      refine j_iconst dX5_readTest_27 (by decide) ?_
      refine j_iadd dX5_readTest_28 (by omega) ?_
      refine j_puti (k' := 7) f_X5_153 o_71_7 dX5_readTest_29 rfl ?_
      refine j_nmM (fun M_6 eM_6 => ?_)
      have ta : cT b M_6 q := by rw [eM_6]; exact cT_up ht (Or.inl rfl)
      have cA_ : cC f S0 M_6 W O := by rw [eM_6]; exact cC_7 hf2 hc
      have fA : cCF f S0 M M_6 := by rw [eM_6]; exact (cCF_71 hf2 (Or.inl rfl))
      have eA := eM_6
      refine j_aload_n 0 dX5_readTest_32 rfl rfl ?_
      refine j_callVv l_X5_38 ⟨Nat.le_of_ble_eq_true rfl, Nat.le_of_ble_eq_true rfl⟩ ⟨rfl, rfl⟩ dX5_readTest_33 ob_71 (c_X5_step M_6 b (by rw [((congrFun (congrFun eM_6 71) 0).trans (jup_ne (by decide)))]; exact h_ctyped) (by rw [((congrFun eM_6 72).trans (jup_cell (by decide)))]; exact h_ctext) ta.1 (cT_pre ta (by rw [((congrFun (congrFun eM_6 71) 0).trans (jup_ne (by decide)))]; exact h_ctyped))) rfl rfl (Nat.le_of_ble_eq_true rfl) (fun M_8 h_9 => ?_)
      have sth_9 := h_9
      unfold q_X5_step at sth_9
      have frh_9 := sth_9.2.2.1
      have t1 := cT_step ta sth_9
      have c1 : cC f S0 M_8 W O := cC_fr hf2 sth_9.2.2 cA_
      have f1 : cCF f S0 M M_8 := cCF_tr fA (cCF_fr hf2 sth_9.2.2)
      have n7 : M_8 71 7 = M 71 7 + 1 := by rw [sth_9.2.2.2 7 (by decide) (by decide) (by decide) (by decide), eA, jup_self]
      have n9 : M_8 71 9 = M 71 9 := by rw [sth_9.2.2.2 9 (by decide) (by decide) (by decide) (by decide), eA, jup_ne (by decide)]
      have g9 : M_8 f 9 = M f 9 := by rw [sth_9.2.2.1 f (by omega), eA, jup_cellk (by omega)]
      have g0 : M_8 f 0 = M f 0 := by rw [sth_9.2.2.1 f (by omega), eA, jup_cellk (by omega)]
      have h6x : M_8 71 6 = f := c1.2.2.2.2.2
      have tq1 := (cT_tok t1).2.2.2.2.1
      have e71 : M_8 71 0 = M 71 0 := by rw [sth_9.2.2.2 0 (by decide) (by decide) (by decide) (by decide), eA, jup_ne (by decide)]
      have tk1 := (cT_tok t1).2.1
      have ks1 := sgD_of tk1
      have e3a := (cT_tok t1).1
      have c1_ := c1
      have n7_ := n7
      have n9_ := n9
      have g9_ := g9
      have g0_ := g0
      have f1_ := f1
      refine j_iload_n 1 dX5_readTest_36 rfl rfl ?_
      refine j_bipush dX5_readTest_37 (by decide) ?_
      refine j_icmp_ne (tgt := 53) dX5_readTest_39 (by decide) (fun c39_10 => ?_) (fun c39_10 => ?_)
      · skip
        refine j_iload_n 1 dX5_readTest_53 rfl rfl ?_
        refine j_bipush dX5_readTest_54 (by decide) ?_
        refine j_icmp_ne (tgt := 67) dX5_readTest_56 (by decide) (fun c56_11 => ?_) (fun c56_11 => ?_)
        · skip
          refine j_aload_n 0 dX5_readTest_67 rfl rfl ?_
          refine j_geti (k' := 2) f_X5_41 o_71_2 dX5_readTest_68 rfl ?_
          refine j_bipush dX5_readTest_71 (by decide) ?_
          refine j_icmp_eq (tgt := 79) dX5_readTest_73 (by decide) (fun c73_12 => ?_) (fun c73_12 => ?_)
          · skip
            refine j_iload_n 1 dX5_readTest_79 rfl rfl ?_
            refine j_bipush dX5_readTest_80 (by decide) ?_
            refine j_icmp_ne (tgt := 87) dX5_readTest_82 (by decide) (fun c82_13 => ?_) (fun c82_13 => ?_)
            · skip
              refine j_aload_n 0 dX5_readTest_87 rfl rfl ?_
              refine j_callVv l_X5_38 ⟨Nat.le_of_ble_eq_true rfl, Nat.le_of_ble_eq_true rfl⟩ ⟨rfl, rfl⟩ dX5_readTest_88 ob_71 (c_X5_step M_8 b (by rw [(Eq.trans (sth_9.2.2.2 0 (by decide) (by decide) (by decide) (by decide)) ((congrFun (congrFun eM_6 71) 0).trans (jup_ne (by decide))))]; exact h_ctyped) (by rw [(Eq.trans (frh_9 72 (by decide)) ((congrFun eM_6 72).trans (jup_cell (by decide))))]; exact h_ctext) t1.1 (cT_pre t1 (by rw [(Eq.trans (sth_9.2.2.2 0 (by decide) (by decide) (by decide) (by decide)) ((congrFun (congrFun eM_6 71) 0).trans (jup_ne (by decide))))]; exact h_ctyped))) rfl rfl (Nat.le_of_ble_eq_true rfl) (fun M_15 h_16 => ?_)
              have sth_16 := h_16
              unfold q_X5_step at sth_16
              have frh_16 := sth_16.2.2.1
              have t2 := cT_step t1 sth_16
              have c2 : cC f S0 M_15 W O := cC_fr hf2 sth_16.2.2 c1_
              have f2 : cCF f S0 M M_15 := cCF_tr f1_ (cCF_fr hf2 sth_16.2.2)
              have fs2 := sth_16.2.2
              have tq2 := (cT_tok t2).2.2.2.2.1
              have e3b := (cT_tok t2).1
              refine j_aload_n 0 dX5_readTest_91 rfl rfl ?_
              refine j_iconst dX5_readTest_92 (by decide) ?_
              refine j_sipush dX5_readTest_93 (by decide) ?_
              refine j_callVi l_X5_90 ⟨Nat.le_of_ble_eq_true rfl, Nat.le_of_ble_eq_true rfl⟩ ⟨rfl, rfl⟩ dX5_readTest_96 ob_71 (c_X5_takeNumber M_15 b (lNx b (lNx b q)) 0 9999 (by rw [(Eq.trans (sth_16.2.2.2 0 (by decide) (by decide) (by decide) (by decide)) (Eq.trans (sth_9.2.2.2 0 (by decide) (by decide) (by decide) (by decide)) ((congrFun (congrFun eM_6 71) 0).trans (jup_ne (by decide)))))]; exact h_ctyped) (by rw [(Eq.trans (frh_16 72 (by decide)) (Eq.trans (frh_9 72 (by decide)) ((congrFun eM_6 72).trans (jup_cell (by decide)))))]; exact h_ctext) t2) rfl rfl (Nat.le_of_ble_eq_true rfl) (fun r_17 M_18 h_19 => ?_)
              obtain ⟨tkh_19, fkh_19⟩ := h_19
              have frh_19 := fkh_19.1
              have c3 : cC f S0 M_18 W O := cC_fr hf2 fkh_19 c2
              have f3 : cCF f S0 M M_18 := cCF_tr f2 (cCF_fr hf2 fkh_19)
              have f4 := cFr_tr fs2 fkh_19
              have h6x : M_18 71 6 = f := c3.2.2.2.2.2
              have n7 : M_18 71 7 = M 71 7 + 1 := by rw [f4.2 7 (by decide) (by decide) (by decide) (by decide), n7_]
              have n9 : M_18 71 9 = M 71 9 := by rw [f4.2 9 (by decide) (by decide) (by decide) (by decide), n9_]
              have g9 : M_18 f 9 = M f 9 := by rw [f4.1 f (by omega), g9_]
              have g0 : M_18 f 0 = M f 0 := by rw [f4.1 f (by omega), g0_]
              have tkn := tkh_19
              clear tkh_19
              refine j_istore_n (ls' := [(0, jR 71), (1, jI r_1), (2, jI r_17)]) dX5_readTest_99 rfl (by decide) rfl ?_
              refine j_iload_n 2 dX5_readTest_100 rfl rfl ?_
              refine j_bipush dX5_readTest_101 (by decide) ?_
              refine j_icmp_ne (tgt := 108) dX5_readTest_103 (by decide) (fun c103_20 => ?_) (fun c103_20 => ?_)
              · skip
                have ty := tkn_yes tkn (by omega)
                clear tkn
                refine j_aload_n 0 dX5_readTest_108 rfl rfl ?_
                refine j_getd (k' := 6) f_X5_19 o_71_6 dX5_readTest_109 rfl ?_
                refine j_eqR (y := f) (by exact h6x) ?_
                refine j_iload_n 1 dX5_readTest_112 rfl rfl ?_
                refine j_iload_n 2 dX5_readTest_113 rfl rfl ?_
                refine j_callVv l_X5_175 ⟨Nat.le_of_ble_eq_true rfl, Nat.le_of_ble_eq_true rfl⟩ ⟨rfl, rfl⟩ dX5_readTest_114 (oba hf) (c_X0_addStep M_18 f hf r_1 r_17 (by rw [g0]; omega) (by rw [g9]; omega)) rfl rfl (Nat.le_of_ble_eq_true rfl) (fun M_22 h_23 => ?_)
                have eM_22 := h_23
                unfold q_X0_addStep at eM_22
                refine j_iconst dX5_readTest_117 (by decide) ?_
                refine j_zret rfl rfl rfl rfl dX5_readTest_118 (by omega) ?_
                have hv : ¬ lV b q = 10 ∧ lK b q = 1 ∧ isTW (lV b q) ∧ M 71 7 < 30 ∧ sOk b (lV b q) (lNx b q) := by (unfold twD at hw_; (try unfold agD at hg_); unfold sgD at ks1; omega)
                have hb := (pT3_num hv.1 (by omega) hv.2.2.2.2 (by omega)).1 ty.2.1
                have ho := pTo_w (b := b) (s := lNx b q) hv.2.2.1
                have ho2 : pTo b (lV b q) (lNx b q) + 4 = r_1 := by (unfold twD at hw_; (try unfold agD at hg_); unfold sgD at ks1; omega)
                have tq3 := (cT_tok ty.2.2).2.2.2.2.1
                have ca := cC_add (s := r_1) (n := r_17) hf2 c3
                unfold cAdd at ca
                rw [← eM_22] at ca
                refine ⟨Or.inl ⟨rfl, ⟨hv.2.1, hv.2.2.1, hv.2.2.2.1⟩, by omega, by rw [hb.1, eM_22]; exact cT_add hf2 ty.2.2, by rw [ho2, hb.2, ← ty.1]; exact ca.1, by rw [eM_22, jup_cellk (by omega), jup_cellk (by omega), jup_cellk (by omega)]; exact n7, by rw [eM_22, jup_cellk (by omega), jup_cellk (by omega), jup_cellk (by omega)]; exact n9, by rw [eM_22, jup_cellk (by omega), jup_self]; omega⟩, cCF_tr f3 ca.2⟩
              · skip
                have tno := tkn_no tkn (by omega) (fun z => z.2.1)
                clear tkn
                refine j_iconst dX5_readTest_106 (by decide) ?_
                refine j_zret rfl rfl rfl rfl dX5_readTest_107 (by omega) ?_
                have hv : ¬ lV b q = 10 ∧ lK b q = 1 ∧ isTW (lV b q) ∧ M 71 7 < 30 ∧ sOk b (lV b q) (lNx b q) := by (unfold twD at hw_; (try unfold agD at hg_); unfold sgD at ks1; omega)
                have hb := (pT3_num hv.1 (by omega) hv.2.2.2.2 (by omega)).2 tno.1
                have e3 := (cT_tok tno.2).1
                exact ⟨Or.inr (Or.inl ⟨rfl, ⟨hv.2.1, hv.2.2.1, hv.2.2.2.1⟩, by omega, by omega⟩), f3⟩
            · skip
              refine j_iconst dX5_readTest_85 (by decide) ?_
              refine j_zret rfl rfl rfl rfl dX5_readTest_86 (by omega) ?_
              have hv : ¬ lV b q = 10 ∧ lK b q = 1 ∧ isTW (lV b q) ∧ M 71 7 < 30 ∧ ¬ sOk b (lV b q) (lNx b q) := by (unfold twD at hw_; (try unfold agD at hg_); unfold sgD at ks1; omega)
              have hb := pT3_bad hv.1 (by omega) hv.2.2.2.2
              exact ⟨Or.inr (Or.inl ⟨rfl, ⟨hv.2.1, hv.2.2.1, hv.2.2.2.1⟩, by omega, by omega⟩), f1⟩
          · skip
            refine j_bipush dX5_readTest_76 (by decide) ?_
            refine j_istore_n (ls' := [(0, jR 71), (1, jI (-9))]) dX5_readTest_78 rfl (by decide) rfl ?_
            refine j_iload_n 1 dX5_readTest_79 rfl rfl ?_
            refine j_bipush dX5_readTest_80 (by decide) ?_
            refine j_icmp_ne (tgt := 87) dX5_readTest_82 (by decide) (fun c82_24 => ?_) (fun c82_24 => ?_)
            · skip
              refine j_aload_n 0 dX5_readTest_87 rfl rfl ?_
              refine j_callVv l_X5_38 ⟨Nat.le_of_ble_eq_true rfl, Nat.le_of_ble_eq_true rfl⟩ ⟨rfl, rfl⟩ dX5_readTest_88 ob_71 (c_X5_step M_8 b (by rw [(Eq.trans (sth_9.2.2.2 0 (by decide) (by decide) (by decide) (by decide)) ((congrFun (congrFun eM_6 71) 0).trans (jup_ne (by decide))))]; exact h_ctyped) (by rw [(Eq.trans (frh_9 72 (by decide)) ((congrFun eM_6 72).trans (jup_cell (by decide))))]; exact h_ctext) t1.1 (cT_pre t1 (by rw [(Eq.trans (sth_9.2.2.2 0 (by decide) (by decide) (by decide) (by decide)) ((congrFun (congrFun eM_6 71) 0).trans (jup_ne (by decide))))]; exact h_ctyped))) rfl rfl (Nat.le_of_ble_eq_true rfl) (fun M_26 h_27 => ?_)
              have sth_27 := h_27
              unfold q_X5_step at sth_27
              have frh_27 := sth_27.2.2.1
              have t2 := cT_step t1 sth_27
              have c2 : cC f S0 M_26 W O := cC_fr hf2 sth_27.2.2 c1_
              have f2 : cCF f S0 M M_26 := cCF_tr f1_ (cCF_fr hf2 sth_27.2.2)
              have fs2 := sth_27.2.2
              have tq2 := (cT_tok t2).2.2.2.2.1
              have e3b := (cT_tok t2).1
              refine j_aload_n 0 dX5_readTest_91 rfl rfl ?_
              refine j_iconst dX5_readTest_92 (by decide) ?_
              refine j_sipush dX5_readTest_93 (by decide) ?_
              refine j_callVi l_X5_90 ⟨Nat.le_of_ble_eq_true rfl, Nat.le_of_ble_eq_true rfl⟩ ⟨rfl, rfl⟩ dX5_readTest_96 ob_71 (c_X5_takeNumber M_26 b (lNx b (lNx b q)) 0 9999 (by rw [(Eq.trans (sth_27.2.2.2 0 (by decide) (by decide) (by decide) (by decide)) (Eq.trans (sth_9.2.2.2 0 (by decide) (by decide) (by decide) (by decide)) ((congrFun (congrFun eM_6 71) 0).trans (jup_ne (by decide)))))]; exact h_ctyped) (by rw [(Eq.trans (frh_27 72 (by decide)) (Eq.trans (frh_9 72 (by decide)) ((congrFun eM_6 72).trans (jup_cell (by decide)))))]; exact h_ctext) t2) rfl rfl (Nat.le_of_ble_eq_true rfl) (fun r_28 M_29 h_30 => ?_)
              obtain ⟨tkh_30, fkh_30⟩ := h_30
              have frh_30 := fkh_30.1
              have c3 : cC f S0 M_29 W O := cC_fr hf2 fkh_30 c2
              have f3 : cCF f S0 M M_29 := cCF_tr f2 (cCF_fr hf2 fkh_30)
              have f4 := cFr_tr fs2 fkh_30
              have h6x : M_29 71 6 = f := c3.2.2.2.2.2
              have n7 : M_29 71 7 = M 71 7 + 1 := by rw [f4.2 7 (by decide) (by decide) (by decide) (by decide), n7_]
              have n9 : M_29 71 9 = M 71 9 := by rw [f4.2 9 (by decide) (by decide) (by decide) (by decide), n9_]
              have g9 : M_29 f 9 = M f 9 := by rw [f4.1 f (by omega), g9_]
              have g0 : M_29 f 0 = M f 0 := by rw [f4.1 f (by omega), g0_]
              have tkn := tkh_30
              clear tkh_30
              refine j_istore_n (ls' := [(0, jR 71), (1, jI (-9)), (2, jI r_28)]) dX5_readTest_99 rfl (by decide) rfl ?_
              refine j_iload_n 2 dX5_readTest_100 rfl rfl ?_
              refine j_bipush dX5_readTest_101 (by decide) ?_
              refine j_icmp_ne (tgt := 108) dX5_readTest_103 (by decide) (fun c103_31 => ?_) (fun c103_31 => ?_)
              · skip
                have ty := tkn_yes tkn (by omega)
                clear tkn
                refine j_aload_n 0 dX5_readTest_108 rfl rfl ?_
                refine j_getd (k' := 6) f_X5_19 o_71_6 dX5_readTest_109 rfl ?_
                refine j_eqR (y := f) (by exact h6x) ?_
                refine j_iload_n 1 dX5_readTest_112 rfl rfl ?_
                refine j_iload_n 2 dX5_readTest_113 rfl rfl ?_
                refine j_callVv l_X5_175 ⟨Nat.le_of_ble_eq_true rfl, Nat.le_of_ble_eq_true rfl⟩ ⟨rfl, rfl⟩ dX5_readTest_114 (oba hf) (c_X0_addStep M_29 f hf (-9) r_28 (by rw [g0]; omega) (by rw [g9]; omega)) rfl rfl (Nat.le_of_ble_eq_true rfl) (fun M_33 h_34 => ?_)
                have eM_33 := h_34
                unfold q_X0_addStep at eM_33
                refine j_iconst dX5_readTest_117 (by decide) ?_
                refine j_zret rfl rfl rfl rfl dX5_readTest_118 (by omega) ?_
                have hv : ¬ lV b q = 10 ∧ lK b q = 1 ∧ isTW (lV b q) ∧ M 71 7 < 30 ∧ sOk b (lV b q) (lNx b q) := by (unfold twD at hw_; (try unfold agD at hg_); unfold sgD at ks1; omega)
                have hb := (pT3_num hv.1 (by omega) hv.2.2.2.2 (by omega)).1 ty.2.1
                have ho := pTo_w (b := b) (s := lNx b q) hv.2.2.1
                have ho2 : pTo b (lV b q) (lNx b q) + 4 = (-9) := by (unfold twD at hw_; (try unfold agD at hg_); unfold sgD at ks1; omega)
                have tq3 := (cT_tok ty.2.2).2.2.2.2.1
                have ca := cC_add (s := (-9)) (n := r_28) hf2 c3
                unfold cAdd at ca
                rw [← eM_33] at ca
                refine ⟨Or.inl ⟨rfl, ⟨hv.2.1, hv.2.2.1, hv.2.2.2.1⟩, by omega, by rw [hb.1, eM_33]; exact cT_add hf2 ty.2.2, by rw [ho2, hb.2, ← ty.1]; exact ca.1, by rw [eM_33, jup_cellk (by omega), jup_cellk (by omega), jup_cellk (by omega)]; exact n7, by rw [eM_33, jup_cellk (by omega), jup_cellk (by omega), jup_cellk (by omega)]; exact n9, by rw [eM_33, jup_cellk (by omega), jup_self]; omega⟩, cCF_tr f3 ca.2⟩
              · skip
                have tno := tkn_no tkn (by omega) (fun z => z.2.1)
                clear tkn
                refine j_iconst dX5_readTest_106 (by decide) ?_
                refine j_zret rfl rfl rfl rfl dX5_readTest_107 (by omega) ?_
                have hv : ¬ lV b q = 10 ∧ lK b q = 1 ∧ isTW (lV b q) ∧ M 71 7 < 30 ∧ sOk b (lV b q) (lNx b q) := by (unfold twD at hw_; (try unfold agD at hg_); unfold sgD at ks1; omega)
                have hb := (pT3_num hv.1 (by omega) hv.2.2.2.2 (by omega)).2 tno.1
                have e3 := (cT_tok tno.2).1
                exact ⟨Or.inr (Or.inl ⟨rfl, ⟨hv.2.1, hv.2.2.1, hv.2.2.2.1⟩, by omega, by omega⟩), f3⟩
            · skip
              refine j_iconst dX5_readTest_85 (by decide) ?_
              refine j_zret rfl rfl rfl rfl dX5_readTest_86 (by omega) ?_
              have hv : ¬ lV b q = 10 ∧ lK b q = 1 ∧ isTW (lV b q) ∧ M 71 7 < 30 ∧ ¬ sOk b (lV b q) (lNx b q) := by (unfold twD at hw_; (try unfold agD at hg_); unfold sgD at ks1; omega)
              have hb := pT3_bad hv.1 (by omega) hv.2.2.2.2
              exact ⟨Or.inr (Or.inl ⟨rfl, ⟨hv.2.1, hv.2.2.1, hv.2.2.2.1⟩, by omega, by omega⟩), f1⟩
        · skip
          refine j_aload_n 0 dX5_readTest_59 rfl rfl ?_
          refine j_callVi l_X5_181 ⟨Nat.le_of_ble_eq_true rfl, Nat.le_of_ble_eq_true rfl⟩ ⟨rfl, rfl⟩ dX5_readTest_60 ob_71 (c_X5_ageSign M_8 b (lNx b q) t1) rfl rfl (Nat.le_of_ble_eq_true rfl) (fun r_35 M_36 h_37 => ?_)
          obtain ⟨er_35, nh_37⟩ := h_37
          refine j_eqM nh_37 ?_
          clear nh_37
          have hg_ : agD b (lNx b q) r_35 := by unfold agD; (repeat' split at er_35) <;> omega
          clear er_35
          have hg2 := agD_in hg_
          refine j_istore_n (ls' := [(0, jR 71), (1, jI r_35)]) dX5_readTest_63 rfl (by decide) rfl ?_
          refine j_goto (tgt := 79) dX5_readTest_64 (by decide) ?_
          refine j_iload_n 1 dX5_readTest_79 rfl rfl ?_
          refine j_bipush dX5_readTest_80 (by decide) ?_
          refine j_icmp_ne (tgt := 87) dX5_readTest_82 (by decide) (fun c82_38 => ?_) (fun c82_38 => ?_)
          · skip
            refine j_aload_n 0 dX5_readTest_87 rfl rfl ?_
            refine j_callVv l_X5_38 ⟨Nat.le_of_ble_eq_true rfl, Nat.le_of_ble_eq_true rfl⟩ ⟨rfl, rfl⟩ dX5_readTest_88 ob_71 (c_X5_step M_8 b (by rw [(Eq.trans (sth_9.2.2.2 0 (by decide) (by decide) (by decide) (by decide)) ((congrFun (congrFun eM_6 71) 0).trans (jup_ne (by decide))))]; exact h_ctyped) (by rw [(Eq.trans (frh_9 72 (by decide)) ((congrFun eM_6 72).trans (jup_cell (by decide))))]; exact h_ctext) t1.1 (cT_pre t1 (by rw [(Eq.trans (sth_9.2.2.2 0 (by decide) (by decide) (by decide) (by decide)) ((congrFun (congrFun eM_6 71) 0).trans (jup_ne (by decide))))]; exact h_ctyped))) rfl rfl (Nat.le_of_ble_eq_true rfl) (fun M_40 h_41 => ?_)
            have sth_41 := h_41
            unfold q_X5_step at sth_41
            have frh_41 := sth_41.2.2.1
            have t2 := cT_step t1 sth_41
            have c2 : cC f S0 M_40 W O := cC_fr hf2 sth_41.2.2 c1_
            have f2 : cCF f S0 M M_40 := cCF_tr f1_ (cCF_fr hf2 sth_41.2.2)
            have fs2 := sth_41.2.2
            have tq2 := (cT_tok t2).2.2.2.2.1
            have e3b := (cT_tok t2).1
            refine j_aload_n 0 dX5_readTest_91 rfl rfl ?_
            refine j_iconst dX5_readTest_92 (by decide) ?_
            refine j_sipush dX5_readTest_93 (by decide) ?_
            refine j_callVi l_X5_90 ⟨Nat.le_of_ble_eq_true rfl, Nat.le_of_ble_eq_true rfl⟩ ⟨rfl, rfl⟩ dX5_readTest_96 ob_71 (c_X5_takeNumber M_40 b (lNx b (lNx b q)) 0 9999 (by rw [(Eq.trans (sth_41.2.2.2 0 (by decide) (by decide) (by decide) (by decide)) (Eq.trans (sth_9.2.2.2 0 (by decide) (by decide) (by decide) (by decide)) ((congrFun (congrFun eM_6 71) 0).trans (jup_ne (by decide)))))]; exact h_ctyped) (by rw [(Eq.trans (frh_41 72 (by decide)) (Eq.trans (frh_9 72 (by decide)) ((congrFun eM_6 72).trans (jup_cell (by decide)))))]; exact h_ctext) t2) rfl rfl (Nat.le_of_ble_eq_true rfl) (fun r_42 M_43 h_44 => ?_)
            obtain ⟨tkh_44, fkh_44⟩ := h_44
            have frh_44 := fkh_44.1
            have c3 : cC f S0 M_43 W O := cC_fr hf2 fkh_44 c2
            have f3 : cCF f S0 M M_43 := cCF_tr f2 (cCF_fr hf2 fkh_44)
            have f4 := cFr_tr fs2 fkh_44
            have h6x : M_43 71 6 = f := c3.2.2.2.2.2
            have n7 : M_43 71 7 = M 71 7 + 1 := by rw [f4.2 7 (by decide) (by decide) (by decide) (by decide), n7_]
            have n9 : M_43 71 9 = M 71 9 := by rw [f4.2 9 (by decide) (by decide) (by decide) (by decide), n9_]
            have g9 : M_43 f 9 = M f 9 := by rw [f4.1 f (by omega), g9_]
            have g0 : M_43 f 0 = M f 0 := by rw [f4.1 f (by omega), g0_]
            have tkn := tkh_44
            clear tkh_44
            refine j_istore_n (ls' := [(0, jR 71), (1, jI r_35), (2, jI r_42)]) dX5_readTest_99 rfl (by decide) rfl ?_
            refine j_iload_n 2 dX5_readTest_100 rfl rfl ?_
            refine j_bipush dX5_readTest_101 (by decide) ?_
            refine j_icmp_ne (tgt := 108) dX5_readTest_103 (by decide) (fun c103_45 => ?_) (fun c103_45 => ?_)
            · skip
              have ty := tkn_yes tkn (by omega)
              clear tkn
              refine j_aload_n 0 dX5_readTest_108 rfl rfl ?_
              refine j_getd (k' := 6) f_X5_19 o_71_6 dX5_readTest_109 rfl ?_
              refine j_eqR (y := f) (by exact h6x) ?_
              refine j_iload_n 1 dX5_readTest_112 rfl rfl ?_
              refine j_iload_n 2 dX5_readTest_113 rfl rfl ?_
              refine j_callVv l_X5_175 ⟨Nat.le_of_ble_eq_true rfl, Nat.le_of_ble_eq_true rfl⟩ ⟨rfl, rfl⟩ dX5_readTest_114 (oba hf) (c_X0_addStep M_43 f hf r_35 r_42 (by rw [g0]; omega) (by rw [g9]; omega)) rfl rfl (Nat.le_of_ble_eq_true rfl) (fun M_47 h_48 => ?_)
              have eM_47 := h_48
              unfold q_X0_addStep at eM_47
              refine j_iconst dX5_readTest_117 (by decide) ?_
              refine j_zret rfl rfl rfl rfl dX5_readTest_118 (by omega) ?_
              have hv : ¬ lV b q = 10 ∧ lK b q = 1 ∧ isTW (lV b q) ∧ M 71 7 < 30 ∧ sOk b (lV b q) (lNx b q) := by (unfold twD at hw_; (try unfold agD at hg_); unfold sgD at ks1; omega)
              have hb := (pT3_num hv.1 (by omega) hv.2.2.2.2 (by omega)).1 ty.2.1
              have ho := pTo_w (b := b) (s := lNx b q) hv.2.2.1
              have ho2 : pTo b (lV b q) (lNx b q) + 4 = r_35 := by (unfold twD at hw_; (try unfold agD at hg_); unfold sgD at ks1; omega)
              have tq3 := (cT_tok ty.2.2).2.2.2.2.1
              have ca := cC_add (s := r_35) (n := r_42) hf2 c3
              unfold cAdd at ca
              rw [← eM_47] at ca
              refine ⟨Or.inl ⟨rfl, ⟨hv.2.1, hv.2.2.1, hv.2.2.2.1⟩, by omega, by rw [hb.1, eM_47]; exact cT_add hf2 ty.2.2, by rw [ho2, hb.2, ← ty.1]; exact ca.1, by rw [eM_47, jup_cellk (by omega), jup_cellk (by omega), jup_cellk (by omega)]; exact n7, by rw [eM_47, jup_cellk (by omega), jup_cellk (by omega), jup_cellk (by omega)]; exact n9, by rw [eM_47, jup_cellk (by omega), jup_self]; omega⟩, cCF_tr f3 ca.2⟩
            · skip
              have tno := tkn_no tkn (by omega) (fun z => z.2.1)
              clear tkn
              refine j_iconst dX5_readTest_106 (by decide) ?_
              refine j_zret rfl rfl rfl rfl dX5_readTest_107 (by omega) ?_
              have hv : ¬ lV b q = 10 ∧ lK b q = 1 ∧ isTW (lV b q) ∧ M 71 7 < 30 ∧ sOk b (lV b q) (lNx b q) := by (unfold twD at hw_; (try unfold agD at hg_); unfold sgD at ks1; omega)
              have hb := (pT3_num hv.1 (by omega) hv.2.2.2.2 (by omega)).2 tno.1
              have e3 := (cT_tok tno.2).1
              exact ⟨Or.inr (Or.inl ⟨rfl, ⟨hv.2.1, hv.2.2.1, hv.2.2.2.1⟩, by omega, by omega⟩), f3⟩
          · skip
            refine j_iconst dX5_readTest_85 (by decide) ?_
            refine j_zret rfl rfl rfl rfl dX5_readTest_86 (by omega) ?_
            have hv : ¬ lV b q = 10 ∧ lK b q = 1 ∧ isTW (lV b q) ∧ M 71 7 < 30 ∧ ¬ sOk b (lV b q) (lNx b q) := by (unfold twD at hw_; (try unfold agD at hg_); unfold sgD at ks1; omega)
            have hb := pT3_bad hv.1 (by omega) hv.2.2.2.2
            exact ⟨Or.inr (Or.inl ⟨rfl, ⟨hv.2.1, hv.2.2.1, hv.2.2.2.1⟩, by omega, by omega⟩), f1⟩
      · skip
        refine j_aload_n 0 dX5_readTest_42 rfl rfl ?_
        refine j_getd (k' := 6) f_X5_19 o_71_6 dX5_readTest_43 rfl ?_
        refine j_eqR (y := f) (by exact h6x) ?_
        refine j_iload_n 1 dX5_readTest_46 rfl rfl ?_
        refine j_iconst dX5_readTest_47 (by decide) ?_
        refine j_callVv l_X5_175 ⟨Nat.le_of_ble_eq_true rfl, Nat.le_of_ble_eq_true rfl⟩ ⟨rfl, rfl⟩ dX5_readTest_48 (oba hf) (c_X0_addStep M_8 f hf r_1 0 (by rw [g0]; omega) (by rw [g9]; omega)) rfl rfl (Nat.le_of_ble_eq_true rfl) (fun M_50 h_51 => ?_)
        have eM_50 := h_51
        unfold q_X0_addStep at eM_50
        refine j_iconst dX5_readTest_51 (by decide) ?_
        refine j_zret rfl rfl rfl rfl dX5_readTest_52 (by omega) ?_
        have hv10 : lV b q = 10 ∧ lK b q = 1 := by (unfold twD at hw_; omega)
        have hp := pT3_paper hv10.1
        have ca := cC_add (s := r_1) (n := 0) hf2 c1
        unfold cAdd at ca
        rw [← eM_50] at ca
        refine ⟨Or.inl ⟨rfl, ⟨hv10.2, by omega, by omega⟩, by rw [hp.1]; omega, by rw [hp.1, eM_50]; exact cT_add hf2 t1, by rw [hp.2.1, hp.2.2, show (6 : Int) + 4 = r_1 by omega]; exact ca.1, by rw [eM_50, jup_cellk (by omega), jup_cellk (by omega), jup_cellk (by omega)]; exact n7, by rw [eM_50, jup_cellk (by omega), jup_cellk (by omega), jup_cellk (by omega)]; exact n9, by rw [eM_50, jup_cellk (by omega), jup_self]; omega⟩, cCF_tr f1 ca.2⟩
    · skip
      refine j_iconst dX5_readTest_20 (by decide) ?_
      refine j_zret rfl rfl rfl rfl dX5_readTest_21 (by omega) ?_
      exact ⟨Or.inr (Or.inr ⟨rfl, (by (unfold twD at hw_; omega)), (cT_tok ht).1⟩), cCF_rf f S0 M⟩
