abbrev q_X5_readInto (M : jM) (b : Int → Int) (f : Int) : Int → jM → Prop := fun r N => ciP f M N (pTxt b) r
set_option maxHeartbeats 4000000 in
set_option maxRecDepth 20000 in
theorem c_X5_readInto {X : jX} (M : jM) (b : Int → Int) (f : Int) (h_ctyped : 0 ≤ M 71 0 ∧ M 71 0 ≤ 900) (h_ctext : ∀ i, -128 ≤ M 72 i ∧ M 72 i ≤ 127) (hf : jA f) (hb : cTx M = b) : jC yX5_readInto D_X5_readInto X FJ shJ [jR 71, jR f] M (jqI (q_X5_readInto M b f)) := by
  refine jC_of (by decide) rfl (fun ad => Nat.le_of_ble_eq_true rfl) (by decide) ?_
  show jG D_X5_readInto X FJ shJ 0 0 (jqI (q_X5_readInto M b f)) 0 [(0, jR 71), (1, jR f)] [] M
  have hf2 : f = 47 ∨ f = 59 := hf
  have hwm : wMap 0 = 0 ∧ wMap 15 = 4 := by decide
  have hbk : bOk b (M 71 0) := by rw [← hb]; exact cTx_ok h_ctyped
  refine j_aload_n 0 dX5_readInto_0 rfl rfl ?_
  refine j_aload_n 1 dX5_readInto_1 rfl rfl ?_
  refine j_putd (k' := 6) f_X5_19 o_71_6 (by rcases hf2 with z | z <;> omega) dX5_readInto_2 rfl ?_
  refine j_nmM (fun M_1 eM_1 => ?_)
  refine j_aload_n 1 dX5_readInto_5 rfl rfl ?_
  refine j_callVv l_X5_27 ⟨Nat.le_of_ble_eq_true rfl, Nat.le_of_ble_eq_true rfl⟩ ⟨rfl, rfl⟩ dX5_readInto_6 (oba hf) (c_X0_forget M_1 f hf) rfl rfl (Nat.le_of_ble_eq_true rfl) (fun M_3 h_4 => ?_)
  have eM_3 := h_4
  unfold q_X0_forget at eM_3
  refine j_aload_n 0 dX5_readInto_9 rfl rfl ?_
  refine j_iconst dX5_readInto_10 (by decide) ?_
  refine j_puti (k' := 3) f_X5_32 o_71_3 dX5_readInto_11 rfl ?_
  refine j_nmM (fun M_5 eM_5 => ?_)
  refine j_aload_n 0 dX5_readInto_14 rfl rfl ?_
  refine j_iconst dX5_readInto_15 (by decide) ?_
  refine j_puti (k' := 4) f_X5_35 o_71_4 dX5_readInto_16 rfl ?_
  refine j_nmM (fun M_6 eM_6 => ?_)
  have zE : M_6 = jup (jup (jup (jup (jup M 71 6 f) f 0 0) f 9 0) 71 3 0) 71 4 0 := by rw [eM_6, eM_5, eM_3, eM_1]
  have ty : 0 ≤ M_6 71 0 ∧ M_6 71 0 ≤ 900 := by rw [zE, jup_ne (by decide), jup_ne (by decide), jup_cellk (by omega), jup_cellk (by omega), jup_ne (by decide)]; exact h_ctyped
  have z72 : M_6 72 = M 72 := by rw [zE, jup_cell (by decide), jup_cell (by decide), jup_cell (by omega), jup_cell (by omega), jup_cell (by decide)]
  have tx : ∀ i, -128 ≤ M_6 72 i ∧ M_6 72 i ≤ 127 := by rw [z72]; exact h_ctext
  have zx : cTx M_6 = b := by rw [← hb]; exact cTx_cg (by rw [zE, jup_ne (by decide), jup_ne (by decide), jup_cellk (by omega), jup_cellk (by omega), jup_ne (by decide)]) z72
  have z3 : M_6 71 3 = 0 := by rw [zE, jup_ne (by decide), jup_self]
  have z4 : M_6 71 4 = 0 := by rw [zE, jup_self]
  have zp : 0 ≤ M_6 71 3 ∧ 0 ≤ M_6 71 4 ∧ M_6 71 3 + M_6 71 4 ≤ M_6 71 0 := by omega
  refine j_aload_n 0 dX5_readInto_19 rfl rfl ?_
  refine j_callVv l_X5_38 ⟨Nat.le_of_ble_eq_true rfl, Nat.le_of_ble_eq_true rfl⟩ ⟨rfl, rfl⟩ dX5_readInto_20 ob_71 (c_X5_step M_6 b (by assumption) (by assumption) zx zp) rfl rfl (Nat.le_of_ble_eq_true rfl) (fun M_8 h_9 => ?_)
  have sth_9 := h_9
  unfold q_X5_step at sth_9
  have frh_9 := sth_9.2.2.1
  have zI := ciI_0 hf2 hbk zE hb sth_9
  clear ty tx zx z3 z4 zp
  refine j_iconst dX5_readInto_23 (by decide) ?_
  refine j_istore_n (ls' := [(0, jR 71), (1, jR f), (2, jI 0)]) dX5_readInto_24 rfl (by decide) rfl ?_
  have lp25_10 : ∀ n25 : Nat, ∀ (v2 : Int), ∀ N25 : jM, (ciI b f M N25 (pTxt b) v2) → (900 - v2).toNat < n25 → jG D_X5_readInto X FJ shJ 0 0 (jqI (q_X5_readInto M b f)) 25 [(0, jR 71), (1, jR f), (2, jI v2)] ([]) N25 := by
    intro n25
    induction n25 with
    | zero => intro v2 N25 _ hz; exact absurd hz (Nat.not_lt_zero _)
    | succ n25 ih25 =>
      intro v2 N25 hinv hm
      have hI := hinv
      obtain ⟨A, hA, hv, hT, hR, h6, hF⟩ := hI
      have ty := ciF_ty hF h_ctyped
      have tx := ciF_tx hf2 hF h_ctext
      have hw := hA.2
      have hs : A.1 ≤ M 71 0 := by rcases hw with z | z; (· omega); (· exact z.1)
      have hn : 0 ≤ A.2.1 ∧ A.2.1 ≤ 16 := by rcases hw with z | z; (· omega); (· exact z.2.1)
      clear hw
      have tq := (cT_tok hT).2.1
      have cE := cK_end (b := b) (q := A.1)
      have r0 := hR.1
      have r9 := hR.2.1
      refine j_iload_n 2 dX5_readInto_25 rfl rfl ?_
      refine j_sipush dX5_readInto_26 (by decide) ?_
      refine j_icmp_ge (tgt := 120) dX5_readInto_29 (by decide) (fun c29_11 => ?_) (fun c29_11 => ?_)
      · skip
        have hz : lK b A.1 = 0 := (lK_end hbk hv.1 hs).2 (by omega)
        refine j_bipush dX5_readInto_120 (by decide) ?_
        refine j_iret rfl rfl rfl rfl dX5_readInto_122 ?_
        exact ciP_ok hA hv.1 hz hR h6 hF
      · skip
        refine j_aload_n 0 dX5_readInto_32 rfl rfl ?_
        refine j_geti (k' := 2) f_X5_41 o_71_2 dX5_readInto_33 rfl ?_
        refine j_bipush dX5_readInto_36 (by decide) ?_
        refine j_icmp_eq (tgt := 120) dX5_readInto_38 (by decide) (fun c38_12 => ?_) (fun c38_12 => ?_)
        · skip
          have hz : lK b A.1 = 0 := by omega
          refine j_bipush dX5_readInto_120 (by decide) ?_
          refine j_iret rfl rfl rfl rfl dX5_readInto_122 ?_
          exact ciP_ok hA hv.1 hz hR h6 hF
        · skip
          have hk : ¬ lK b A.1 = 0 := by omega
          have zA := pAt_s hbk hA hv.1 hk
          refine j_iconst dX5_readInto_41 (by decide) ?_
          refine j_istore_n (ls' := [(0, jR 71), (1, jR f), (2, jI v2), (3, jI 0)]) dX5_readInto_42 rfl (by decide) rfl ?_
          refine j_aload_n 0 dX5_readInto_43 rfl rfl ?_
          refine j_ldcS (i := 0) (r := (-10)) (by decide) rfl rfl dX5_readInto_44 (by decide) ?_
          refine j_callVi l_X5_46 ⟨Nat.le_of_ble_eq_true rfl, Nat.le_of_ble_eq_true rfl⟩ ⟨rfl, rfl⟩ dX5_readInto_46 ob_71 (c_X5_isWord N25 b A.1 0 (by decide) (-10) (by assumption) (by assumption) hT (by decide)) rfl rfl (Nat.le_of_ble_eq_true rfl) (fun r_13 M_14 h_15 => ?_)
          obtain ⟨er_13, nh_15⟩ := h_15
          refine j_eqM nh_15 ?_
          clear nh_15
          refine j_if_eq (tgt := 91) dX5_readInto_49 (by decide) (fun c49_16 => ?_) (fun c49_16 => ?_)
          · skip
            rw [hwm.1] at er_13
            have k0 : ¬ (lK b A.1 = 1 ∧ lV b A.1 = 0) := by omega
            refine j_aload_n 0 dX5_readInto_91 rfl rfl ?_
            refine j_ldcS (i := 15) (r := (-25)) (by decide) rfl rfl dX5_readInto_92 (by decide) ?_
            refine j_callVi l_X5_46 ⟨Nat.le_of_ble_eq_true rfl, Nat.le_of_ble_eq_true rfl⟩ ⟨rfl, rfl⟩ dX5_readInto_94 ob_71 (c_X5_isWord N25 b A.1 15 (by decide) (-25) (by assumption) (by assumption) hT (by decide)) rfl rfl (Nat.le_of_ble_eq_true rfl) (fun r_17 M_18 h_19 => ?_)
            obtain ⟨er_17, nh_19⟩ := h_19
            refine j_eqM nh_19 ?_
            clear nh_19
            refine j_if_eq (tgt := 105) dX5_readInto_97 (by decide) (fun c97_20 => ?_) (fun c97_20 => ?_)
            · skip
              rw [hwm.2] at er_17
              have zBad := ci_x hf2 hT hv.1 k0 (by omega) h6 hF
              refine j_iload_n 3 dX5_readInto_105 rfl rfl ?_
              refine j_if_ne (tgt := 114) dX5_readInto_106 (by decide) (fun c106_21 => ?_) (fun c106_21 => ?_)
              · skip
                obtain ⟨v2_22, ev2_22⟩ : ∃ y : Int, y = v2 + 1 := ⟨_, rfl⟩
                refine j_iinc (y := v2_22) (ls' := [(0, jR 71), (1, jR f), (2, jI v2_22), (3, jI 0)]) 2 dX5_readInto_114 rfl ev2_22 (by omega) (by decide) rfl ?_
                refine j_goto (tgt := 25) dX5_readInto_117 (by decide) ?_
                refine j_sub (ls' := [(0, jR 71), (1, jR f), (2, jI v2_22)]) [0, 1, 2] rfl ?_
                exact ih25 v2_22 N25 (by first | exact zNx _ ev2_22 | exact zS1 (by omega) _ ev2_22 | (exfalso; omega)) (by first | omega | (exfalso; omega))
              · skip
                refine j_aload_n 0 dX5_readInto_109 rfl rfl ?_
                refine j_geti (k' := 3) f_X5_32 o_71_3 dX5_readInto_110 rfl ?_
                refine j_iret rfl rfl rfl rfl dX5_readInto_113 ?_
                first | exact ciP_no zA zBad | exact ciP_no zA (zS0 (by omega)) | (exfalso; omega)
            · skip
              rw [hwm.2] at er_17
              have k1 : lK b A.1 = 1 ∧ lV b A.1 = 4 := by omega
              refine j_aload_n 0 dX5_readInto_100 rfl rfl ?_
              refine j_callVi l_X5_65 ⟨Nat.le_of_ble_eq_true rfl, Nat.le_of_ble_eq_true rfl⟩ ⟨rfl, rfl⟩ dX5_readInto_101 ob_71 (c_X5_readStrike N25 b A.1 f hf (by assumption) (by assumption) hT h6 (by rw [hR.1]; omega)) rfl rfl (Nat.le_of_ble_eq_true rfl) (fun r_23 M_24 h_25 => ?_)
              have srh_25 := h_25
              unfold q_X5_readStrike at srh_25
              have zs := srh_25
              have zS1 : ¬ r_23 = 0 → ∀ y, y = v2 + 1 → ciI b f M M_24 (pTxt b) y := fun z y e => by rw [e]; exact ci_s1 hf2 hbk hs hv.1 hR hn.1 k1 zs z h6 hF zA ⟨hv.2.1, hv.2.2⟩
              have zS0 : r_23 = 0 → ciB b f M M_24 A := fun z => ci_s0 hf2 hbk hs hv.1 hR hn.1 k1 zs z h6 hF
              refine j_istore_n (ls' := [(0, jR 71), (1, jR f), (2, jI v2), (3, jI r_23)]) dX5_readInto_104 rfl (by decide) rfl ?_
              refine j_iload_n 3 dX5_readInto_105 rfl rfl ?_
              refine j_if_ne (tgt := 114) dX5_readInto_106 (by decide) (fun c106_26 => ?_) (fun c106_26 => ?_)
              · skip
                obtain ⟨v2_27, ev2_27⟩ : ∃ y : Int, y = v2 + 1 := ⟨_, rfl⟩
                refine j_iinc (y := v2_27) (ls' := [(0, jR 71), (1, jR f), (2, jI v2_27), (3, jI r_23)]) 2 dX5_readInto_114 rfl ev2_27 (by omega) (by decide) rfl ?_
                refine j_goto (tgt := 25) dX5_readInto_117 (by decide) ?_
                refine j_sub (ls' := [(0, jR 71), (1, jR f), (2, jI v2_27)]) [0, 1, 2] rfl ?_
                exact ih25 v2_27 M_24 (by first | exact zNx _ ev2_27 | exact zS1 (by omega) _ ev2_27 | (exfalso; omega)) (by first | omega | (exfalso; omega))
              · skip
                refine j_aload_n 0 dX5_readInto_109 rfl rfl ?_
                refine j_geti (k' := 3) f_X5_32 o_71_3 dX5_readInto_110 rfl ?_
                refine j_iret rfl rfl rfl rfl dX5_readInto_113 ?_
                first | exact ciP_no zA zBad | exact ciP_no zA (zS0 (by omega)) | (exfalso; omega)
          · skip
            rw [hwm.1] at er_13
            have k0 : lK b A.1 = 1 ∧ lV b A.1 = 0 := by omega
            refine j_aload_n 1 dX5_readInto_52 rfl rfl ?_
            refine j_geti (k' := 0) f_X5_50 (oa_0 hf) dX5_readInto_53 rfl ?_
            refine j_bipush dX5_readInto_56 (by decide) ?_
            refine j_icmp_ge (tgt := 86) dX5_readInto_58 (by decide) (fun c58_28 => ?_) (fun c58_28 => ?_)
            · skip
              have zBad := ci_16 hf2 hT hv.1 k0 (by omega) h6 hF
              refine j_iconst dX5_readInto_86 (by decide) ?_
              refine j_istore_n (ls' := [(0, jR 71), (1, jR f), (2, jI v2), (3, jI 0)]) dX5_readInto_87 rfl (by decide) rfl ?_
              refine j_goto (tgt := 105) dX5_readInto_88 (by decide) ?_
              refine j_iload_n 3 dX5_readInto_105 rfl rfl ?_
              refine j_if_ne (tgt := 114) dX5_readInto_106 (by decide) (fun c106_29 => ?_) (fun c106_29 => ?_)
              · skip
                obtain ⟨v2_30, ev2_30⟩ : ∃ y : Int, y = v2 + 1 := ⟨_, rfl⟩
                refine j_iinc (y := v2_30) (ls' := [(0, jR 71), (1, jR f), (2, jI v2_30), (3, jI 0)]) 2 dX5_readInto_114 rfl ev2_30 (by omega) (by decide) rfl ?_
                refine j_goto (tgt := 25) dX5_readInto_117 (by decide) ?_
                refine j_sub (ls' := [(0, jR 71), (1, jR f), (2, jI v2_30)]) [0, 1, 2] rfl ?_
                exact ih25 v2_30 N25 (by first | exact zNx _ ev2_30 | exact zS1 (by omega) _ ev2_30 | (exfalso; omega)) (by first | omega | (exfalso; omega))
              · skip
                refine j_aload_n 0 dX5_readInto_109 rfl rfl ?_
                refine j_geti (k' := 3) f_X5_32 o_71_3 dX5_readInto_110 rfl ?_
                refine j_iret rfl rfl rfl rfl dX5_readInto_113 ?_
                first | exact ciP_no zA zBad | exact ciP_no zA (zS0 (by omega)) | (exfalso; omega)
            · skip
              have h16 : ¬ A.2.1 = 16 := by omega
              refine j_aload_n 0 dX5_readInto_61 rfl rfl ?_
              refine j_callVi l_X5_53 ⟨Nat.le_of_ble_eq_true rfl, Nat.le_of_ble_eq_true rfl⟩ ⟨rfl, rfl⟩ dX5_readInto_62 ob_71 (c_X5_readHead N25 b A.1 f hf (by assumption) (by assumption) hT h6 (by rw [hR.1]; omega)) rfl rfl (Nat.le_of_ble_eq_true rfl) (fun r_31 M_32 h_33 => ?_)
              have hdh_33 := h_33
              unfold q_X5_readHead at hdh_33
              refine j_if_eq (tgt := 86) dX5_readInto_65 (by decide) (fun c65_34 => ?_) (fun c65_34 => ?_)
              · skip
                have zBad := ci_h0 hf2 hbk hs hv.1 hR hn.1 k0 h16 hdh_33 (by omega) h6 hF
                refine j_iconst dX5_readInto_86 (by decide) ?_
                refine j_istore_n (ls' := [(0, jR 71), (1, jR f), (2, jI v2), (3, jI 0)]) dX5_readInto_87 rfl (by decide) rfl ?_
                refine j_goto (tgt := 105) dX5_readInto_88 (by decide) ?_
                refine j_iload_n 3 dX5_readInto_105 rfl rfl ?_
                refine j_if_ne (tgt := 114) dX5_readInto_106 (by decide) (fun c106_35 => ?_) (fun c106_35 => ?_)
                · skip
                  obtain ⟨v2_36, ev2_36⟩ : ∃ y : Int, y = v2 + 1 := ⟨_, rfl⟩
                  refine j_iinc (y := v2_36) (ls' := [(0, jR 71), (1, jR f), (2, jI v2_36), (3, jI 0)]) 2 dX5_readInto_114 rfl ev2_36 (by omega) (by decide) rfl ?_
                  refine j_goto (tgt := 25) dX5_readInto_117 (by decide) ?_
                  refine j_sub (ls' := [(0, jR 71), (1, jR f), (2, jI v2_36)]) [0, 1, 2] rfl ?_
                  exact ih25 v2_36 M_32 (by first | exact zNx _ ev2_36 | exact zS1 (by omega) _ ev2_36 | (exfalso; omega)) (by first | omega | (exfalso; omega))
                · skip
                  refine j_aload_n 0 dX5_readInto_109 rfl rfl ?_
                  refine j_geti (k' := 3) f_X5_32 o_71_3 dX5_readInto_110 rfl ?_
                  refine j_iret rfl rfl rfl rfl dX5_readInto_113 ?_
                  first | exact ciP_no zA zBad | exact ciP_no zA (zS0 (by omega)) | (exfalso; omega)
              · skip
                have zH := ci_h1 hf2 hR hn.1 hdh_33 (by omega) h6
                have nxA := lNx_lt hbk hv.1 hs hk
                have ph6 := pH6_in hbk (show 0 ≤ lNx b A.1 by omega) nxA.2
                have ph0 := zH.1.2.1
                have ty1 := ciF_ty zH.2.2.1 ty
                have tx1 := ciF_tx hf2 zH.2.2.1 tx
                refine j_aload_n 0 dX5_readInto_68 rfl rfl ?_
                refine j_callVi l_X5_57 ⟨Nat.le_of_ble_eq_true rfl, Nat.le_of_ble_eq_true rfl⟩ ⟨rfl, rfl⟩ dX5_readInto_69 ob_71 (c_X5_readIf M_32 b (pH6 b (lNx b A.1)) f hf (by assumption) (by assumption) zH.1.2.2 zH.2.1.2.2.1 (by rw [zH.2.1.1]; omega) (by rw [zH.2.1.2.1]; omega) zH.2.1.2.2.2 (by omega)) rfl rfl (Nat.le_of_ble_eq_true rfl) (fun r_37 M_38 h_39 => ?_)
                have ifh_39 := h_39
                unfold q_X5_readIf at ifh_39
                refine j_if_eq (tgt := 86) dX5_readInto_72 (by decide) (fun c72_40 => ?_) (fun c72_40 => ?_)
                · skip
                  have zBad := ci_i0 hf2 k0 h16 zH ifh_39 (by omega) hF
                  refine j_iconst dX5_readInto_86 (by decide) ?_
                  refine j_istore_n (ls' := [(0, jR 71), (1, jR f), (2, jI v2), (3, jI 0)]) dX5_readInto_87 rfl (by decide) rfl ?_
                  refine j_goto (tgt := 105) dX5_readInto_88 (by decide) ?_
                  refine j_iload_n 3 dX5_readInto_105 rfl rfl ?_
                  refine j_if_ne (tgt := 114) dX5_readInto_106 (by decide) (fun c106_41 => ?_) (fun c106_41 => ?_)
                  · skip
                    obtain ⟨v2_42, ev2_42⟩ : ∃ y : Int, y = v2 + 1 := ⟨_, rfl⟩
                    refine j_iinc (y := v2_42) (ls' := [(0, jR 71), (1, jR f), (2, jI v2_42), (3, jI 0)]) 2 dX5_readInto_114 rfl ev2_42 (by omega) (by decide) rfl ?_
                    refine j_goto (tgt := 25) dX5_readInto_117 (by decide) ?_
                    refine j_sub (ls' := [(0, jR 71), (1, jR f), (2, jI v2_42)]) [0, 1, 2] rfl ?_
                    exact ih25 v2_42 M_38 (by first | exact zNx _ ev2_42 | exact zS1 (by omega) _ ev2_42 | (exfalso; omega)) (by first | omega | (exfalso; omega))
                  · skip
                    refine j_aload_n 0 dX5_readInto_109 rfl rfl ?_
                    refine j_geti (k' := 3) f_X5_32 o_71_3 dX5_readInto_110 rfl ?_
                    refine j_iret rfl rfl rfl rfl dX5_readInto_113 ?_
                    first | exact ciP_no zA zBad | exact ciP_no zA (zS0 (by omega)) | (exfalso; omega)
                · skip
                  have zJ := ci_i1 hf2 hR zH ifh_39 (by omega)
                  have ty2 := ciF_ty zJ.2.2.1 ty
                  have tx2 := ciF_tx hf2 zJ.2.2.1 tx
                  refine j_aload_n 0 dX5_readInto_75 rfl rfl ?_
                  refine j_callVi l_X5_60 ⟨Nat.le_of_ble_eq_true rfl, Nat.le_of_ble_eq_true rfl⟩ ⟨rfl, rfl⟩ dX5_readInto_76 ob_71 (c_X5_readDuties M_38 b (pIf b (pH6 b (lNx b A.1))).1 f hf (fun _ => -9) (by assumption) (by assumption) zJ.1.2 zJ.2.1.2.1 (by rw [zJ.2.1.1]; omega) zJ.2.1.2.2.1 tOk_0 zJ.2.1.2.2.2) rfl rfl (Nat.le_of_ble_eq_true rfl) (fun r_43 M_44 h_45 => ?_)
                  have dsh_45 := h_45
                  unfold q_X5_readDuties at dsh_45
                  refine j_if_eq (tgt := 86) dX5_readInto_79 (by decide) (fun c79_46 => ?_) (fun c79_46 => ?_)
                  · skip
                    have zBad := ci_d0 hf2 k0 h16 zJ dsh_45 (by omega) hF
                    refine j_iconst dX5_readInto_86 (by decide) ?_
                    refine j_istore_n (ls' := [(0, jR 71), (1, jR f), (2, jI v2), (3, jI 0)]) dX5_readInto_87 rfl (by decide) rfl ?_
                    refine j_goto (tgt := 105) dX5_readInto_88 (by decide) ?_
                    refine j_iload_n 3 dX5_readInto_105 rfl rfl ?_
                    refine j_if_ne (tgt := 114) dX5_readInto_106 (by decide) (fun c106_47 => ?_) (fun c106_47 => ?_)
                    · skip
                      obtain ⟨v2_48, ev2_48⟩ : ∃ y : Int, y = v2 + 1 := ⟨_, rfl⟩
                      refine j_iinc (y := v2_48) (ls' := [(0, jR 71), (1, jR f), (2, jI v2_48), (3, jI 0)]) 2 dX5_readInto_114 rfl ev2_48 (by omega) (by decide) rfl ?_
                      refine j_goto (tgt := 25) dX5_readInto_117 (by decide) ?_
                      refine j_sub (ls' := [(0, jR 71), (1, jR f), (2, jI v2_48)]) [0, 1, 2] rfl ?_
                      exact ih25 v2_48 M_44 (by first | exact zNx _ ev2_48 | exact zS1 (by omega) _ ev2_48 | (exfalso; omega)) (by first | omega | (exfalso; omega))
                    · skip
                      refine j_aload_n 0 dX5_readInto_109 rfl rfl ?_
                      refine j_geti (k' := 3) f_X5_32 o_71_3 dX5_readInto_110 rfl ?_
                      refine j_iret rfl rfl rfl rfl dX5_readInto_113 ?_
                      first | exact ciP_no zA zBad | exact ciP_no zA (zS0 (by omega)) | (exfalso; omega)
                  · skip
                    have zNx : ∀ y, y = v2 + 1 → ciI b f M M_44 (pTxt b) y := fun y e => by rw [e]; exact ci_d1 hf2 hbk hs hv.1 hn.1 k0 h16 hR zJ dsh_45 (by omega) hF zA ⟨hv.2.1, hv.2.2⟩
                    refine j_iconst dX5_readInto_82 (by decide) ?_
                    refine j_goto (tgt := 87) dX5_readInto_83 (by decide) ?_
                    refine j_istore_n (ls' := [(0, jR 71), (1, jR f), (2, jI v2), (3, jI 1)]) dX5_readInto_87 rfl (by decide) rfl ?_
                    refine j_goto (tgt := 105) dX5_readInto_88 (by decide) ?_
                    refine j_iload_n 3 dX5_readInto_105 rfl rfl ?_
                    refine j_if_ne (tgt := 114) dX5_readInto_106 (by decide) (fun c106_49 => ?_) (fun c106_49 => ?_)
                    · skip
                      obtain ⟨v2_50, ev2_50⟩ : ∃ y : Int, y = v2 + 1 := ⟨_, rfl⟩
                      refine j_iinc (y := v2_50) (ls' := [(0, jR 71), (1, jR f), (2, jI v2_50), (3, jI 1)]) 2 dX5_readInto_114 rfl ev2_50 (by omega) (by decide) rfl ?_
                      refine j_goto (tgt := 25) dX5_readInto_117 (by decide) ?_
                      refine j_sub (ls' := [(0, jR 71), (1, jR f), (2, jI v2_50)]) [0, 1, 2] rfl ?_
                      exact ih25 v2_50 M_44 (by first | exact zNx _ ev2_50 | exact zS1 (by omega) _ ev2_50 | (exfalso; omega)) (by first | omega | (exfalso; omega))
                    · skip
                      refine j_aload_n 0 dX5_readInto_109 rfl rfl ?_
                      refine j_geti (k' := 3) f_X5_32 o_71_3 dX5_readInto_110 rfl ?_
                      refine j_iret rfl rfl rfl rfl dX5_readInto_113 ?_
                      first | exact ciP_no zA zBad | exact ciP_no zA (zS0 (by omega)) | (exfalso; omega)
  exact lp25_10 _ 0 M_8 (by exact zI) (Nat.lt_succ_self _)
