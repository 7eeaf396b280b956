abbrev q_X5_dutyWord (M : jM) (b : Int → Int) (q : Int)  : Int → jM → Prop := fun r N => r = pDw b q ∧ N = M
set_option maxHeartbeats 4000000 in
set_option maxRecDepth 20000 in
theorem c_X5_dutyWord {X : jX} (M : jM) (b : Int → Int) (q : Int)  (h_ctyped : 0 ≤ M 71 0 ∧ M 71 0 ≤ 900) (h_ctext : ∀ i, -128 ≤ M 72 i ∧ M 72 i ≤ 127) (ht : cT b M q) : jC yX5_dutyWord D_X5_dutyWord X FJ shJ [jR 71] M (jqI (q_X5_dutyWord M b q)) := by
  refine jC_of (by decide) rfl (fun ad => Nat.le_of_ble_eq_true rfl) (by decide) ?_
  show jG D_X5_dutyWord X FJ shJ 0 0 (jqI (q_X5_dutyWord M b q)) 0 [(0, jR 71)] [] M
  have hwm : wMap 9 = 5 ∧ wMap 10 = 6 ∧ wMap 11 = 8 ∧ wMap 12 = 9 ∧ wMap 7 = 10 ∧ wMap 13 = 11 := by decide
  refine j_aload_n 0 dX5_dutyWord_0 rfl rfl ?_
  refine j_ldcS (i := 9) (r := (-19)) (by decide) rfl rfl dX5_dutyWord_1 (by decide) ?_
  refine j_callVi l_X5_46 ⟨Nat.le_of_ble_eq_true rfl, Nat.le_of_ble_eq_true rfl⟩ ⟨rfl, rfl⟩ dX5_dutyWord_3 ob_71 (c_X5_isWord M b q 9 (by decide) (-19) h_ctyped h_ctext ht (by decide)) rfl rfl (Nat.le_of_ble_eq_true rfl) (fun r_1 M_2 h_3 => ?_)
  obtain ⟨er_1, nh_3⟩ := h_3
  refine j_eqM nh_3 ?_
  clear nh_3
  refine j_if_eq (tgt := 11) dX5_dutyWord_6 (by decide) (fun c6_4 => ?_) (fun c6_4 => ?_)
  · skip
    refine j_aload_n 0 dX5_dutyWord_11 rfl rfl ?_
    refine j_ldcS (i := 10) (r := (-20)) (by decide) rfl rfl dX5_dutyWord_12 (by decide) ?_
    refine j_callVi l_X5_46 ⟨Nat.le_of_ble_eq_true rfl, Nat.le_of_ble_eq_true rfl⟩ ⟨rfl, rfl⟩ dX5_dutyWord_14 ob_71 (c_X5_isWord M b q 10 (by decide) (-20) h_ctyped h_ctext ht (by decide)) rfl rfl (Nat.le_of_ble_eq_true rfl) (fun r_5 M_6 h_7 => ?_)
    obtain ⟨er_5, nh_7⟩ := h_7
    refine j_eqM nh_7 ?_
    clear nh_7
    refine j_if_eq (tgt := 22) dX5_dutyWord_17 (by decide) (fun c17_8 => ?_) (fun c17_8 => ?_)
    · skip
      refine j_aload_n 0 dX5_dutyWord_22 rfl rfl ?_
      refine j_ldcS (i := 11) (r := (-21)) (by decide) rfl rfl dX5_dutyWord_23 (by decide) ?_
      refine j_callVi l_X5_46 ⟨Nat.le_of_ble_eq_true rfl, Nat.le_of_ble_eq_true rfl⟩ ⟨rfl, rfl⟩ dX5_dutyWord_25 ob_71 (c_X5_isWord M b q 11 (by decide) (-21) h_ctyped h_ctext ht (by decide)) rfl rfl (Nat.le_of_ble_eq_true rfl) (fun r_9 M_10 h_11 => ?_)
      obtain ⟨er_9, nh_11⟩ := h_11
      refine j_eqM nh_11 ?_
      clear nh_11
      refine j_if_eq (tgt := 33) dX5_dutyWord_28 (by decide) (fun c28_12 => ?_) (fun c28_12 => ?_)
      · skip
        refine j_aload_n 0 dX5_dutyWord_33 rfl rfl ?_
        refine j_ldcS (i := 12) (r := (-22)) (by decide) rfl rfl dX5_dutyWord_34 (by decide) ?_
        refine j_callVi l_X5_46 ⟨Nat.le_of_ble_eq_true rfl, Nat.le_of_ble_eq_true rfl⟩ ⟨rfl, rfl⟩ dX5_dutyWord_36 ob_71 (c_X5_isWord M b q 12 (by decide) (-22) h_ctyped h_ctext ht (by decide)) rfl rfl (Nat.le_of_ble_eq_true rfl) (fun r_13 M_14 h_15 => ?_)
        obtain ⟨er_13, nh_15⟩ := h_15
        refine j_eqM nh_15 ?_
        clear nh_15
        refine j_if_eq (tgt := 44) dX5_dutyWord_39 (by decide) (fun c39_16 => ?_) (fun c39_16 => ?_)
        · skip
          refine j_aload_n 0 dX5_dutyWord_44 rfl rfl ?_
          refine j_ldcS (i := 7) (r := (-17)) (by decide) rfl rfl dX5_dutyWord_45 (by decide) ?_
          refine j_callVi l_X5_46 ⟨Nat.le_of_ble_eq_true rfl, Nat.le_of_ble_eq_true rfl⟩ ⟨rfl, rfl⟩ dX5_dutyWord_47 ob_71 (c_X5_isWord M b q 7 (by decide) (-17) h_ctyped h_ctext ht (by decide)) rfl rfl (Nat.le_of_ble_eq_true rfl) (fun r_17 M_18 h_19 => ?_)
          obtain ⟨er_17, nh_19⟩ := h_19
          refine j_eqM nh_19 ?_
          clear nh_19
          refine j_if_eq (tgt := 55) dX5_dutyWord_50 (by decide) (fun c50_20 => ?_) (fun c50_20 => ?_)
          · skip
            refine j_aload_n 0 dX5_dutyWord_55 rfl rfl ?_
            refine j_ldcS (i := 13) (r := (-23)) (by decide) rfl rfl dX5_dutyWord_56 (by decide) ?_
            refine j_callVi l_X5_46 ⟨Nat.le_of_ble_eq_true rfl, Nat.le_of_ble_eq_true rfl⟩ ⟨rfl, rfl⟩ dX5_dutyWord_58 ob_71 (c_X5_isWord M b q 13 (by decide) (-23) h_ctyped h_ctext ht (by decide)) rfl rfl (Nat.le_of_ble_eq_true rfl) (fun r_21 M_22 h_23 => ?_)
            obtain ⟨er_21, nh_23⟩ := h_23
            refine j_eqM nh_23 ?_
            clear nh_23
            have hJ_24 : ∀ zz : Int, (r_21 = 0 ∧ zz = (-9)) ∨ (¬ r_21 = 0 ∧ zz = 6) → jG D_X5_dutyWord X FJ shJ 0 0 (jqI (q_X5_dutyWord M b q)) 71 [(0, jR 71)] (jI zz :: []) M := by
              intro t_25 et_25
              refine j_iret rfl rfl rfl rfl dX5_dutyWord_71 ?_
              exact ⟨by unfold pDw dWd; (repeat' split) <;> omega, rfl⟩
            refine j_if_eq (tgt := 69) dX5_dutyWord_61 (by decide) (fun c61_26 => ?_) (fun c61_26 => ?_)
            · skip
              refine j_bipush dX5_dutyWord_69 (by decide) ?_
              exact hJ_24 _ (Or.inl ⟨c61_26, rfl⟩)
            · skip
              refine j_bipush dX5_dutyWord_64 (by decide) ?_
              refine j_goto (tgt := 71) dX5_dutyWord_66 (by decide) ?_
              exact hJ_24 _ (Or.inr (⟨c61_26, rfl⟩))
          · skip
            refine j_iconst dX5_dutyWord_53 (by decide) ?_
            refine j_iret rfl rfl rfl rfl dX5_dutyWord_54 ?_
            exact ⟨by unfold pDw dWd; (repeat' split) <;> omega, rfl⟩
        · skip
          refine j_iconst dX5_dutyWord_42 (by decide) ?_
          refine j_iret rfl rfl rfl rfl dX5_dutyWord_43 ?_
          exact ⟨by unfold pDw dWd; (repeat' split) <;> omega, rfl⟩
      · skip
        refine j_iconst dX5_dutyWord_31 (by decide) ?_
        refine j_iret rfl rfl rfl rfl dX5_dutyWord_32 ?_
        exact ⟨by unfold pDw dWd; (repeat' split) <;> omega, rfl⟩
    · skip
      refine j_iconst dX5_dutyWord_20 (by decide) ?_
      refine j_iret rfl rfl rfl rfl dX5_dutyWord_21 ?_
      exact ⟨by unfold pDw dWd; (repeat' split) <;> omega, rfl⟩
  · skip
    refine j_iconst dX5_dutyWord_9 (by decide) ?_
    refine j_iret rfl rfl rfl rfl dX5_dutyWord_10 ?_
    exact ⟨by unfold pDw dWd; (repeat' split) <;> omega, rfl⟩
abbrev q_X5_readTold (M : jM) (b : Int → Int) (q f : Int) (hf : jA f) (t : Int → Int) (w lo hi : Int) : Int → jM → Prop := fun r N => rdt b f M N (tkN b lo hi q) (tUp t w (nV b lo hi q)) r
set_option maxHeartbeats 4000000 in
set_option maxRecDepth 20000 in
theorem c_X5_readTold {X : jX} (M : jM) (b : Int → Int) (q f : Int) (hf : jA f) (t : Int → Int) (w lo hi : Int) (h_ctyped : 0 ≤ M 71 0 ∧ M 71 0 ≤ 900) (h_ctext : ∀ i, -128 ≤ M 72 i ∧ M 72 i ≤ 127) (ht : cT b M q) (h6 : M 71 6 = f) (hru : 0 < M f 0 ∧ M f 0 ≤ 16) (htd : cTd M f t) (hw : 0 ≤ w ∧ w ≤ 6) (hlo : 0 ≤ lo) : jC yX5_readTold D_X5_readTold X FJ shJ [jR 71, jI w, jI lo, jI hi] M (jqI (q_X5_readTold M b q f hf t w lo hi)) := by
  refine jC_of (by decide) rfl (fun ad => Nat.le_of_ble_eq_true rfl) (by decide) ?_
  show jG D_X5_readTold X FJ shJ 0 0 (jqI (q_X5_readTold M b q f hf t w lo hi)) 0 [(0, jR 71), (1, jI w), (2, jI lo), (3, jI hi)] [] M
  have hf2 : f = 47 ∨ f = 59 := hf
  have tq := (cT_tok ht).2.2.2.2.1
  have ta := tkN_at (b := b) (lo := lo) (hi := hi) tq.1
  refine j_aload_n 0 dX5_readTold_0 rfl rfl ?_
  refine j_iload_n 2 dX5_readTold_1 rfl rfl ?_
  refine j_iload_n 3 dX5_readTold_2 rfl rfl ?_
  refine j_callVi l_X5_90 ⟨Nat.le_of_ble_eq_true rfl, Nat.le_of_ble_eq_true rfl⟩ ⟨rfl, rfl⟩ dX5_readTold_3 ob_71 (c_X5_takeNumber M b q lo hi h_ctyped h_ctext ht) rfl rfl (Nat.le_of_ble_eq_true rfl) (fun r_1 M_2 h_3 => ?_)
  obtain ⟨tkh_3, fkh_3⟩ := h_3
  have frh_3 := fkh_3.1
  have zh6 : M_2 71 6 = f := by rw [fkh_3.2 6 (by decide) (by decide) (by decide) (by decide)]; exact h6
  have g0 : M_2 f 0 = M f 0 := by rw [fkh_3.1 f (by omega)]
  have tkn := tkh_3
  have fr_ := fkh_3
  clear tkh_3
  have t1 := cTd_fr hf2 fr_ htd
  refine j_istore (ls' := [(0, jR 71), (1, jI w), (2, jI lo), (3, jI hi), (4, jI r_1)]) dX5_readTold_6 (by decide) rfl ?_
  refine j_iload 4 dX5_readTold_8 rfl ?_
  refine j_bipush dX5_readTold_10 (by decide) ?_
  refine j_icmp_ne (tgt := 17) dX5_readTold_12 (by decide) (fun c12_4 => ?_) (fun c12_4 => ?_)
  · skip
    refine j_aload_n 0 dX5_readTold_17 rfl rfl ?_
    refine j_getd (k' := 6) f_X5_19 o_71_6 dX5_readTold_18 rfl ?_
    refine j_eqR (y := f) (by first | exact h6 | exact zh6) ?_
    refine j_iload_n 1 dX5_readTold_21 rfl rfl ?_
    refine j_iload 4 dX5_readTold_22 rfl ?_
    refine j_callVv l_X5_136 ⟨Nat.le_of_ble_eq_true rfl, Nat.le_of_ble_eq_true rfl⟩ ⟨rfl, rfl⟩ dX5_readTold_24 (oba hf) (c_X0_tell M_2 f hf w r_1 (by rw [g0]; exact hru) (by omega)) rfl rfl (Nat.le_of_ble_eq_true rfl) (fun M_6 h_7 => ?_)
    have eM_6 := h_7
    unfold q_X0_tell at eM_6
    refine j_iconst dX5_readTold_27 (by decide) ?_
    refine j_zret rfl rfl rfl rfl dX5_readTold_28 (by omega) ?_
    have y := tkn_yes tkn (by omega)
    have e := ta.1 y.2.1
    have tn := (cT_tok y.2.2).2.2.2.2.1
    refine ⟨Or.inl ⟨rfl, by omega, ?_, ?_⟩, ?_⟩
    · rw [e.1, eM_6]; exact cT_ne y.2.2 (by omega) (by omega)
    · rw [eM_6, e.2, ← y.1]; exact cTd_up hf2 t1 (by omega)
    · rw [eM_6]; exact cDG_tr hf2 (cDG_fr hf2 fr_) (cDG_tell hf2 hw.1)
  · skip
    refine j_iconst dX5_readTold_15 (by decide) ?_
    refine j_zret rfl rfl rfl rfl dX5_readTold_16 (by omega) ?_
    have y := tkn_no tkn (by omega) (fun z => by omega)
    have e := ta.2 y.1
    exact ⟨Or.inr ⟨rfl, by omega, by have := (cT_tok y.2).1; omega⟩, cDG_fr hf2 fr_⟩
abbrev q_X5_readSpan (M : jM) (b : Int → Int) (q f : Int) (hf : jA f) (t : Int → Int)  : Int → jM → Prop := fun r N => rdt b f M N (pB3 b 1 q) (pBt b 1 q t) r
set_option maxHeartbeats 4000000 in
set_option maxRecDepth 20000 in
theorem c_X5_readSpan {X : jX} (M : jM) (b : Int → Int) (q f : Int) (hf : jA f) (t : Int → Int)  (h_ctyped : 0 ≤ M 71 0 ∧ M 71 0 ≤ 900) (h_ctext : ∀ i, -128 ≤ M 72 i ∧ M 72 i ≤ 127) (ht : cT b M q) (h6 : M 71 6 = f) (hru : 0 < M f 0 ∧ M f 0 ≤ 16) (htd : cTd M f t) : jC yX5_readSpan D_X5_readSpan X FJ shJ [jR 71] M (jqI (q_X5_readSpan M b q f hf t)) := by
  refine jC_of (by decide) rfl (fun ad => Nat.le_of_ble_eq_true rfl) (by decide) ?_
  show jG D_X5_readSpan X FJ shJ 0 0 (jqI (q_X5_readSpan M b q f hf t)) 0 [(0, jR 71)] [] M
  have hf2 : f = 47 ∨ f = 59 := hf
  have tq := (cT_tok ht).2.2.2.2.1
  have hwm : wMap 14 = 7 := by decide
  refine j_aload_n 0 dX5_readSpan_0 rfl rfl ?_
  refine j_iconst dX5_readSpan_1 (by decide) ?_
  refine j_sipush dX5_readSpan_2 (by decide) ?_
  refine j_callVi l_X5_90 ⟨Nat.le_of_ble_eq_true rfl, Nat.le_of_ble_eq_true rfl⟩ ⟨rfl, rfl⟩ dX5_readSpan_5 ob_71 (c_X5_takeNumber M b q 0 1439 h_ctyped h_ctext ht) rfl rfl (Nat.le_of_ble_eq_true rfl) (fun r_1 M_2 h_3 => ?_)
  obtain ⟨tkh_3, fkh_3⟩ := h_3
  have frh_3 := fkh_3.1
  have tkn := tkh_3
  have f1 := fkh_3
  clear tkh_3
  refine j_istore_n (ls' := [(0, jR 71), (1, jI r_1)]) dX5_readSpan_8 rfl (by decide) rfl ?_
  refine j_iload_n 1 dX5_readSpan_9 rfl rfl ?_
  refine j_bipush dX5_readSpan_10 (by decide) ?_
  refine j_icmp_eq (tgt := 24) dX5_readSpan_12 (by decide) (fun c12_4 => ?_) (fun c12_4 => ?_)
  · skip
    have y1 := tkn_no tkn (by omega) (fun z => by omega)
    have e1 := pS_a tq.1 y1.1
    have zbad : pB3 b 1 q < 0 ∧ M_2 71 3 = -1 - pB3 b 1 q := by have := (cT_tok y1.2).1; omega
    have zfr : cDG f M M_2 := cDG_fr hf2 f1
    refine j_iconst dX5_readSpan_24 (by decide) ?_
    refine j_zret rfl rfl rfl rfl dX5_readSpan_25 (by omega) ?_
    exact ⟨Or.inr ⟨rfl, zbad.1, zbad.2⟩, zfr⟩
  · skip
    have y1 := tkn_yes tkn (by omega)
    have t1 := y1.2.2
    have n1 := (cT_tok t1).2.2.2.2.1
    refine j_aload_n 0 dX5_readSpan_15 rfl rfl ?_
    refine j_ldcS (i := 14) (r := (-24)) (by decide) rfl rfl dX5_readSpan_16 (by decide) ?_
    refine j_callVi l_X5_95 ⟨Nat.le_of_ble_eq_true rfl, Nat.le_of_ble_eq_true rfl⟩ ⟨rfl, rfl⟩ dX5_readSpan_18 ob_71 (c_X5_takeWord M_2 b (lNx b q) 14 (by decide) (-24) (by rw [(fkh_3.2 0 (by decide) (by decide) (by decide) (by decide))]; exact h_ctyped) (by rw [(frh_3 72 (by decide))]; exact h_ctext) t1 (by decide)) rfl rfl (Nat.le_of_ble_eq_true rfl) (fun r_5 M_6 h_7 => ?_)
    obtain ⟨tkh_7, fkh_7⟩ := h_7
    have frh_7 := fkh_7.1
    have tkw := tkh_7
    have f2 := cFr_tr f1 fkh_7
    clear tkh_7
    rw [hwm] at tkw
    refine j_if_ne (tgt := 26) dX5_readSpan_21 (by decide) (fun c21_8 => ?_) (fun c21_8 => ?_)
    · skip
      have y2 := tk_yes tkw (by omega)
      have t2 := y2.2
      have n2 := (cT_tok t2).2.2.2.2.1
      have sc := pS_c tq.1 y1.2.1 n1.1 y2.1 n2.1
      refine j_aload_n 0 dX5_readSpan_26 rfl rfl ?_
      refine j_iload_n 1 dX5_readSpan_27 rfl rfl ?_
      refine j_iconst dX5_readSpan_28 (by decide) ?_
      refine j_iadd dX5_readSpan_29 (by omega) ?_
      refine j_sipush dX5_readSpan_30 (by decide) ?_
      refine j_callVi l_X5_90 ⟨Nat.le_of_ble_eq_true rfl, Nat.le_of_ble_eq_true rfl⟩ ⟨rfl, rfl⟩ dX5_readSpan_33 ob_71 (c_X5_takeNumber M_6 b (lNx b (lNx b q)) ((r_1 + 1)) 1439 (by rw [(Eq.trans (fkh_7.2 0 (by decide) (by decide) (by decide) (by decide)) (fkh_3.2 0 (by decide) (by decide) (by decide) (by decide)))]; exact h_ctyped) (by rw [(Eq.trans (frh_7 72 (by decide)) (frh_3 72 (by decide)))]; exact h_ctext) t2) rfl rfl (Nat.le_of_ble_eq_true rfl) (fun r_9 M_10 h_11 => ?_)
      obtain ⟨tkh_11, fkh_11⟩ := h_11
      have frh_11 := fkh_11.1
      have tkm := tkh_11
      have f3 := cFr_tr f2 fkh_11
      clear tkh_11
      have zh6 : M_10 71 6 = f := by rw [f3.2 6 (by decide) (by decide) (by decide) (by decide)]; exact h6
      have g0 : M_10 f 0 = M f 0 := by rw [f3.1 f (by omega)]
      have zB : cDG f M M_10 := cDG_fr hf2 f3
      refine j_istore_n (ls' := [(0, jR 71), (1, jI r_1), (2, jI r_9)]) dX5_readSpan_36 rfl (by decide) rfl ?_
      refine j_iload_n 2 dX5_readSpan_37 rfl rfl ?_
      refine j_bipush dX5_readSpan_38 (by decide) ?_
      refine j_icmp_ne (tgt := 45) dX5_readSpan_40 (by decide) (fun c40_12 => ?_) (fun c40_12 => ?_)
      · skip
        have y3 := tkn_yes tkm (by omega)
        have e1 := sc.1 (by rw [← y1.1]; exact y3.2.1)
        refine j_aload_n 0 dX5_readSpan_45 rfl rfl ?_
        refine j_getd (k' := 6) f_X5_19 o_71_6 dX5_readSpan_46 rfl ?_
        refine j_eqR (y := f) (by first | exact zh6b | exact zh6) ?_
        refine j_iconst dX5_readSpan_49 (by decide) ?_
        refine j_iload_n 1 dX5_readSpan_50 rfl rfl ?_
        refine j_callVv l_X5_136 ⟨Nat.le_of_ble_eq_true rfl, Nat.le_of_ble_eq_true rfl⟩ ⟨rfl, rfl⟩ dX5_readSpan_51 (oba hf) (c_X0_tell M_10 f hf 1 r_1 (by rw [g0]; exact hru) (by omega)) rfl rfl (Nat.le_of_ble_eq_true rfl) (fun M_14 h_15 => ?_)
        have eM_14 := h_15
        unfold q_X0_tell at eM_14
        have zh6b : M_14 71 6 = f := by rw [eM_14, jup_cellk (by omega)]; exact zh6
        have g0b : M_14 f 0 = M f 0 := by rw [eM_14, jup_cellk (by omega)]; exact g0
        have eT1 := eM_14
        have zB1 : cDG f M M_14 := by rw [eM_14]; exact cDG_tr hf2 zB (cDG_tell hf2 (by omega))
        refine j_aload_n 0 dX5_readSpan_54 rfl rfl ?_
        refine j_getd (k' := 6) f_X5_19 o_71_6 dX5_readSpan_55 rfl ?_
        refine j_eqR (y := f) (by first | exact zh6b | exact zh6) ?_
        refine j_iconst dX5_readSpan_58 (by decide) ?_
        refine j_iload_n 2 dX5_readSpan_59 rfl rfl ?_
        refine j_callVv l_X5_136 ⟨Nat.le_of_ble_eq_true rfl, Nat.le_of_ble_eq_true rfl⟩ ⟨rfl, rfl⟩ dX5_readSpan_60 (oba hf) (c_X0_tell M_14 f hf 2 r_9 (by rw [g0b]; exact hru) (by omega)) rfl rfl (Nat.le_of_ble_eq_true rfl) (fun M_17 h_18 => ?_)
        have eM_17 := h_18
        unfold q_X0_tell at eM_17
        refine j_iconst dX5_readSpan_63 (by decide) ?_
        refine j_zret rfl rfl rfl rfl dX5_readSpan_64 (by omega) ?_
        have n3 := (cT_tok y3.2.2).2.2.2.2.1
        have d1 := cTd_up (w := 1) (n := r_1) hf2 (cTd_fr hf2 f3 htd) (by omega)
        rw [← eT1] at d1
        have d2 := cTd_up (w := 2) (n := r_9) hf2 d1 (by omega)
        rw [← eM_17] at d2
        refine ⟨Or.inl ⟨rfl, by omega, ?_, ?_⟩, ?_⟩
        · rw [e1.1, eM_17, eT1]; exact cT_ne (cT_ne y3.2.2 (by omega) (by omega)) (by omega) (by omega)
        · rw [e1.2 t, ← y1.1, ← y3.1]; exact d2
        · rw [eM_17]; exact cDG_tr hf2 zB1 (cDG_tell hf2 (by omega))
      · skip
        have y3 := tkn_no tkm (by omega) (fun z => by omega)
        have e1 := sc.2 (by rw [← y1.1]; exact y3.1)
        refine j_iconst dX5_readSpan_43 (by decide) ?_
        refine j_zret rfl rfl rfl rfl dX5_readSpan_44 (by omega) ?_
        exact ⟨Or.inr ⟨rfl, by omega, by have := (cT_tok y3.2).1; omega⟩, cDG_fr hf2 f3⟩
    · skip
      have y2 := tk_no tkw (by omega)
      have e1 := pS_b tq.1 y1.2.1 n1.1 y2.1
      have zbad : pB3 b 1 q < 0 ∧ M_6 71 3 = -1 - pB3 b 1 q := by have := (cT_tok y2.2).1; omega
      have zfr : cDG f M M_6 := cDG_fr hf2 f2
      refine j_iconst dX5_readSpan_24 (by decide) ?_
      refine j_zret rfl rfl rfl rfl dX5_readSpan_25 (by omega) ?_
      exact ⟨Or.inr ⟨rfl, zbad.1, zbad.2⟩, zfr⟩
abbrev q_X5_readDuty (M : jM) (b : Int → Int) (q f : Int) (hf : jA f) (t : Int → Int)  : Int → jM → Prop := fun r N => rdt b f M N (pD1 b q t) (pBt b (pDw b q) (lNx b q) t) r
set_option maxHeartbeats 4000000 in
set_option maxRecDepth 20000 in
theorem c_X5_readDuty {X : jX} (M : jM) (b : Int → Int) (q f : Int) (hf : jA f) (t : Int → Int)  (h_ctyped : 0 ≤ M 71 0 ∧ M 71 0 ≤ 900) (h_ctext : ∀ i, -128 ≤ M 72 i ∧ M 72 i ≤ 127) (ht : cT b M q) (h6 : M 71 6 = f) (hru : 0 < M f 0 ∧ M f 0 ≤ 16) (htd : cTd M f t) (htk : tOk t) : jC yX5_readDuty D_X5_readDuty X FJ shJ [jR 71] M (jqI (q_X5_readDuty M b q f hf t)) := by
  refine jC_of (by decide) rfl (fun ad => Nat.le_of_ble_eq_true rfl) (by decide) ?_
  show jG D_X5_readDuty X FJ shJ 0 0 (jqI (q_X5_readDuty M b q f hf t)) 0 [(0, jR 71)] [] M
  have hf2 : f = 47 ∨ f = 59 := hf
  have tq := (cT_tok ht).2.2.2.2.1
  have hpw := pDw_in b q
  refine j_aload_n 0 dX5_readDuty_0 rfl rfl ?_
  refine j_callVi l_X5_122 ⟨Nat.le_of_ble_eq_true rfl, Nat.le_of_ble_eq_true rfl⟩ ⟨rfl, rfl⟩ dX5_readDuty_1 ob_71 (c_X5_dutyWord M b q h_ctyped h_ctext ht) rfl rfl (Nat.le_of_ble_eq_true rfl) (fun r_1 M_2 h_3 => ?_)
  obtain ⟨er_1, nh_3⟩ := h_3
  refine j_eqM nh_3 ?_
  clear nh_3
  have hw_ : r_1 = pDw b q := er_1
  refine j_istore_n (ls' := [(0, jR 71), (1, jI r_1)]) dX5_readDuty_4 rfl (by decide) rfl ?_
  refine j_iload_n 1 dX5_readDuty_5 rfl rfl ?_
  refine j_bipush dX5_readDuty_6 (by decide) ?_
  refine j_icmp_eq (tgt := 22) dX5_readDuty_8 (by decide) (fun c8_4 => ?_) (fun c8_4 => ?_)
  · skip
    refine j_iconst dX5_readDuty_22 (by decide) ?_
    refine j_zret rfl rfl rfl rfl dX5_readDuty_23 (by omega) ?_
    first | (have e := pD1_no (b := b) (q := q) (t := t) tq.1 (Or.inl (by omega)); exact ⟨Or.inr ⟨rfl, by omega, by have := (cT_tok ht).1; omega⟩, cDG_rf f M⟩) | (have e := pD1_no (b := b) (q := q) (t := t) tq.1 (Or.inr (fun z => by have := hta.2 z; rw [hw_] at her; omega)); exact ⟨Or.inr ⟨rfl, by omega, by have := (cT_tok ht).1; omega⟩, cDG_rf f M⟩)
  · skip
    refine j_aload_n 0 dX5_readDuty_11 rfl rfl ?_
    refine j_getd (k' := 6) f_X5_19 o_71_6 dX5_readDuty_12 rfl ?_
    refine j_eqR (y := f) (by first | exact h6 | exact zh6) ?_
    refine j_iload_n 1 dX5_readDuty_15 rfl rfl ?_
    refine j_callVi l_X5_125 ⟨Nat.le_of_ble_eq_true rfl, Nat.le_of_ble_eq_true rfl⟩ ⟨rfl, rfl⟩ dX5_readDuty_16 (oba hf) (c_X0_tellsLast M f hf r_1 (by omega)) rfl rfl (Nat.le_of_ble_eq_true rfl) (fun r_5 M_6 h_7 => ?_)
    obtain ⟨er_5, nh_7⟩ := h_7
    refine j_eqM nh_7 ?_
    clear nh_7
    have hta := cTd_at (w := pDw b q) htd htk (by omega) (by omega)
    have her := er_5
    refine j_if_eq (tgt := 24) dX5_readDuty_19 (by decide) (fun c19_8 => ?_) (fun c19_8 => ?_)
    · skip
      refine j_aload_n 0 dX5_readDuty_24 rfl rfl ?_
      refine j_callVv l_X5_38 ⟨Nat.le_of_ble_eq_true rfl, Nat.le_of_ble_eq_true rfl⟩ ⟨rfl, rfl⟩ dX5_readDuty_25 ob_71 (c_X5_step M b h_ctyped h_ctext ht.1 (cT_pre ht h_ctyped)) rfl rfl (Nat.le_of_ble_eq_true rfl) (fun M_10 h_11 => ?_)
      have sth_11 := h_11
      unfold q_X5_step at sth_11
      have frh_11 := sth_11.2.2.1
      have t1 := cT_step ht sth_11
      have fS := sth_11.2.2
      have zh6 : M_10 71 6 = f := by rw [fS.2 6 (by decide) (by decide) (by decide) (by decide)]; exact h6
      have g0 : M_10 f 0 = M f 0 := by rw [fS.1 f (by omega)]
      have d1 := cTd_fr hf2 fS htd
      have n1 := (cT_tok t1).2.2.2.2.1
      have htw : t (pDw b q) = -9 := hta.1 (by rw [hw_] at her; omega)
      have eD := pD1_yes (b := b) (q := q) (t := t) (by omega) htw
      refine j_iload_n 1 dX5_readDuty_28 rfl rfl ?_
      rcases (show r_1 = 0 ∨ r_1 = 1 ∨ r_1 = 2 ∨ r_1 = 3 ∨ r_1 = 4 ∨ r_1 < 0 ∨ 4 < r_1 from by omega) with s_12 | s_12 | s_12 | s_12 | s_12 | s_12 | s_12
      · refine j_tswIn (tgt := 64) 0 s_12 dX5_readDuty_29 (by decide) (by decide) rfl (by decide) ?_
        refine j_aload_n 0 dX5_readDuty_64 rfl rfl ?_
        refine j_iconst dX5_readDuty_65 (by decide) ?_
        refine j_iconst dX5_readDuty_66 (by decide) ?_
        refine j_sipush dX5_readDuty_67 (by decide) ?_
        refine j_callVi l_X5_129 ⟨Nat.le_of_ble_eq_true rfl, Nat.le_of_ble_eq_true rfl⟩ ⟨rfl, rfl⟩ dX5_readDuty_70 ob_71 (c_X5_readTold M_10 b (lNx b q) f hf t 0 0 1440 (by rw [(sth_11.2.2.2 0 (by decide) (by decide) (by decide) (by decide))]; exact h_ctyped) (by rw [(frh_11 72 (by decide))]; exact h_ctext) t1 zh6 (by rw [g0]; exact hru) d1 (by omega) (by omega)) rfl rfl (Nat.le_of_ble_eq_true rfl) (fun r_13 M_14 h_15 => ?_)
        have rth_15 := h_15
        unfold q_X5_readTold at rth_15
        have zz := rdt_in rth_15
        refine j_zret rfl rfl rfl rfl dX5_readDuty_73 (by omega) ?_
        have w0 : pDw b q = 0 := by omega
        exact rdt_mv hf2 rth_15 (cDG_fr hf2 fS) (by rw [eD, w0]; rfl) (by rw [w0]; rfl)
      · refine j_tswIn (tgt := 74) 1 s_12 dX5_readDuty_29 (by decide) (by decide) rfl (by decide) ?_
        refine j_aload_n 0 dX5_readDuty_74 rfl rfl ?_
        refine j_callVi l_X5_133 ⟨Nat.le_of_ble_eq_true rfl, Nat.le_of_ble_eq_true rfl⟩ ⟨rfl, rfl⟩ dX5_readDuty_75 ob_71 (c_X5_readSpan M_10 b (lNx b q) f hf t (by rw [(sth_11.2.2.2 0 (by decide) (by decide) (by decide) (by decide))]; exact h_ctyped) (by rw [(frh_11 72 (by decide))]; exact h_ctext) t1 zh6 (by rw [g0]; exact hru) d1) rfl rfl (Nat.le_of_ble_eq_true rfl) (fun r_16 M_17 h_18 => ?_)
        have rth_18 := h_18
        unfold q_X5_readSpan at rth_18
        have zz := rdt_in rth_18
        refine j_zret rfl rfl rfl rfl dX5_readDuty_78 (by omega) ?_
        have w0 : pDw b q = 1 := by omega
        exact rdt_mv hf2 rth_18 (cDG_fr hf2 fS) (by rw [eD, w0]) (by rw [w0])
      · refine j_tswIn (tgt := 99) 2 s_12 dX5_readDuty_29 (by decide) (by decide) rfl (by decide) ?_
        refine j_aload_n 0 dX5_readDuty_99 rfl rfl ?_
        refine j_getd (k' := 6) f_X5_19 o_71_6 dX5_readDuty_100 rfl ?_
        refine j_eqR (y := f) (by first | exact h6 | exact zh6) ?_
        refine j_iload_n 1 dX5_readDuty_103 rfl rfl ?_
        refine j_iconst dX5_readDuty_104 (by decide) ?_
        refine j_callVv l_X5_136 ⟨Nat.le_of_ble_eq_true rfl, Nat.le_of_ble_eq_true rfl⟩ ⟨rfl, rfl⟩ dX5_readDuty_105 (oba hf) (c_X0_tell M_10 f hf r_1 1 (by rw [g0]; exact hru) (by omega)) rfl rfl (Nat.le_of_ble_eq_true rfl) (fun M_20 h_21 => ?_)
        have eM_20 := h_21
        unfold q_X0_tell at eM_20
        refine j_iconst dX5_readDuty_108 (by decide) ?_
        refine j_zret rfl rfl rfl rfl dX5_readDuty_109 (by omega) ?_
        have w0 : pDw b q = 5 ∨ pDw b q = 6 := by omega
        have e3 : pD1 b q t = lNx b q := by rw [eD]; rcases w0 with z | z <;> (rw [z]; rfl)
        have d2 := cTd_up (w := r_1) (n := 1) hf2 d1 (by omega)
        rw [← eM_20] at d2
        refine ⟨Or.inl ⟨rfl, by omega, by rw [e3, eM_20]; exact cT_ne t1 (by omega) (by omega), ?_⟩, by rw [eM_20]; exact cDG_tr hf2 (cDG_fr hf2 fS) (cDG_tell hf2 (by omega))⟩
        have e4 : pBt b (pDw b q) (lNx b q) t = tUp t r_1 1 := by rw [hw_]; rcases w0 with z | z <;> (rw [z]; rfl)
        rw [e4]; exact d2
      · refine j_tswIn (tgt := 79) 3 s_12 dX5_readDuty_29 (by decide) (by decide) rfl (by decide) ?_
        refine j_aload_n 0 dX5_readDuty_79 rfl rfl ?_
        refine j_iconst dX5_readDuty_80 (by decide) ?_
        refine j_iconst dX5_readDuty_81 (by decide) ?_
        refine j_sipush dX5_readDuty_82 (by decide) ?_
        refine j_callVi l_X5_129 ⟨Nat.le_of_ble_eq_true rfl, Nat.le_of_ble_eq_true rfl⟩ ⟨rfl, rfl⟩ dX5_readDuty_85 ob_71 (c_X5_readTold M_10 b (lNx b q) f hf t 3 0 600 (by rw [(sth_11.2.2.2 0 (by decide) (by decide) (by decide) (by decide))]; exact h_ctyped) (by rw [(frh_11 72 (by decide))]; exact h_ctext) t1 zh6 (by rw [g0]; exact hru) d1 (by omega) (by omega)) rfl rfl (Nat.le_of_ble_eq_true rfl) (fun r_22 M_23 h_24 => ?_)
        have rth_24 := h_24
        unfold q_X5_readTold at rth_24
        have zz := rdt_in rth_24
        refine j_zret rfl rfl rfl rfl dX5_readDuty_88 (by omega) ?_
        have w0 : pDw b q = 3 := by omega
        exact rdt_mv hf2 rth_24 (cDG_fr hf2 fS) (by rw [eD, w0]; rfl) (by rw [w0]; rfl)
      · refine j_tswIn (tgt := 89) 4 s_12 dX5_readDuty_29 (by decide) (by decide) rfl (by decide) ?_
        refine j_aload_n 0 dX5_readDuty_89 rfl rfl ?_
        refine j_iconst dX5_readDuty_90 (by decide) ?_
        refine j_iconst dX5_readDuty_91 (by decide) ?_
        refine j_sipush dX5_readDuty_92 (by decide) ?_
        refine j_callVi l_X5_129 ⟨Nat.le_of_ble_eq_true rfl, Nat.le_of_ble_eq_true rfl⟩ ⟨rfl, rfl⟩ dX5_readDuty_95 ob_71 (c_X5_readTold M_10 b (lNx b q) f hf t 4 1 1440 (by rw [(sth_11.2.2.2 0 (by decide) (by decide) (by decide) (by decide))]; exact h_ctyped) (by rw [(frh_11 72 (by decide))]; exact h_ctext) t1 zh6 (by rw [g0]; exact hru) d1 (by omega) (by omega)) rfl rfl (Nat.le_of_ble_eq_true rfl) (fun r_25 M_26 h_27 => ?_)
        have rth_27 := h_27
        unfold q_X5_readTold at rth_27
        have zz := rdt_in rth_27
        refine j_zret rfl rfl rfl rfl dX5_readDuty_98 (by omega) ?_
        have w0 : pDw b q = 4 := by omega
        exact rdt_mv hf2 rth_27 (cDG_fr hf2 fS) (by rw [eD, w0]; rfl) (by rw [w0]; rfl)
      · refine j_tswOut (tgt := 99) dX5_readDuty_29 (Or.inl s_12) (by decide) ?_
        refine j_aload_n 0 dX5_readDuty_99 rfl rfl ?_
        refine j_getd (k' := 6) f_X5_19 o_71_6 dX5_readDuty_100 rfl ?_
        refine j_eqR (y := f) (by first | exact h6 | exact zh6) ?_
        refine j_iload_n 1 dX5_readDuty_103 rfl rfl ?_
        refine j_iconst dX5_readDuty_104 (by decide) ?_
        refine j_callVv l_X5_136 ⟨Nat.le_of_ble_eq_true rfl, Nat.le_of_ble_eq_true rfl⟩ ⟨rfl, rfl⟩ dX5_readDuty_105 (oba hf) (c_X0_tell M_10 f hf r_1 1 (by rw [g0]; exact hru) (by omega)) rfl rfl (Nat.le_of_ble_eq_true rfl) (fun M_29 h_30 => ?_)
        have eM_29 := h_30
        unfold q_X0_tell at eM_29
        refine j_iconst dX5_readDuty_108 (by decide) ?_
        refine j_zret rfl rfl rfl rfl dX5_readDuty_109 (by omega) ?_
        have w0 : pDw b q = 5 ∨ pDw b q = 6 := by omega
        have e3 : pD1 b q t = lNx b q := by rw [eD]; rcases w0 with z | z <;> (rw [z]; rfl)
        have d2 := cTd_up (w := r_1) (n := 1) hf2 d1 (by omega)
        rw [← eM_29] at d2
        refine ⟨Or.inl ⟨rfl, by omega, by rw [e3, eM_29]; exact cT_ne t1 (by omega) (by omega), ?_⟩, by rw [eM_29]; exact cDG_tr hf2 (cDG_fr hf2 fS) (cDG_tell hf2 (by omega))⟩
        have e4 : pBt b (pDw b q) (lNx b q) t = tUp t r_1 1 := by rw [hw_]; rcases w0 with z | z <;> (rw [z]; rfl)
        rw [e4]; exact d2
      · refine j_tswOut (tgt := 99) dX5_readDuty_29 (Or.inr s_12) (by decide) ?_
        refine j_aload_n 0 dX5_readDuty_99 rfl rfl ?_
        refine j_getd (k' := 6) f_X5_19 o_71_6 dX5_readDuty_100 rfl ?_
        refine j_eqR (y := f) (by first | exact h6 | exact zh6) ?_
        refine j_iload_n 1 dX5_readDuty_103 rfl rfl ?_
        refine j_iconst dX5_readDuty_104 (by decide) ?_
        refine j_callVv l_X5_136 ⟨Nat.le_of_ble_eq_true rfl, Nat.le_of_ble_eq_true rfl⟩ ⟨rfl, rfl⟩ dX5_readDuty_105 (oba hf) (c_X0_tell M_10 f hf r_1 1 (by rw [g0]; exact hru) (by omega)) rfl rfl (Nat.le_of_ble_eq_true rfl) (fun M_32 h_33 => ?_)
        have eM_32 := h_33
        unfold q_X0_tell at eM_32
        refine j_iconst dX5_readDuty_108 (by decide) ?_
        refine j_zret rfl rfl rfl rfl dX5_readDuty_109 (by omega) ?_
        have w0 : pDw b q = 5 ∨ pDw b q = 6 := by omega
        have e3 : pD1 b q t = lNx b q := by rw [eD]; rcases w0 with z | z <;> (rw [z]; rfl)
        have d2 := cTd_up (w := r_1) (n := 1) hf2 d1 (by omega)
        rw [← eM_32] at d2
        refine ⟨Or.inl ⟨rfl, by omega, by rw [e3, eM_32]; exact cT_ne t1 (by omega) (by omega), ?_⟩, by rw [eM_32]; exact cDG_tr hf2 (cDG_fr hf2 fS) (cDG_tell hf2 (by omega))⟩
        have e4 : pBt b (pDw b q) (lNx b q) t = tUp t r_1 1 := by rw [hw_]; rcases w0 with z | z <;> (rw [z]; rfl)
        rw [e4]; exact d2
    · skip
      refine j_iconst dX5_readDuty_22 (by decide) ?_
      refine j_zret rfl rfl rfl rfl dX5_readDuty_23 (by omega) ?_
      first | (have e := pD1_no (b := b) (q := q) (t := t) tq.1 (Or.inl (by omega)); exact ⟨Or.inr ⟨rfl, by omega, by have := (cT_tok ht).1; omega⟩, cDG_rf f M⟩) | (have e := pD1_no (b := b) (q := q) (t := t) tq.1 (Or.inr (fun z => by have := hta.2 z; rw [hw_] at her; omega)); exact ⟨Or.inr ⟨rfl, by omega, by have := (cT_tok ht).1; omega⟩, cDG_rf f M⟩)
abbrev q_X5_readDuties (M : jM) (b : Int → Int) (q f : Int) (hf : jA f) (t : Int → Int)  : Int → jM → Prop := fun r N => dsP b f M N (pDu b 4 q t 0) r
set_option maxHeartbeats 4000000 in
set_option maxRecDepth 20000 in
theorem c_X5_readDuties {X : jX} (M : jM) (b : Int → Int) (q f : Int) (hf : jA f) (t : Int → Int)  (h_ctyped : 0 ≤ M 71 0 ∧ M 71 0 ≤ 900) (h_ctext : ∀ i, -128 ≤ M 72 i ∧ M 72 i ≤ 127) (ht : cT b M q) (h6 : M 71 6 = f) (hru : 0 < M f 0 ∧ M f 0 ≤ 16) (htd : cTd M f t) (htk : tOk t) (h5 : M (f + 5) (M f 0 - 1) = 0) : jC yX5_readDuties D_X5_readDuties X FJ shJ [jR 71] M (jqI (q_X5_readDuties M b q f hf t)) := by
  refine jC_of (by decide) rfl (fun ad => Nat.le_of_ble_eq_true rfl) (by decide) ?_
  show jG D_X5_readDuties X FJ shJ 0 0 (jqI (q_X5_readDuties M b q f hf t)) 0 [(0, jR 71)] [] M
  have hf2 : f = 47 ∨ f = 59 := hf
  refine j_iconst dX5_readDuties_0 (by decide) ?_
  refine j_istore_n (ls' := [(0, jR 71), (1, jI 0)]) dX5_readDuties_1 rfl (by decide) rfl ?_
  have lp2_1 : ∀ n2 : Nat, ∀ (v1 : Int), ∀ N2 : jM, (duI b f M N2 (pDu b 4 q t 0) v1) → (4 - v1).toNat < n2 → jG D_X5_readDuties X FJ shJ 0 0 (jqI (q_X5_readDuties M b q f hf t)) 2 [(0, jR 71), (1, jI v1)] ([]) N2 := by
    intro n2
    induction n2 with
    | zero => intro v1 N2 _ hz; exact absurd hz (Nat.not_lt_zero _)
    | succ n2 ih2 =>
      intro v1 N2 hinv hm
      have hI := hinv
      obtain ⟨s, tt, m, hm_, hR, hT, hD, hO, h5_, hF⟩ := hI
      have gF : N2 f 0 = M f 0 := by rw [hF.1 f (by omega) (by omega) (by omega)]
      have ts := (cT_tok hT).2.2.2.2.1
      have e71 : N2 71 0 = M 71 0 := hF.2.1 0 (by decide) (by decide) (by decide) (by decide)
      have hbk := cT_bok ht h_ctyped
      have p1 := pD1_inR hbk (t := tt) ts.1 (show s ≤ M 71 0 by omega)
      refine j_iload_n 1 dX5_readDuties_2 rfl rfl ?_
      refine j_iconst dX5_readDuties_3 (by decide) ?_
      refine j_icmp_ge (tgt := 45) dX5_readDuties_4 (by decide) (fun c4_2 => ?_) (fun c4_2 => ?_)
      · skip
        refine j_iconst dX5_readDuties_45 (by decide) ?_
        refine j_zret rfl rfl rfl rfl dX5_readDuties_46 (by omega) ?_
        have : m = 4 := by omega
        subst this
        have hR2 : (fl s, tt, 4) = (pDu b 4 q t 0) := hR
        show dsP b f M N2 (pDu b 4 q t 0) 0
        rw [← hR2]
        exact ⟨Or.inr ⟨rfl, fl_neg ts.1, by show _ = -1 - fl s; unfold fl; rw [if_neg (by omega), (cT_tok hT).1]; omega⟩, hF⟩
      · skip
        obtain ⟨u, hu⟩ : ∃ u, 4 - m = u + 1 := ⟨3 - m, by omega⟩
        rw [hu] at hR
        rw [pDu] at hR
        refine j_aload_n 0 dX5_readDuties_7 rfl rfl ?_
        refine j_callVi l_X5_116 ⟨Nat.le_of_ble_eq_true rfl, Nat.le_of_ble_eq_true rfl⟩ ⟨rfl, rfl⟩ dX5_readDuties_8 ob_71 (c_X5_readDuty N2 b s f hf tt (by rw [(hF.2.1 0 (by decide) (by decide) (by decide) (by decide))]; exact h_ctyped) (by rw [(hF.1 72 (by decide) (by omega) (by omega))]; exact h_ctext) hT (by rw [hF.2.1 6 (by decide) (by decide) (by decide) (by decide)]; exact h6) (by rw [gF]; exact hru) hD hO) rfl rfl (Nat.le_of_ble_eq_true rfl) (fun r_3 M_4 h_5 => ?_)
        have rth_5 := h_5
        unfold q_X5_readDuty at rth_5
        have frh_5 := rth_5.2.1.1
        refine j_if_ne (tgt := 16) dX5_readDuties_11 (by decide) (fun c11_6 => ?_) (fun c11_6 => ?_)
        · skip
          have y := rdt_yes rth_5 (by omega)
          have fD := rth_5.2
          have zh6 : M_4 71 6 = f := by rw [fD.1.2.1 6 (by decide) (by decide) (by decide) (by decide), hF.2.1 6 (by decide) (by decide) (by decide) (by decide)]; exact h6
          have g0 : M_4 f 0 = M f 0 := by rw [fD.1.1 f (by omega) (by omega) (by omega), gF]
          have c5 : M_4 (f + 5) (M_4 f 0 - 1) = (m : Int) := by rw [g0, fD.2]; exact h5_
          rw [if_neg (by omega)] at hR
          refine j_aload_n 0 dX5_readDuties_16 rfl rfl ?_
          refine j_getd (k' := 6) f_X5_19 o_71_6 dX5_readDuties_17 rfl ?_
          refine j_eqR (y := f) (by exact zh6) ?_
          refine j_callVv l_X5_119 ⟨Nat.le_of_ble_eq_true rfl, Nat.le_of_ble_eq_true rfl⟩ ⟨rfl, rfl⟩ dX5_readDuties_20 (oba hf) (c_X0_countDuty M_4 f hf (by rw [g0]; exact hru) (by rw [c5]; omega)) rfl rfl (Nat.le_of_ble_eq_true rfl) (fun M_8 h_9 => ?_)
          have eM_8 := h_9
          unfold q_X0_countDuty at eM_8
          have frh_9 : ∀ c, c ≠ f + 5 → M_8 c = M_4 c := fun c z => by rw [eM_8, jup_cell z]
          have t3 : cT b M_8 (pD1 b s tt) := by rw [eM_8]; exact cT_ne y.2.1 (by omega) (by omega)
          have d3 : cTd M_8 f (pBt b (pDw b s) (lNx b s) tt) := by rw [eM_8]; exact cTd_cnt hf2 y.2.2
          have k3 : cDF f M M_8 := by rw [eM_8]; exact cDF_tr hf2 hF (cDF_tr hf2 fD.1 (cDF_cnt hf2))
          have e5 : M_8 (f + 5) (M f 0 - 1) = (m : Int) + 1 := by rw [eM_8, g0, jup_self, ← g0, c5]
          have ok1 := pBt_ok hbk (s := lNx b s) (w := pDw b s) (t := tt) (by have := p1.2.2 y.1; omega) (p1.2.2 y.1).2.2 (p1.2.1 y.1) (p1.2.2 y.1).1 hO
          refine j_aload_n 0 dX5_readDuties_23 rfl rfl ?_
          refine j_bipush dX5_readDuties_24 (by decide) ?_
          refine j_callVi l_X5_98 ⟨Nat.le_of_ble_eq_true rfl, Nat.le_of_ble_eq_true rfl⟩ ⟨rfl, rfl⟩ dX5_readDuties_26 ob_71 (c_X5_takeSign M_8 b (pD1 b s tt) 44 (by rw [(Eq.trans (congrFun (frh_9 71 (by omega)) 0) (Eq.trans (rth_5.2.1.2.1 0 (by decide) (by decide) (by decide) (by decide)) (hF.2.1 0 (by decide) (by decide) (by decide) (by decide))))]; exact h_ctyped) (by rw [(Eq.trans (frh_9 72 (by omega)) (Eq.trans (frh_5 72 (by decide) (by omega) (by omega)) (hF.1 72 (by decide) (by omega) (by omega))))]; exact h_ctext) t3 (by decide)) rfl rfl (Nat.le_of_ble_eq_true rfl) (fun r_10 M_11 h_12 => ?_)
          obtain ⟨tkh_12, fkh_12⟩ := h_12
          have frh_12 := fkh_12.1
          refine j_if_ne (tgt := 39) dX5_readDuties_29 (by decide) (fun c29_13 => ?_) (fun c29_13 => ?_)
          · skip
            have y2 := tk_yes tkh_12 (by omega)
            have k4 := cDF_tr hf2 k3 (cDF_fr hf2 fkh_12)
            have d4 := cTd_fr hf2 fkh_12 d3
            have e6 : M_11 (f + 5) (M f 0 - 1) = (m : Int) + 1 := by rw [fkh_12.1 (f + 5) (by omega)]; exact e5
            obtain ⟨v1_14, ev1_14⟩ : ∃ y : Int, y = v1 + 1 := ⟨_, rfl⟩
            refine j_iinc (y := v1_14) (ls' := [(0, jR 71), (1, jI v1_14)]) 1 dX5_readDuties_39 rfl ev1_14 (by omega) (by decide) rfl ?_
            refine j_goto (tgt := 2) dX5_readDuties_42 (by decide) ?_
            exact ih2 v1_14 M_11 (by rw [if_pos y2.1] at hR; exact ⟨lNx b (pD1 b s tt), (pBt b (pDw b s) (lNx b s) tt), m + 1, by omega, (by rw [show 4 - (m + 1) = u by omega]; exact hR), y2.2, d4, ok1, by rw [e6]; omega, k4⟩) (by omega)
          · skip
            have y2 := tk_no tkh_12 (by omega)
            have t4 := y2.2
            have k4 := cDF_tr hf2 k3 (cDF_fr hf2 fkh_12)
            have d4 := cTd_fr hf2 fkh_12 d3
            have e6 : M_11 (f + 5) (M f 0 - 1) = (m : Int) + 1 := by rw [fkh_12.1 (f + 5) (by omega)]; exact e5
            refine j_aload_n 0 dX5_readDuties_32 rfl rfl ?_
            refine j_bipush dX5_readDuties_33 (by decide) ?_
            refine j_callVi l_X5_98 ⟨Nat.le_of_ble_eq_true rfl, Nat.le_of_ble_eq_true rfl⟩ ⟨rfl, rfl⟩ dX5_readDuties_35 ob_71 (c_X5_takeSign M_11 b (pD1 b s tt) 59 (by rw [(Eq.trans (fkh_12.2 0 (by decide) (by decide) (by decide) (by decide)) (Eq.trans (congrFun (frh_9 71 (by omega)) 0) (Eq.trans (rth_5.2.1.2.1 0 (by decide) (by decide) (by decide) (by decide)) (hF.2.1 0 (by decide) (by decide) (by decide) (by decide)))))]; exact h_ctyped) (by rw [(Eq.trans (frh_12 72 (by decide)) (Eq.trans (frh_9 72 (by omega)) (Eq.trans (frh_5 72 (by decide) (by omega) (by omega)) (hF.1 72 (by decide) (by omega) (by omega)))))]; exact h_ctext) t4 (by decide)) rfl rfl (Nat.le_of_ble_eq_true rfl) (fun r_15 M_16 h_17 => ?_)
            obtain ⟨tkh_17, fkh_17⟩ := h_17
            have frh_17 := fkh_17.1
            have zz : r_15 = 0 ∨ r_15 = 1 := tkh_17.elim (fun z => Or.inr z.1) (fun z => Or.inl z.1)
            refine j_zret rfl rfl rfl rfl dX5_readDuties_38 (by omega) ?_
            rw [if_neg y2.1] at hR
            show dsP b f M M_16 (pDu b 4 q t 0) r_15
            rw [← hR]
            rcases tkh_17 with ⟨z1, z2, z3⟩ | ⟨z1, z2, z3⟩
            · have e9 := (tkS_at (b := b) (k := 59) (q := (pD1 b s tt)) (by omega)).1 z2
              have n9 := (cT_tok z3).2.2.2.2.1
              refine ⟨Or.inl ⟨z1, by show 0 ≤ tkS b 59 _; omega, by show cT b _ (tkS b 59 _); rw [e9]; exact z3, cTd_fr hf2 fkh_17 d4, ?_⟩, cDF_tr hf2 k4 (cDF_fr hf2 fkh_17)⟩
              rw [fkh_17.1 (f + 5) (by omega), e6]; show (m : Int) + 1 = ((m + 1 : Nat) : Int); omega
            · have e9 := (tkS_at (b := b) (k := 59) (q := (pD1 b s tt)) (by omega)).2 z2
              exact ⟨Or.inr ⟨z1, by show tkS b 59 _ < 0; omega, by show _ = -1 - tkS b 59 _; rw [(cT_tok z3).1]; omega⟩, cDF_tr hf2 k4 (cDF_fr hf2 fkh_17)⟩
        · skip
          have yn := rdt_no rth_5 (by omega)
          have fD := rth_5.2
          refine j_iconst dX5_readDuties_14 (by decide) ?_
          refine j_zret rfl rfl rfl rfl dX5_readDuties_15 (by omega) ?_
          rw [if_pos yn.1] at hR
          show dsP b f M M_4 (pDu b 4 q t 0) 0
          rw [← hR]
          exact ⟨Or.inr ⟨rfl, yn.1, yn.2⟩, cDF_tr hf2 hF fD.1⟩
  exact lp2_1 _ 0 M (by exact ⟨q, t, 0, by omega, rfl, ht, htd, htk, h5, cDF_rf f M⟩) (Nat.lt_succ_self _)
