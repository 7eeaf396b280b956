abbrev q_X5_readIf (M : jM) (b : Int → Int) (q f : Int) (hf : jA f)  : Int → jM → Prop := fun r N => ifP b f M N (pIf b q) r
set_option maxHeartbeats 4000000 in
set_option maxRecDepth 20000 in
theorem c_X5_readIf {X : jX} (M : jM) (b : Int → Int) (q f : Int) (hf : jA f)  (h_ctyped : 0 ≤ M 71 0 ∧ M 71 0 ≤ 900) (h_ctext : ∀ i, -128 ≤ M 72 i ∧ M 72 i ≤ 127) (ht : cT b M q) (h6 : M 71 6 = f) (hru : 1 ≤ M f 0 ∧ M f 0 ≤ 16) (hst : 0 ≤ M f 9 ∧ M f 9 ≤ q - 1) (hto : M (f + 8) (M f 0 - 1) = M f 9) (hq : 1 ≤ q) : jC yX5_readIf D_X5_readIf X FJ shJ [jR 71] M (jqI (q_X5_readIf M b q f hf)) := by
  refine jC_of (by decide) rfl (fun ad => Nat.le_of_ble_eq_true rfl) (by decide) ?_
  show jG D_X5_readIf X FJ shJ 0 0 (jqI (q_X5_readIf M b q f hf)) 0 [(0, jR 71)] [] M
  have hf2 : f = 47 ∨ f = 59 := hf
  have tq := (cT_tok ht).2.2.2.2.1
  have hbk := cT_bok ht h_ctyped
  have hwm : wMap 2 = 2 ∧ wMap 8 = 3 := by decide
  refine j_aload_n 0 dX5_readIf_0 rfl rfl ?_
  refine j_ldcS (i := 2) (r := (-12)) (by decide) rfl rfl dX5_readIf_1 (by decide) ?_
  refine j_callVi l_X5_95 ⟨Nat.le_of_ble_eq_true rfl, Nat.le_of_ble_eq_true rfl⟩ ⟨rfl, rfl⟩ dX5_readIf_3 ob_71 (c_X5_takeWord M b q 2 (by decide) (-12) h_ctyped h_ctext ht (by decide)) rfl rfl (Nat.le_of_ble_eq_true rfl) (fun r_1 M_2 h_3 => ?_)
  obtain ⟨tkh_3, fkh_3⟩ := h_3
  have frh_3 := fkh_3.1
  have tkw := tkh_3
  have zf1 := fkh_3
  rw [hwm.1] at tkw
  clear tkh_3
  refine j_if_eq (tgt := 25) dX5_readIf_6 (by decide) (fun c6_4 => ?_) (fun c6_4 => ?_)
  · skip
    have y1 := tk_no tkw (by omega)
    refine j_iconst dX5_readIf_25 (by decide) ?_
    refine j_goto (tgt := 30) dX5_readIf_26 (by decide) ?_
    refine j_zret rfl rfl rfl rfl dX5_readIf_30 (by omega) ?_
    first | exact ifP_0 hf2 y1.1 tq.1 y1.2 zf1 hto hst.2 | exact ifP_no hf2 y1.1 zf1 zr0 | exact ifP_yes hf2 y1.1 zf1 zr1 (by rcases tkt with ⟨za, zb, zc⟩ | ⟨za, zb, zc⟩; (· exact Or.inl ⟨by omega, zb, zc⟩); (· exact Or.inr ⟨by omega, zb, zc⟩)) zf2 ⟨_, hbk, pCd_le hbk (by omega) nx.2 (rcP_0 zr1)⟩
  · skip
    have y1 := tk_yes tkw (by omega)
    have zgf : M_2 f = M f := zf1.1 f (by omega)
    have nx := lNx_lt hbk tq.1 tq.2 (by omega)
    refine j_aload_n 0 dX5_readIf_9 rfl rfl ?_
    refine j_callVi l_X5_108 ⟨Nat.le_of_ble_eq_true rfl, Nat.le_of_ble_eq_true rfl⟩ ⟨rfl, rfl⟩ dX5_readIf_10 ob_71 (c_X5_readCond M_2 b (lNx b q) f hf (by rw [(fkh_3.2 0 (by decide) (by decide) (by decide) (by decide))]; exact h_ctyped) (by rw [(frh_3 72 (by decide))]; exact h_ctext) y1.2 (by rw [zf1.2 6 (by decide) (by decide) (by decide) (by decide)]; exact h6) (by rw [zgf]; exact hru) (by rw [zgf]; omega) (by rw [zf1.1 (f + 8) (by omega), zgf]; exact hto) (by omega)) rfl rfl (Nat.le_of_ble_eq_true rfl) (fun r_5 M_6 h_7 => ?_)
    have rch_7 := h_7
    unfold q_X5_readCond at rch_7
    have frh_7 := rch_7.2.1
    have zrc := rch_7
    refine j_if_eq (tgt := 29) dX5_readIf_13 (by decide) (fun c13_8 => ?_) (fun c13_8 => ?_)
    · skip
      have zr0 : rcP b f _ M_6 (pCd b 901 (lNx b q) [] true 0 0) 0 := rcP_z zrc (by omega)
      refine j_iconst dX5_readIf_29 (by decide) ?_
      refine j_zret rfl rfl rfl rfl dX5_readIf_30 (by omega) ?_
      first | exact ifP_0 hf2 y1.1 tq.1 y1.2 zf1 hto hst.2 | exact ifP_no hf2 y1.1 zf1 zr0 | exact ifP_yes hf2 y1.1 zf1 zr1 (by rcases tkt with ⟨za, zb, zc⟩ | ⟨za, zb, zc⟩; (· exact Or.inl ⟨by omega, zb, zc⟩); (· exact Or.inr ⟨by omega, zb, zc⟩)) zf2 ⟨_, hbk, pCd_le hbk (by omega) nx.2 (rcP_0 zr1)⟩
    · skip
      have zr1 : rcP b f _ M_6 (pCd b 901 (lNx b q) [] true 0 0) 1 := rcP_1 zrc (by omega)
      have zT := rcP_T zr1
      refine j_aload_n 0 dX5_readIf_16 rfl rfl ?_
      refine j_ldcS (i := 8) (r := (-18)) (by decide) rfl rfl dX5_readIf_17 (by decide) ?_
      refine j_callVi l_X5_95 ⟨Nat.le_of_ble_eq_true rfl, Nat.le_of_ble_eq_true rfl⟩ ⟨rfl, rfl⟩ dX5_readIf_19 ob_71 (c_X5_takeWord M_6 b (pCd b 901 (lNx b q) [] true 0 0).1 8 (by decide) (-18) (by rw [(Eq.trans (rch_7.2.2.2.1 0 (by decide) (by decide) (by decide) (by decide) (by decide) (by decide)) (fkh_3.2 0 (by decide) (by decide) (by decide) (by decide)))]; exact h_ctyped) (by rw [(Eq.trans (frh_7 72 (by decide) (by decide) (by omega) (by omega) (by omega)) (frh_3 72 (by decide)))]; exact h_ctext) zT (by decide)) rfl rfl (Nat.le_of_ble_eq_true rfl) (fun r_9 M_10 h_11 => ?_)
      obtain ⟨tkh_11, fkh_11⟩ := h_11
      have frh_11 := fkh_11.1
      have tkt := tkh_11
      have zf2 := fkh_11
      rw [hwm.2] at tkt
      clear tkh_11
      have hJ_12 : ∀ zz : Int, (r_9 = 0 ∧ zz = 0) ∨ (¬ r_9 = 0 ∧ zz = 1) → jG D_X5_readIf X FJ shJ 0 0 (jqI (q_X5_readIf M b q f hf)) 30 [(0, jR 71)] (jI zz :: []) M_10 := by
        intro t_13 et_13
        refine j_zret rfl rfl rfl rfl dX5_readIf_30 (by omega) ?_
        first | exact ifP_0 hf2 y1.1 tq.1 y1.2 zf1 hto hst.2 | exact ifP_no hf2 y1.1 zf1 zr0 | exact ifP_yes hf2 y1.1 zf1 zr1 (by rcases tkt with ⟨za, zb, zc⟩ | ⟨za, zb, zc⟩; (· exact Or.inl ⟨by omega, zb, zc⟩); (· exact Or.inr ⟨by omega, zb, zc⟩)) zf2 ⟨_, hbk, pCd_le hbk (by omega) nx.2 (rcP_0 zr1)⟩
      refine j_if_eq (tgt := 29) dX5_readIf_22 (by decide) (fun c22_14 => ?_) (fun c22_14 => ?_)
      · skip
        refine j_iconst dX5_readIf_29 (by decide) ?_
        exact hJ_12 _ (Or.inl ⟨c22_14, rfl⟩)
      · skip
        refine j_iconst dX5_readIf_25 (by decide) ?_
        refine j_goto (tgt := 30) dX5_readIf_26 (by decide) ?_
        exact hJ_12 _ (Or.inr (⟨c22_14, rfl⟩))
