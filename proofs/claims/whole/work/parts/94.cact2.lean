abbrev q_X8_act (M : jM) (b : Int → Int) (f g : Int) (hf : jA f) (hg : jA g)  : Int → jM → Prop := fun r N => caP b f g M N r
set_option maxHeartbeats 4000000 in
set_option maxRecDepth 20000 in
theorem c_X8_act {X : jX} (M : jM) (b : Int → Int) (f g : Int) (hf : jA f) (hg : jA g)  (h_ctyped : 0 ≤ M 71 0 ∧ M 71 0 ≤ 900) (h_ctext : ∀ i, -128 ≤ M 72 i ∧ M 72 i ≤ 127) (h7 : M 0 7 = f) (h8 : M 0 8 = g) (hb : cTx M = b) : jC yX8_act D_X8_act X FJ shJ [jR 0] M (jqI (q_X8_act M b f g hf hg)) := by
  refine jC_of (by decide) rfl (fun ad => Nat.le_of_ble_eq_true rfl) (by decide) ?_
  show jG D_X8_act X FJ shJ 0 0 (jqI (q_X8_act M b f g hf hg)) 0 [(0, jR 0)] [] M
  have hf2 : f = 47 ∨ f = 59 := hf
  have hg2 : g = 47 ∨ g = 59 := hg
  have hbk : bOk b (M 71 0) := by rw [← hb]; exact cTx_ok h_ctyped
  refine j_aload_n 0 dX8_act_0 rfl rfl ?_
  refine j_getr f_X8_70 r_0_2 dX8_act_1 ?_
  refine j_aload_n 0 dX8_act_4 rfl rfl ?_
  refine j_getd (k' := 8) f_X8_62 o_0_8 dX8_act_5 rfl ?_
  refine j_eqR (y := g) (by first | exact h8 | exact zs) ?_
  refine j_callVi l_X8_135 ⟨Nat.le_of_ble_eq_true rfl, Nat.le_of_ble_eq_true rfl⟩ ⟨rfl, rfl⟩ dX8_act_8 ob_71 (c_X5_readInto M b g h_ctyped h_ctext hg hb) rfl rfl (Nat.le_of_ble_eq_true rfl) (fun r_1 M_2 h_3 => ?_)
  have rih_3 := h_3
  unfold q_X5_readInto at rih_3
  have zr := rih_3
  have z0 : M_2 0 = M 0 := zr.2.2.1 0 (by decide) (by decide) (by omega)
  have zf : M_2 0 7 = f := by rw [z0]; exact h7
  have zs : M_2 0 8 = g := by rw [z0]; exact h8
  have zd := ciP_in hbk zr
  refine j_istore_n (ls' := [(0, jR 0), (1, jI r_1)]) dX8_act_11 rfl (by decide) rfl ?_
  refine j_iload_n 1 dX8_act_12 rfl rfl ?_
  refine j_bipush dX8_act_13 (by decide) ?_
  refine j_icmp_eq (tgt := 23) dX8_act_15 (by decide) (fun c15_4 => ?_) (fun c15_4 => ?_)
  · skip
    refine j_aload_n 0 dX8_act_23 rfl rfl ?_
    refine j_getd (k' := 7) f_X8_58 o_0_7 dX8_act_24 rfl ?_
    refine j_eqR (y := f) (by exact zf) ?_
    refine j_astore_n (ls' := [(0, jR 0), (1, jI r_1), (2, jR f)]) dX8_act_27 rfl (by decide) rfl ?_
    have zB := zr
    refine j_aload_n 0 dX8_act_28 rfl rfl ?_
    refine j_aload_n 0 dX8_act_29 rfl rfl ?_
    refine j_getd (k' := 8) f_X8_62 o_0_8 dX8_act_30 rfl ?_
    refine j_eqR (y := g) (by first | exact h8 | exact zs) ?_
    refine j_putd (k' := 7) f_X8_58 o_0_7 (by rcases hg2 with z | z <;> omega) dX8_act_33 rfl ?_
    refine j_nmM (fun M_5 eM_5 => ?_)
    refine j_aload_n 0 dX8_act_36 rfl rfl ?_
    refine j_aload_n 2 dX8_act_37 rfl rfl ?_
    refine j_putd (k' := 8) f_X8_62 o_0_8 (by rcases hf2 with z | z <;> omega) dX8_act_38 rfl ?_
    refine j_nmM (fun M_6 eM_6 => ?_)
    have zE : M_6 = jup (jup M_2 0 7 g) 0 8 f := by rw [eM_6, eM_5]
    refine j_aload_n 0 dX8_act_41 rfl rfl ?_
    refine j_getr f_X8_70 r_0_2 dX8_act_42 ?_
    refine j_callVi l_X8_131 ⟨Nat.le_of_ble_eq_true rfl, Nat.le_of_ble_eq_true rfl⟩ ⟨rfl, rfl⟩ dX8_act_45 ob_71 (c_X5_empty M_6) rfl rfl (Nat.le_of_ble_eq_true rfl) (fun r_7 M_8 h_9 => ?_)
    obtain ⟨er_7, eM_8⟩ := h_9
    refine j_pop dX8_act_48 rfl ?_
    have zi : M_8 0 7 = g := by rw [eM_8, jup_cellk (by decide), zE, jup_ne (by decide), jup_self]
    refine j_aload_n 0 dX8_act_49 rfl rfl ?_
    refine j_getd (k' := 7) f_X8_58 o_0_7 dX8_act_50 rfl ?_
    refine j_eqR (y := g) (by exact zi) ?_
    refine j_geti (k' := 0) f_X8_139 (oa_0 hg) dX8_act_53 rfl ?_
    refine j_iret rfl rfl rfl rfl dX8_act_56 ?_
    exact caP_ok hg2 zr (by omega) (by rw [eM_8, zE])
  · skip
    refine j_bipush dX8_act_18 (by decide) ?_
    refine j_iload_n 1 dX8_act_20 rfl rfl ?_
    refine j_isub dX8_act_21 (by omega) ?_
    refine j_iret rfl rfl rfl rfl dX8_act_22 ?_
    exact caP_no hg2 zr (by omega)
