abbrev q_X0_forget (M : jM) (f : Int) (hf : jA f)  : jM → Prop := fun N => N = jup (jup M f 0 0) f 9 0
set_option maxHeartbeats 4000000 in
set_option maxRecDepth 20000 in
theorem c_X0_forget {X : jX} (M : jM) (f : Int) (hf : jA f)   : jC yX0_forget D_X0_forget X FJ shJ [jR f] M (jqV (q_X0_forget M f hf)) := by
  refine jC_of (by decide) rfl (fun ad => Nat.le_of_ble_eq_true rfl) (by decide) ?_
  show jG D_X0_forget X FJ shJ 0 0 (jqV (q_X0_forget M f hf)) 0 [(0, jR f)] [] M
  refine j_aload_n 0 dX0_forget_0 rfl rfl ?_
  refine j_iconst dX0_forget_1 (by decide) ?_
  refine j_puti (k' := 0) f_X0_53 (oa_0 hf) dX0_forget_2 rfl ?_
  refine j_nmM (fun M_1 eM_1 => ?_)
  refine j_aload_n 0 dX0_forget_5 rfl rfl ?_
  refine j_iconst dX0_forget_6 (by decide) ?_
  refine j_puti (k' := 9) f_X0_57 (oa_9 hf) dX0_forget_7 rfl ?_
  refine j_nmM (fun M_2 eM_2 => ?_)
  refine j_vret rfl rfl rfl rfl dX0_forget_10 ?_
  rw [eM_2, eM_1]
abbrev q_X0_tell (M : jM) (f : Int) (hf : jA f) (w n : Int) : jM → Prop := fun N => N = jup M (f + 6) ((M f 0 - 1) * 7 + w) n
set_option maxHeartbeats 4000000 in
set_option maxRecDepth 20000 in
theorem c_X0_tell {X : jX} (M : jM) (f : Int) (hf : jA f) (w n : Int) (hr : 0 < M f 0 ∧ M f 0 ≤ 16) (hw : 0 ≤ w ∧ w ≤ 6) : jC yX0_tell D_X0_tell X FJ shJ [jR f, jI w, jI n] M (jqV (q_X0_tell M f hf w n)) := by
  refine jC_of (by decide) rfl (fun ad => Nat.le_of_ble_eq_true rfl) (by decide) ?_
  show jG D_X0_tell X FJ shJ 0 0 (jqV (q_X0_tell M f hf w n)) 0 [(0, jR f), (1, jI w), (2, jI n)] [] M
  refine j_aload_n 0 dX0_tell_0 rfl rfl ?_
  refine j_geti (k' := 0) f_X0_53 (oa_0 hf) dX0_tell_1 rfl ?_
  refine j_if_le (tgt := 24) dX0_tell_4 (by decide) (fun c4_1 => ?_) (fun c4_1 => ?_)
  · skip
    exfalso; omega
  · skip
    refine j_aload_n 0 dX0_tell_7 rfl rfl ?_
    refine j_getr f_X0_27 (ra_6 hf) dX0_tell_8 ?_
    refine j_aload_n 0 dX0_tell_11 rfl rfl ?_
    refine j_geti (k' := 0) f_X0_53 (oa_0 hf) dX0_tell_12 rfl ?_
    refine j_iconst dX0_tell_15 (by decide) ?_
    refine j_isub dX0_tell_16 (by omega) ?_
    refine j_bipush dX0_tell_17 (by decide) ?_
    refine j_imul dX0_tell_19 (by omega) ?_
    refine j_iload_n 1 dX0_tell_20 rfl rfl ?_
    refine j_iadd dX0_tell_21 (by omega) ?_
    refine j_iload_n 2 dX0_tell_22 rfl rfl ?_
    refine j_iast (aa_6 hf) dX0_tell_23 (by omega) (by omega) ?_
    refine j_nmM (fun M_2 eM_2 => ?_)
    refine j_vret rfl rfl rfl rfl dX0_tell_24 ?_
    rw [eM_2]
abbrev q_X0_countDuty (M : jM) (f : Int) (hf : jA f)  : jM → Prop := fun N => N = jup M (f + 5) (M f 0 - 1) (M (f + 5) (M f 0 - 1) + 1)
set_option maxHeartbeats 4000000 in
set_option maxRecDepth 20000 in
theorem c_X0_countDuty {X : jX} (M : jM) (f : Int) (hf : jA f)  (hr : 0 < M f 0 ∧ M f 0 ≤ 16) (hb : 0 ≤ M (f + 5) (M f 0 - 1) ∧ M (f + 5) (M f 0 - 1) ≤ 4) : jC yX0_countDuty D_X0_countDuty X FJ shJ [jR f] M (jqV (q_X0_countDuty M f hf)) := by
  refine jC_of (by decide) rfl (fun ad => Nat.le_of_ble_eq_true rfl) (by decide) ?_
  show jG D_X0_countDuty X FJ shJ 0 0 (jqV (q_X0_countDuty M f hf)) 0 [(0, jR f)] [] M
  refine j_aload_n 0 dX0_countDuty_0 rfl rfl ?_
  refine j_geti (k' := 0) f_X0_53 (oa_0 hf) dX0_countDuty_1 rfl ?_
  refine j_if_le (tgt := 22) dX0_countDuty_4 (by decide) (fun c4_1 => ?_) (fun c4_1 => ?_)
  · skip
    exfalso; omega
  · skip
    refine j_aload_n 0 dX0_countDuty_7 rfl rfl ?_
    refine j_getr f_X0_24 (ra_5 hf) dX0_countDuty_8 ?_
    refine j_aload_n 0 dX0_countDuty_11 rfl rfl ?_
    refine j_geti (k' := 0) f_X0_53 (oa_0 hf) dX0_countDuty_12 rfl ?_
    refine j_iconst dX0_countDuty_15 (by decide) ?_
    refine j_isub dX0_countDuty_16 (by omega) ?_
    refine j_dup2 dX0_countDuty_17 rfl rfl ?_
    refine j_iald (aa_5 hf) dX0_countDuty_18 (by omega) (by omega) ?_
    refine j_iconst dX0_countDuty_19 (by decide) ?_
    refine j_iadd dX0_countDuty_20 (by omega) ?_
    refine j_iast (aa_5 hf) dX0_countDuty_21 (by omega) (by omega) ?_
    refine j_nmM (fun M_2 eM_2 => ?_)
    refine j_vret rfl rfl rfl rfl dX0_countDuty_22 ?_
    rw [eM_2]
abbrev q_X0_strike (M : jM) (f : Int) (hf : jA f) (r0 d : Int) : jM → Prop := fun N => ((M (f + 4) r0 = -9 ∨ d < M (f + 4) r0) ∧ N = jup M (f + 4) r0 d) ∨ (¬ (M (f + 4) r0 = -9 ∨ d < M (f + 4) r0) ∧ N = M)
set_option maxHeartbeats 4000000 in
set_option maxRecDepth 20000 in
theorem c_X0_strike {X : jX} (M : jM) (f : Int) (hf : jA f) (r0 d : Int) (hr : 0 ≤ r0 ∧ r0 < 16) : jC yX0_strike D_X0_strike X FJ shJ [jR f, jI r0, jI d] M (jqV (q_X0_strike M f hf r0 d)) := by
  refine jC_of (by decide) rfl (fun ad => Nat.le_of_ble_eq_true rfl) (by decide) ?_
  show jG D_X0_strike X FJ shJ 0 0 (jqV (q_X0_strike M f hf r0 d)) 0 [(0, jR f), (1, jI r0), (2, jI d)] [] M
  refine j_aload_n 0 dX0_strike_0 rfl rfl ?_
  refine j_getr f_X0_21 (ra_4 hf) dX0_strike_1 ?_
  refine j_iload_n 1 dX0_strike_4 rfl rfl ?_
  refine j_iald (aa_4 hf) dX0_strike_5 (by omega) (by omega) ?_
  refine j_bipush dX0_strike_6 (by decide) ?_
  refine j_icmp_eq (tgt := 21) dX0_strike_8 (by decide) (fun c8_1 => ?_) (fun c8_1 => ?_)
  · skip
    refine j_aload_n 0 dX0_strike_21 rfl rfl ?_
    refine j_getr f_X0_21 (ra_4 hf) dX0_strike_22 ?_
    refine j_iload_n 1 dX0_strike_25 rfl rfl ?_
    refine j_iload_n 2 dX0_strike_26 rfl rfl ?_
    refine j_iast (aa_4 hf) dX0_strike_27 (by omega) (by omega) ?_
    refine j_nmM (fun M_2 eM_2 => ?_)
    refine j_vret rfl rfl rfl rfl dX0_strike_28 ?_
    first | exact Or.inl ⟨by omega, by rw [eM_2]⟩ | exact Or.inr ⟨by omega, rfl⟩
  · skip
    refine j_iload_n 2 dX0_strike_11 rfl rfl ?_
    refine j_aload_n 0 dX0_strike_12 rfl rfl ?_
    refine j_getr f_X0_21 (ra_4 hf) dX0_strike_13 ?_
    refine j_iload_n 1 dX0_strike_16 rfl rfl ?_
    refine j_iald (aa_4 hf) dX0_strike_17 (by omega) (by omega) ?_
    refine j_icmp_ge (tgt := 28) dX0_strike_18 (by decide) (fun c18_3 => ?_) (fun c18_3 => ?_)
    · skip
      refine j_vret rfl rfl rfl rfl dX0_strike_28 ?_
      first | exact Or.inl ⟨by omega, by rw [jup_zz]⟩ | exact Or.inr ⟨by omega, rfl⟩
    · skip
      refine j_aload_n 0 dX0_strike_21 rfl rfl ?_
      refine j_getr f_X0_21 (ra_4 hf) dX0_strike_22 ?_
      refine j_iload_n 1 dX0_strike_25 rfl rfl ?_
      refine j_iload_n 2 dX0_strike_26 rfl rfl ?_
      refine j_iast (aa_4 hf) dX0_strike_27 (by omega) (by omega) ?_
      refine j_nmM (fun M_4 eM_4 => ?_)
      refine j_vret rfl rfl rfl rfl dX0_strike_28 ?_
      first | exact Or.inl ⟨by omega, by rw [eM_4]⟩ | exact Or.inr ⟨by omega, rfl⟩
