abbrev q_X0_addStep (M : jM) (f : Int) (hf : jA f) (s n : Int) : jM → Prop := fun N => N = jup (jup (jup M (f + 9) (M f 9) (s * 10000 + n)) f 9 (M f 9 + 1)) (f + 8) (M f 0 - 1) (M f 9 + 1)
set_option maxHeartbeats 4000000 in
set_option maxRecDepth 20000 in
theorem c_X0_addStep {X : jX} (M : jM) (f : Int) (hf : jA f) (s n : Int) (hr : 0 < M f 0 ∧ M f 0 ≤ 16) (hs : (0 ≤ s ∧ s ≤ 10) ∧ (0 ≤ n ∧ n ≤ 9999) ∧ 0 ≤ M f 9 ∧ M f 9 < 900) : jC yX0_addStep D_X0_addStep X FJ shJ [jR f, jI s, jI n] M (jqV (q_X0_addStep M f hf s n)) := by
  refine jC_of (by decide) rfl (fun ad => Nat.le_of_ble_eq_true rfl) (by decide) ?_
  show jG D_X0_addStep X FJ shJ 0 0 (jqV (q_X0_addStep M f hf s n)) 0 [(0, jR f), (1, jI s), (2, jI n)] [] M
  have hf2 : f = 47 ∨ f = 59 := hf
  refine j_aload_n 0 dX0_addStep_0 rfl rfl ?_
  refine j_geti (k' := 0) f_X0_53 (oa_0 hf) dX0_addStep_1 rfl ?_
  refine j_if_eq (tgt := 17) dX0_addStep_4 (by decide) (fun c4_1 => ?_) (fun c4_1 => ?_)
  · skip
    exfalso; omega
  · skip
    refine j_aload_n 0 dX0_addStep_7 rfl rfl ?_
    refine j_geti (k' := 9) f_X0_57 (oa_9 hf) dX0_addStep_8 rfl ?_
    refine j_sipush dX0_addStep_11 (by decide) ?_
    refine j_icmp_ne (tgt := 18) dX0_addStep_14 (by decide) (fun c14_2 => ?_) (fun c14_2 => ?_)
    · skip
      refine j_aload_n 0 dX0_addStep_18 rfl rfl ?_
      refine j_getr f_X0_36 (ra_10 hf) dX0_addStep_19 ?_
      refine j_aload_n 0 dX0_addStep_22 rfl rfl ?_
      refine j_geti (k' := 9) f_X0_57 (oa_9 hf) dX0_addStep_23 rfl ?_
      refine j_iload_n 1 dX0_addStep_26 rfl rfl ?_
      refine j_sipush dX0_addStep_27 (by decide) ?_
      refine j_imul dX0_addStep_30 (by omega) ?_
      refine j_iload_n 2 dX0_addStep_31 rfl rfl ?_
      refine j_iadd dX0_addStep_32 (by omega) ?_
      refine j_iast (aa_9 hf) dX0_addStep_33 (by omega) (by omega) ?_
      refine j_nmM (fun M_3 eM_3 => ?_)
      refine j_aload_n 0 dX0_addStep_34 rfl rfl ?_
      refine j_dup dX0_addStep_35 rfl ?_
      refine j_geti (k' := 9) f_X0_57 (oa_9 hf) dX0_addStep_36 rfl ?_
      refine j_eq (congrFun ((congrFun eM_3 f).trans (jup_cell (by omega))) 9) ?_
      refine j_iconst dX0_addStep_39 (by decide) ?_
      refine j_iadd dX0_addStep_40 (by omega) ?_
      refine j_puti (k' := 9) f_X0_57 (oa_9 hf) dX0_addStep_41 rfl ?_
      refine j_nmM (fun M_4 eM_4 => ?_)
      refine j_aload_n 0 dX0_addStep_44 rfl rfl ?_
      refine j_getr f_X0_33 (ra_8 hf) dX0_addStep_45 ?_
      refine j_aload_n 0 dX0_addStep_48 rfl rfl ?_
      refine j_geti (k' := 0) f_X0_53 (oa_0 hf) dX0_addStep_49 rfl ?_
      refine j_eq (Eq.trans ((congrFun (congrFun eM_4 f) 0).trans (jup_ne (by simp))) (congrFun ((congrFun eM_3 f).trans (jup_cell (by omega))) 0)) ?_
      refine j_iconst dX0_addStep_52 (by decide) ?_
      refine j_isub dX0_addStep_53 (by omega) ?_
      refine j_aload_n 0 dX0_addStep_54 rfl rfl ?_
      refine j_geti (k' := 9) f_X0_57 (oa_9 hf) dX0_addStep_55 rfl ?_
      refine j_eq ((congrFun (congrFun eM_4 f) 9).trans (jup_self _ _ _ _)) ?_
      refine j_iast (aa_8 hf) dX0_addStep_58 (by omega) (by omega) ?_
      refine j_nmM (fun M_5 eM_5 => ?_)
      refine j_vret rfl rfl rfl rfl dX0_addStep_59 ?_
      rw [eM_5, eM_4, eM_3]
    · skip
      exfalso; omega
