abbrev q_X0_add (M : jM) (f : Int) (hf : jA f) (n a l : Int) : jM → Prop := fun N => addP f M N n a l
set_option maxHeartbeats 4000000 in
set_option maxRecDepth 20000 in
theorem c_X0_add {X : jX} (M : jM) (f : Int) (hf : jA f) (n a l : Int) (hr : 0 ≤ M f 0 ∧ M f 0 < 16) : jC yX0_add D_X0_add X FJ shJ [jR f, jI n, jI a, jI l] M (jqV (q_X0_add M f hf n a l)) := by
  refine jC_of (by decide) rfl (fun ad => Nat.le_of_ble_eq_true rfl) (by decide) ?_
  show jG D_X0_add X FJ shJ 0 0 (jqV (q_X0_add M f hf n a l)) 0 [(0, jR f), (1, jI n), (2, jI a), (3, jI l)] [] M
  have hf2 : f = 47 ∨ f = 59 := hf
  refine j_aload_n 0 dX0_add_0 rfl rfl ?_
  refine j_geti (k' := 0) f_X0_53 (oa_0 hf) dX0_add_1 rfl ?_
  refine j_bipush dX0_add_4 (by decide) ?_
  refine j_icmp_ne (tgt := 10) dX0_add_6 (by decide) (fun c6_1 => ?_) (fun c6_1 => ?_)
  · skip
    refine j_aload_n 0 dX0_add_10 rfl rfl ?_
    refine j_getr f_X0_11 (ra_1 hf) dX0_add_11 ?_
    refine j_aload_n 0 dX0_add_14 rfl rfl ?_
    refine j_geti (k' := 0) f_X0_53 (oa_0 hf) dX0_add_15 rfl ?_
    refine j_iload_n 1 dX0_add_18 rfl rfl ?_
    refine j_iast (aa_1 hf) dX0_add_19 (by omega) (by omega) ?_
    refine j_nmM (fun M_2 eM_2 => ?_)
    refine j_aload_n 0 dX0_add_20 rfl rfl ?_
    refine j_getr f_X0_15 (ra_2 hf) dX0_add_21 ?_
    refine j_aload_n 0 dX0_add_24 rfl rfl ?_
    refine j_geti (k' := 0) f_X0_53 (oa_0 hf) dX0_add_25 rfl ?_
    refine j_eq (congrFun ((congrFun eM_2 f).trans (jup_cell (by omega))) 0) ?_
    refine j_iload_n 2 dX0_add_28 rfl rfl ?_
    refine j_iast (aa_2 hf) dX0_add_29 (by omega) (by omega) ?_
    refine j_nmM (fun M_3 eM_3 => ?_)
    refine j_aload_n 0 dX0_add_30 rfl rfl ?_
    refine j_getr f_X0_18 (ra_3 hf) dX0_add_31 ?_
    refine j_aload_n 0 dX0_add_34 rfl rfl ?_
    refine j_geti (k' := 0) f_X0_53 (oa_0 hf) dX0_add_35 rfl ?_
    refine j_eq (Eq.trans (congrFun ((congrFun eM_3 f).trans (jup_cell (by omega))) 0) (congrFun ((congrFun eM_2 f).trans (jup_cell (by omega))) 0)) ?_
    refine j_iload_n 3 dX0_add_38 rfl rfl ?_
    refine j_iast (aa_3 hf) dX0_add_39 (by omega) (by omega) ?_
    refine j_nmM (fun M_4 eM_4 => ?_)
    refine j_aload_n 0 dX0_add_40 rfl rfl ?_
    refine j_getr f_X0_21 (ra_4 hf) dX0_add_41 ?_
    refine j_aload_n 0 dX0_add_44 rfl rfl ?_
    refine j_geti (k' := 0) f_X0_53 (oa_0 hf) dX0_add_45 rfl ?_
    refine j_eq (Eq.trans (congrFun ((congrFun eM_4 f).trans (jup_cell (by omega))) 0) (Eq.trans (congrFun ((congrFun eM_3 f).trans (jup_cell (by omega))) 0) (congrFun ((congrFun eM_2 f).trans (jup_cell (by omega))) 0))) ?_
    refine j_bipush dX0_add_48 (by decide) ?_
    refine j_iast (aa_4 hf) dX0_add_50 (by omega) (by omega) ?_
    refine j_nmM (fun M_5 eM_5 => ?_)
    refine j_aload_n 0 dX0_add_51 rfl rfl ?_
    refine j_getr f_X0_24 (ra_5 hf) dX0_add_52 ?_
    refine j_aload_n 0 dX0_add_55 rfl rfl ?_
    refine j_geti (k' := 0) f_X0_53 (oa_0 hf) dX0_add_56 rfl ?_
    refine j_eq (Eq.trans (congrFun ((congrFun eM_5 f).trans (jup_cell (by omega))) 0) (Eq.trans (congrFun ((congrFun eM_4 f).trans (jup_cell (by omega))) 0) (Eq.trans (congrFun ((congrFun eM_3 f).trans (jup_cell (by omega))) 0) (congrFun ((congrFun eM_2 f).trans (jup_cell (by omega))) 0)))) ?_
    refine j_iconst dX0_add_59 (by decide) ?_
    refine j_iast (aa_5 hf) dX0_add_60 (by omega) (by omega) ?_
    refine j_nmM (fun M_6 eM_6 => ?_)
    refine j_aload_n 0 dX0_add_61 rfl rfl ?_
    refine j_getr f_X0_30 (ra_7 hf) dX0_add_62 ?_
    refine j_aload_n 0 dX0_add_65 rfl rfl ?_
    refine j_geti (k' := 0) f_X0_53 (oa_0 hf) dX0_add_66 rfl ?_
    refine j_eq (Eq.trans (congrFun ((congrFun eM_6 f).trans (jup_cell (by omega))) 0) (Eq.trans (congrFun ((congrFun eM_5 f).trans (jup_cell (by omega))) 0) (Eq.trans (congrFun ((congrFun eM_4 f).trans (jup_cell (by omega))) 0) (Eq.trans (congrFun ((congrFun eM_3 f).trans (jup_cell (by omega))) 0) (congrFun ((congrFun eM_2 f).trans (jup_cell (by omega))) 0))))) ?_
    refine j_aload_n 0 dX0_add_69 rfl rfl ?_
    refine j_geti (k' := 9) f_X0_57 (oa_9 hf) dX0_add_70 rfl ?_
    refine j_eq (Eq.trans (congrFun ((congrFun eM_6 f).trans (jup_cell (by omega))) 9) (Eq.trans (congrFun ((congrFun eM_5 f).trans (jup_cell (by omega))) 9) (Eq.trans (congrFun ((congrFun eM_4 f).trans (jup_cell (by omega))) 9) (Eq.trans (congrFun ((congrFun eM_3 f).trans (jup_cell (by omega))) 9) (congrFun ((congrFun eM_2 f).trans (jup_cell (by omega))) 9))))) ?_
    refine j_iast (aa_7 hf) dX0_add_73 (by omega) (by omega) ?_
    refine j_nmM (fun M_7 eM_7 => ?_)
    refine j_aload_n 0 dX0_add_74 rfl rfl ?_
    refine j_getr f_X0_33 (ra_8 hf) dX0_add_75 ?_
    refine j_aload_n 0 dX0_add_78 rfl rfl ?_
    refine j_geti (k' := 0) f_X0_53 (oa_0 hf) dX0_add_79 rfl ?_
    refine j_eq (Eq.trans (congrFun ((congrFun eM_7 f).trans (jup_cell (by omega))) 0) (Eq.trans (congrFun ((congrFun eM_6 f).trans (jup_cell (by omega))) 0) (Eq.trans (congrFun ((congrFun eM_5 f).trans (jup_cell (by omega))) 0) (Eq.trans (congrFun ((congrFun eM_4 f).trans (jup_cell (by omega))) 0) (Eq.trans (congrFun ((congrFun eM_3 f).trans (jup_cell (by omega))) 0) (congrFun ((congrFun eM_2 f).trans (jup_cell (by omega))) 0)))))) ?_
    refine j_aload_n 0 dX0_add_82 rfl rfl ?_
    refine j_geti (k' := 9) f_X0_57 (oa_9 hf) dX0_add_83 rfl ?_
    refine j_eq (Eq.trans (congrFun ((congrFun eM_7 f).trans (jup_cell (by omega))) 9) (Eq.trans (congrFun ((congrFun eM_6 f).trans (jup_cell (by omega))) 9) (Eq.trans (congrFun ((congrFun eM_5 f).trans (jup_cell (by omega))) 9) (Eq.trans (congrFun ((congrFun eM_4 f).trans (jup_cell (by omega))) 9) (Eq.trans (congrFun ((congrFun eM_3 f).trans (jup_cell (by omega))) 9) (congrFun ((congrFun eM_2 f).trans (jup_cell (by omega))) 9)))))) ?_
    refine j_iast (aa_8 hf) dX0_add_86 (by omega) (by omega) ?_
    refine j_nmM (fun M_8 eM_8 => ?_)
    refine j_iconst dX0_add_87 (by decide) ?_
    refine j_istore (ls' := [(0, jR f), (1, jI n), (2, jI a), (3, jI l), (4, jI 0)]) dX0_add_88 (by decide) rfl ?_
    have lp90_9 : ∀ n90 : Nat, ∀ (v4 : Int), ∀ N90 : jM, (0 ≤ v4 ∧ v4 ≤ 7) ∧ (∀ j, N90 (f + 6) j = if M f 0 * 7 ≤ j ∧ j < M f 0 * 7 + v4 then -1 else M (f + 6) j) ∧ (∀ c, c ≠ f + 6 → N90 c = M_8 c) → (7 - v4).toNat < n90 → jG D_X0_add X FJ shJ 0 0 (jqV (q_X0_add M f hf n a l)) 90 [(0, jR f), (1, jI n), (2, jI a), (3, jI l), (4, jI v4)] ([]) N90 := by
      intro n90
      induction n90 with
      | zero => intro v4 N90 _ hz; exact absurd hz (Nat.not_lt_zero _)
      | succ n90 ih90 =>
        intro v4 N90 hinv hm
        obtain ⟨h1, h6, hk⟩ := hinv
        refine j_iload 4 dX0_add_90 rfl ?_
        refine j_bipush dX0_add_92 (by decide) ?_
        refine j_icmp_ge (tgt := 119) dX0_add_94 (by decide) (fun c94_10 => ?_) (fun c94_10 => ?_)
        · skip
          refine j_aload_n 0 dX0_add_119 rfl rfl ?_
          refine j_dup dX0_add_120 rfl ?_
          refine j_geti (k' := 0) f_X0_53 (oa_0 hf) dX0_add_121 rfl ?_
          refine j_eq (Eq.trans (congrFun (hk f (by omega)) 0) (Eq.trans (congrFun ((congrFun eM_8 f).trans (jup_cell (by omega))) 0) (Eq.trans (congrFun ((congrFun eM_7 f).trans (jup_cell (by omega))) 0) (Eq.trans (congrFun ((congrFun eM_6 f).trans (jup_cell (by omega))) 0) (Eq.trans (congrFun ((congrFun eM_5 f).trans (jup_cell (by omega))) 0) (Eq.trans (congrFun ((congrFun eM_4 f).trans (jup_cell (by omega))) 0) (Eq.trans (congrFun ((congrFun eM_3 f).trans (jup_cell (by omega))) 0) (congrFun ((congrFun eM_2 f).trans (jup_cell (by omega))) 0)))))))) ?_
          refine j_iconst dX0_add_124 (by decide) ?_
          refine j_iadd dX0_add_125 (by omega) ?_
          refine j_puti (k' := 0) f_X0_53 (oa_0 hf) dX0_add_126 rfl ?_
          refine j_nmM (fun M_11 eM_11 => ?_)
          refine j_vret rfl rfl rfl rfl dX0_add_129 ?_
          have e4 : v4 = 7 := by omega
          rw [e4] at h6
          exact ⟨fun c z0 z1 z2 z3 z4 z5 z6 z7 z8 => by rw [eM_11, jup_cell z0, hk c z6, eM_8, jup_cell z8, eM_7, jup_cell z7, eM_6, jup_cell z5, eM_5, jup_cell z4, eM_4, jup_cell z3, eM_3, jup_cell z2, eM_2, jup_cell z1], (fun j => by rw [eM_11, jup_cellk (by omega), hk (f + 1) (by omega), eM_8, jup_cellk (by omega), eM_7, jup_cellk (by omega), eM_6, jup_cellk (by omega), eM_5, jup_cellk (by omega), eM_4, jup_cellk (by omega), eM_3, jup_cellk (by omega), eM_2, jup_at]), (fun j => by rw [eM_11, jup_cellk (by omega), hk (f + 2) (by omega), eM_8, jup_cellk (by omega), eM_7, jup_cellk (by omega), eM_6, jup_cellk (by omega), eM_5, jup_cellk (by omega), eM_4, jup_cellk (by omega), eM_3, jup_at, eM_2, jup_cellk (by omega)]), (fun j => by rw [eM_11, jup_cellk (by omega), hk (f + 3) (by omega), eM_8, jup_cellk (by omega), eM_7, jup_cellk (by omega), eM_6, jup_cellk (by omega), eM_5, jup_cellk (by omega), eM_4, jup_at, eM_3, jup_cellk (by omega), eM_2, jup_cellk (by omega)]), (fun j => by rw [eM_11, jup_cellk (by omega), hk (f + 4) (by omega), eM_8, jup_cellk (by omega), eM_7, jup_cellk (by omega), eM_6, jup_cellk (by omega), eM_5, jup_at, eM_4, jup_cellk (by omega), eM_3, jup_cellk (by omega), eM_2, jup_cellk (by omega)]), (fun j => by rw [eM_11, jup_cellk (by omega), hk (f + 5) (by omega), eM_8, jup_cellk (by omega), eM_7, jup_cellk (by omega), eM_6, jup_at, eM_5, jup_cellk (by omega), eM_4, jup_cellk (by omega), eM_3, jup_cellk (by omega), eM_2, jup_cellk (by omega)]), (fun j => by rw [eM_11, jup_cellk (by omega), hk (f + 7) (by omega), eM_8, jup_cellk (by omega), eM_7, jup_at, eM_6, jup_cellk (by omega), eM_5, jup_cellk (by omega), eM_4, jup_cellk (by omega), eM_3, jup_cellk (by omega), eM_2, jup_cellk (by omega)]), (fun j => by rw [eM_11, jup_cellk (by omega), hk (f + 8) (by omega), eM_8, jup_at, eM_7, jup_cellk (by omega), eM_6, jup_cellk (by omega), eM_5, jup_cellk (by omega), eM_4, jup_cellk (by omega), eM_3, jup_cellk (by omega), eM_2, jup_cellk (by omega)]), fun j => by rw [eM_11, jup_cellk (by omega)]; exact h6 j, by rw [eM_11, jup_self], fun k z => by rw [eM_11, jup_ne (by omega), hk f (by omega), eM_8, jup_cellk (by omega), eM_7, jup_cellk (by omega), eM_6, jup_cellk (by omega), eM_5, jup_cellk (by omega), eM_4, jup_cellk (by omega), eM_3, jup_cellk (by omega), eM_2, jup_cellk (by omega)]⟩
        · skip
          refine j_aload_n 0 dX0_add_97 rfl rfl ?_
          refine j_getr f_X0_27 (ra_6 hf) dX0_add_98 ?_
          refine j_aload_n 0 dX0_add_101 rfl rfl ?_
          refine j_geti (k' := 0) f_X0_53 (oa_0 hf) dX0_add_102 rfl ?_
          refine j_eq (Eq.trans (congrFun (hk f (by omega)) 0) (Eq.trans (congrFun ((congrFun eM_8 f).trans (jup_cell (by omega))) 0) (Eq.trans (congrFun ((congrFun eM_7 f).trans (jup_cell (by omega))) 0) (Eq.trans (congrFun ((congrFun eM_6 f).trans (jup_cell (by omega))) 0) (Eq.trans (congrFun ((congrFun eM_5 f).trans (jup_cell (by omega))) 0) (Eq.trans (congrFun ((congrFun eM_4 f).trans (jup_cell (by omega))) 0) (Eq.trans (congrFun ((congrFun eM_3 f).trans (jup_cell (by omega))) 0) (congrFun ((congrFun eM_2 f).trans (jup_cell (by omega))) 0)))))))) ?_
          refine j_bipush dX0_add_105 (by decide) ?_
          refine j_imul dX0_add_107 (by omega) ?_
          refine j_iload 4 dX0_add_108 rfl ?_
          refine j_iadd dX0_add_110 (by omega) ?_
          refine j_iconst dX0_add_111 (by decide) ?_
          refine j_iast (aa_6 hf) dX0_add_112 (by omega) (by omega) ?_
          refine j_nmM (fun M_12 eM_12 => ?_)
          obtain ⟨v4_13, ev4_13⟩ : ∃ y : Int, y = v4 + 1 := ⟨_, rfl⟩
          refine j_iinc (y := v4_13) (ls' := [(0, jR f), (1, jI n), (2, jI a), (3, jI l), (4, jI v4_13)]) 4 dX0_add_113 rfl ev4_13 (by omega) (by decide) rfl ?_
          refine j_goto (tgt := 90) dX0_add_116 (by decide) ?_
          exact ih90 v4_13 M_12 ⟨by omega, by intro j; rw [eM_12, jup_at]; by_cases hj : j = M f 0 * 7 + v4; (· rw [if_pos hj, if_pos (by omega)]); (· rw [if_neg hj, h6 j]; by_cases hc : M f 0 * 7 ≤ j ∧ j < M f 0 * 7 + v4; (· rw [if_pos hc, if_pos (by omega)]); (· rw [if_neg hc, if_neg (by omega)])), by intro c z; rw [eM_12, jup_cell z]; exact hk c z⟩ (by omega)
    exact lp90_9 _ 0 M_8 ⟨by omega, by intro j; rw [if_neg (by omega), eM_8, jup_cellk (by omega), eM_7, jup_cellk (by omega), eM_6, jup_cellk (by omega), eM_5, jup_cellk (by omega), eM_4, jup_cellk (by omega), eM_3, jup_cellk (by omega), eM_2, jup_cellk (by omega)], by intro c _; rfl⟩ (Nat.lt_succ_self _)
  · skip
    exfalso; omega
