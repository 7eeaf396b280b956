abbrev q_X2_knows (M : jM)  (i : Int) : Int → jM → Prop := fun r N => ((r = 1 ∧ (0 ≤ i ∧ i < M 36 3)) ∨ (r = 0 ∧ ¬ (0 ≤ i ∧ i < M 36 3))) ∧ N = M
set_option maxHeartbeats 4000000 in
set_option maxRecDepth 20000 in
theorem c_X2_knows {X : jX} (M : jM)  (i : Int)  : jC yX2_knows D_X2_knows X FJ shJ [jR 36, jI i] M (jqI (q_X2_knows M i)) := by
  refine jC_of (by decide) rfl (fun ad => Nat.le_of_ble_eq_true rfl) (by decide) ?_
  show jG D_X2_knows X FJ shJ 0 0 (jqI (q_X2_knows M i)) 0 [(0, jR 36), (1, jI i)] [] M
  refine j_iload_n 1 dX2_knows_0 rfl rfl ?_
  have hJ_1 : ∀ zz : Int, (i < 0 ∧ zz = 0) ∨ (¬ (i < 0) ∧ (M 36 3) ≤ i ∧ zz = 0) ∨ (¬ (i < 0) ∧ ¬ ((M 36 3) ≤ i) ∧ zz = 1) → jG D_X2_knows X FJ shJ 0 0 (jqI (q_X2_knows M i)) 17 [(0, jR 36), (1, jI i)] (jI zz :: []) M := by
    intro t_2 et_2
    refine j_zret rfl rfl rfl rfl dX2_knows_17 (by omega) ?_
    exact ⟨by omega, rfl⟩
  refine j_if_lt (tgt := 16) dX2_knows_1 (by decide) (fun c1_3 => ?_) (fun c1_3 => ?_)
  · skip
    refine j_iconst dX2_knows_16 (by decide) ?_
    exact hJ_1 _ (Or.inl ⟨c1_3, rfl⟩)
  · skip
    refine j_iload_n 1 dX2_knows_4 rfl rfl ?_
    refine j_aload_n 0 dX2_knows_5 rfl rfl ?_
    refine j_geti (k' := 3) f_X2_34 o_36_3 dX2_knows_6 rfl ?_
    refine j_icmp_ge (tgt := 16) dX2_knows_9 (by decide) (fun c9_4 => ?_) (fun c9_4 => ?_)
    · skip
      refine j_iconst dX2_knows_16 (by decide) ?_
      exact hJ_1 _ (Or.inr (Or.inl ⟨c1_3, c9_4, rfl⟩))
    · skip
      refine j_iconst dX2_knows_12 (by decide) ?_
      refine j_goto (tgt := 17) dX2_knows_13 (by decide) ?_
      exact hJ_1 _ (Or.inr (Or.inr (⟨c1_3, c9_4, rfl⟩)))
abbrev q_X2_addBench (M : jM)  (k : Int) : Int → jM → Prop := fun r N => r = (if M 36 0 = 5 then -3 else M 36 0) ∧ N = (if M 36 0 = 5 then M else jup (jup M 37 (M 36 0) k) 36 0 (M 36 0 + 1))
set_option maxHeartbeats 4000000 in
set_option maxRecDepth 20000 in
theorem c_X2_addBench {X : jX} (M : jM)  (k : Int) (h_cbenches : 0 ≤ M 36 0 ∧ M 36 0 ≤ 5) : jC yX2_addBench D_X2_addBench X FJ shJ [jR 36, jI k] M (jqI (q_X2_addBench M k)) := by
  refine jC_of (by decide) rfl (fun ad => Nat.le_of_ble_eq_true rfl) (by decide) ?_
  show jG D_X2_addBench X FJ shJ 0 0 (jqI (q_X2_addBench M k)) 0 [(0, jR 36), (1, jI k)] [] M
  refine j_aload_n 0 dX2_addBench_0 rfl rfl ?_
  refine j_geti (k' := 0) f_X2_38 o_36_0 dX2_addBench_1 rfl ?_
  refine j_iconst dX2_addBench_4 (by decide) ?_
  refine j_icmp_ne (tgt := 11) dX2_addBench_5 (by decide) (fun c5_1 => ?_) (fun c5_1 => ?_)
  · skip
    refine j_aload_n 0 dX2_addBench_11 rfl rfl ?_
    refine j_getr f_X2_11 r_36_1 dX2_addBench_12 ?_
    refine j_aload_n 0 dX2_addBench_15 rfl rfl ?_
    refine j_geti (k' := 0) f_X2_38 o_36_0 dX2_addBench_16 rfl ?_
    refine j_iload_n 1 dX2_addBench_19 rfl rfl ?_
    refine j_iast a_37 dX2_addBench_20 (by omega) (by omega) ?_
    refine j_nmM (fun M_2 eM_2 => ?_)
    refine j_aload_n 0 dX2_addBench_21 rfl rfl ?_
    refine j_dup dX2_addBench_22 rfl ?_
    refine j_geti (k' := 0) f_X2_38 o_36_0 dX2_addBench_23 rfl ?_
    refine j_eq (congrFun ((congrFun eM_2 36).trans (jup_cell (by decide))) 0) ?_
    refine j_dup_x1 dX2_addBench_26 rfl rfl ?_
    refine j_iconst dX2_addBench_27 (by decide) ?_
    refine j_iadd dX2_addBench_28 (by omega) ?_
    refine j_puti (k' := 0) f_X2_38 o_36_0 dX2_addBench_29 rfl ?_
    refine j_nmM (fun M_3 eM_3 => ?_)
    refine j_iret rfl rfl rfl rfl dX2_addBench_32 ?_
    refine ⟨by (repeat' split) <;> omega, ?_⟩
    first | (rw [if_pos (by omega), eM_3, eM_2]; done) | (rw [if_neg (by omega), eM_3, eM_2]; done) | (rw [if_pos (by omega)]; done) | (rw [if_neg (by omega)]; done) | (rw [if_neg (by omega), eM_3, eM_2, jup_zz]; done)
  · skip
    refine j_bipush dX2_addBench_8 (by decide) ?_
    refine j_iret rfl rfl rfl rfl dX2_addBench_10 ?_
    refine ⟨by (repeat' split) <;> omega, ?_⟩
    first | (rw [if_pos (by omega), jup_zz]; done) | (rw [if_neg (by omega), jup_zz]; done) | (rw [if_pos (by omega)]; done) | (rw [if_neg (by omega)]; done) | (rw [if_neg (by omega), jup_zz, jup_zz]; done)
abbrev q_X2_setBase (M : jM)  (o v : Int) : Int → jM → Prop := fun r N => r = M 38 o ∧ N = jup M 38 o v
set_option maxHeartbeats 4000000 in
set_option maxRecDepth 20000 in
theorem c_X2_setBase {X : jX} (M : jM)  (o v : Int) (h0 : 0 ≤ o ∧ o ≤ 5) : jC yX2_setBase D_X2_setBase X FJ shJ [jR 36, jI o, jI v] M (jqI (q_X2_setBase M o v)) := by
  refine jC_of (by decide) rfl (fun ad => Nat.le_of_ble_eq_true rfl) (by decide) ?_
  show jG D_X2_setBase X FJ shJ 0 0 (jqI (q_X2_setBase M o v)) 0 [(0, jR 36), (1, jI o), (2, jI v)] [] M
  refine j_aload_n 0 dX2_setBase_0 rfl rfl ?_
  refine j_getr f_X2_15 r_36_2 dX2_setBase_1 ?_
  refine j_iload_n 1 dX2_setBase_4 rfl rfl ?_
  refine j_iald a_38 dX2_setBase_5 (by omega) (by omega) ?_
  refine j_nm (fun v3_1 ev3_1 => ?_)
  refine j_istore_n (ls' := [(0, jR 36), (1, jI o), (2, jI v), (3, jI v3_1)]) dX2_setBase_6 rfl (by decide) rfl ?_
  refine j_aload_n 0 dX2_setBase_7 rfl rfl ?_
  refine j_getr f_X2_15 r_36_2 dX2_setBase_8 ?_
  refine j_iload_n 1 dX2_setBase_11 rfl rfl ?_
  refine j_iload_n 2 dX2_setBase_12 rfl rfl ?_
  refine j_iast a_38 dX2_setBase_13 (by omega) (by omega) ?_
  refine j_nmM (fun M_2 eM_2 => ?_)
  refine j_iload_n 3 dX2_setBase_14 rfl rfl ?_
  refine j_iret rfl rfl rfl rfl dX2_setBase_15 ?_
  exact ⟨by omega, by rw [eM_2]⟩
abbrev q_X2_addCase (M : jM)  (a b c d : Int) : Int → jM → Prop := fun r N => r = (if M 36 3 = 20 then -3 else M 36 3) ∧ N = (if M 36 3 = 20 then M else jup (jup (jup (jup (jup (jup M 40 (M 36 3) a) 43 (M 36 3) b) 41 (M 36 3) c) 39 (M 36 3) d) 42 (M 36 3) 1) 36 3 (M 36 3 + 1))
set_option maxHeartbeats 4000000 in
set_option maxRecDepth 20000 in
theorem c_X2_addCase {X : jX} (M : jM)  (a b c d : Int) (h_ccases : 0 ≤ M 36 3 ∧ M 36 3 ≤ 20) : jC yX2_addCase D_X2_addCase X FJ shJ [jR 36, jI a, jI b, jI c, jI d] M (jqI (q_X2_addCase M a b c d)) := by
  refine jC_of (by decide) rfl (fun ad => Nat.le_of_ble_eq_true rfl) (by decide) ?_
  show jG D_X2_addCase X FJ shJ 0 0 (jqI (q_X2_addCase M a b c d)) 0 [(0, jR 36), (1, jI a), (2, jI b), (3, jI c), (4, jI d)] [] M
  refine j_aload_n 0 dX2_addCase_0 rfl rfl ?_
  refine j_geti (k' := 3) f_X2_34 o_36_3 dX2_addCase_1 rfl ?_
  refine j_bipush dX2_addCase_4 (by decide) ?_
  refine j_icmp_ne (tgt := 12) dX2_addCase_6 (by decide) (fun c6_1 => ?_) (fun c6_1 => ?_)
  · skip
    refine j_aload_n 0 dX2_addCase_12 rfl rfl ?_
    refine j_getr f_X2_21 r_36_5 dX2_addCase_13 ?_
    refine j_aload_n 0 dX2_addCase_16 rfl rfl ?_
    refine j_geti (k' := 3) f_X2_34 o_36_3 dX2_addCase_17 rfl ?_
    refine j_iload_n 1 dX2_addCase_20 rfl rfl ?_
    refine j_iast a_40 dX2_addCase_21 (by omega) (by omega) ?_
    refine j_nmM (fun M_2 eM_2 => ?_)
    refine j_aload_n 0 dX2_addCase_22 rfl rfl ?_
    refine j_getr f_X2_31 r_36_8 dX2_addCase_23 ?_
    refine j_aload_n 0 dX2_addCase_26 rfl rfl ?_
    refine j_geti (k' := 3) f_X2_34 o_36_3 dX2_addCase_27 rfl ?_
    refine j_eq (congrFun ((congrFun eM_2 36).trans (jup_cell (by decide))) 3) ?_
    refine j_iload_n 2 dX2_addCase_30 rfl rfl ?_
    refine j_iast a_43 dX2_addCase_31 (by omega) (by omega) ?_
    refine j_nmM (fun M_3 eM_3 => ?_)
    refine j_aload_n 0 dX2_addCase_32 rfl rfl ?_
    refine j_getr f_X2_24 r_36_6 dX2_addCase_33 ?_
    refine j_aload_n 0 dX2_addCase_36 rfl rfl ?_
    refine j_geti (k' := 3) f_X2_34 o_36_3 dX2_addCase_37 rfl ?_
    refine j_eq (Eq.trans (congrFun ((congrFun eM_3 36).trans (jup_cell (by decide))) 3) (congrFun ((congrFun eM_2 36).trans (jup_cell (by decide))) 3)) ?_
    refine j_iload_n 3 dX2_addCase_40 rfl rfl ?_
    refine j_iast a_41 dX2_addCase_41 (by omega) (by omega) ?_
    refine j_nmM (fun M_4 eM_4 => ?_)
    refine j_aload_n 0 dX2_addCase_42 rfl rfl ?_
    refine j_getr f_X2_18 r_36_4 dX2_addCase_43 ?_
    refine j_aload_n 0 dX2_addCase_46 rfl rfl ?_
    refine j_geti (k' := 3) f_X2_34 o_36_3 dX2_addCase_47 rfl ?_
    refine j_eq (Eq.trans (congrFun ((congrFun eM_4 36).trans (jup_cell (by decide))) 3) (Eq.trans (congrFun ((congrFun eM_3 36).trans (jup_cell (by decide))) 3) (congrFun ((congrFun eM_2 36).trans (jup_cell (by decide))) 3))) ?_
    refine j_iload 4 dX2_addCase_50 rfl ?_
    refine j_iast a_39 dX2_addCase_52 (by omega) (by omega) ?_
    refine j_nmM (fun M_5 eM_5 => ?_)
    refine j_aload_n 0 dX2_addCase_53 rfl rfl ?_
    refine j_getr f_X2_27 r_36_7 dX2_addCase_54 ?_
    refine j_aload_n 0 dX2_addCase_57 rfl rfl ?_
    refine j_geti (k' := 3) f_X2_34 o_36_3 dX2_addCase_58 rfl ?_
    refine j_eq (Eq.trans (congrFun ((congrFun eM_5 36).trans (jup_cell (by decide))) 3) (Eq.trans (congrFun ((congrFun eM_4 36).trans (jup_cell (by decide))) 3) (Eq.trans (congrFun ((congrFun eM_3 36).trans (jup_cell (by decide))) 3) (congrFun ((congrFun eM_2 36).trans (jup_cell (by decide))) 3)))) ?_
    refine j_iconst dX2_addCase_61 (by decide) ?_
    refine j_zast a_42 dX2_addCase_62 (by omega) (by omega) (by omega) ?_
    refine j_nmM (fun M_6 eM_6 => ?_)
    refine j_aload_n 0 dX2_addCase_63 rfl rfl ?_
    refine j_dup dX2_addCase_64 rfl ?_
    refine j_geti (k' := 3) f_X2_34 o_36_3 dX2_addCase_65 rfl ?_
    refine j_eq (Eq.trans (congrFun ((congrFun eM_6 36).trans (jup_cell (by decide))) 3) (Eq.trans (congrFun ((congrFun eM_5 36).trans (jup_cell (by decide))) 3) (Eq.trans (congrFun ((congrFun eM_4 36).trans (jup_cell (by decide))) 3) (Eq.trans (congrFun ((congrFun eM_3 36).trans (jup_cell (by decide))) 3) (congrFun ((congrFun eM_2 36).trans (jup_cell (by decide))) 3))))) ?_
    refine j_dup_x1 dX2_addCase_68 rfl rfl ?_
    refine j_iconst dX2_addCase_69 (by decide) ?_
    refine j_iadd dX2_addCase_70 (by omega) ?_
    refine j_puti (k' := 3) f_X2_34 o_36_3 dX2_addCase_71 rfl ?_
    refine j_nmM (fun M_7 eM_7 => ?_)
    refine j_iret rfl rfl rfl rfl dX2_addCase_74 ?_
    refine ⟨by (repeat' split) <;> omega, ?_⟩
    first | (rw [if_pos (by omega), eM_7, eM_6, eM_5, eM_4, eM_3, eM_2]; done) | (rw [if_neg (by omega), eM_7, eM_6, eM_5, eM_4, eM_3, eM_2]; done) | (rw [if_pos (by omega)]; done) | (rw [if_neg (by omega)]; done) | (rw [if_neg (by omega), eM_7, eM_6, eM_5, eM_4, eM_3, eM_2, jup_zz]; done)
  · skip
    refine j_bipush dX2_addCase_9 (by decide) ?_
    refine j_iret rfl rfl rfl rfl dX2_addCase_11 ?_
    refine ⟨by (repeat' split) <;> omega, ?_⟩
    first | (rw [if_pos (by omega), jup_zz]; done) | (rw [if_neg (by omega), jup_zz]; done) | (rw [if_pos (by omega)]; done) | (rw [if_neg (by omega)]; done) | (rw [if_neg (by omega), jup_zz, jup_zz]; done)
abbrev q_X2_fine (M : jM)  (i : Int) : Int → jM → Prop := fun r N => r = fFine (M 42) (M 40) (M 41) (M 38) i ∧ N = M
set_option maxHeartbeats 4000000 in
set_option maxRecDepth 20000 in
theorem c_X2_fine {X : jX} (M : jM)  (i : Int) (h_cbase : ∀ i, 0 ≤ M 38 i ∧ M 38 i ≤ 500) (h_ccof : ∀ i, 0 ≤ M 41 i ∧ M 41 i ≤ 5) (h_cstands : ∀ i, 0 ≤ M 42 i ∧ M 42 i ≤ 1) (h0 : 0 ≤ i ∧ i < 20) : jC yX2_fine D_X2_fine X FJ shJ [jR 36, jI i] M (jqI (q_X2_fine M i)) := by
  refine jC_of (by decide) rfl (fun ad => Nat.le_of_ble_eq_true rfl) (by decide) ?_
  show jG D_X2_fine X FJ shJ 0 0 (jqI (q_X2_fine M i)) 0 [(0, jR 36), (1, jI i)] [] M
  have x1 := h_ccof i
  have x2 := h_cbase (M 41 i)
  refine j_aload_n 0 dX2_fine_0 rfl rfl ?_
  refine j_getr f_X2_27 r_36_7 dX2_fine_1 ?_
  refine j_iload_n 1 dX2_fine_4 rfl rfl ?_
  refine j_zald a_42 dX2_fine_5 (by first | omega | (have := mul_in (h_cbase (M 41 i)) (show 0 ≤ v2 ∧ v2 ≤ 21 by omega); omega)) (by first | omega | (have := mul_in (h_cbase (M 41 i)) (show 0 ≤ v2 ∧ v2 ≤ 21 by omega); omega)) ?_
  have g_1 := h_cstands i
  refine j_if_ne (tgt := 11) dX2_fine_6 (by decide) (fun c6_2 => ?_) (fun c6_2 => ?_)
  · skip
    refine j_iconst dX2_fine_11 (by decide) ?_
    refine j_istore_n (ls' := [(0, jR 36), (1, jI i), (2, jI 1)]) dX2_fine_12 rfl (by decide) rfl ?_
    refine j_iconst dX2_fine_13 (by decide) ?_
    refine j_istore_n (ls' := [(0, jR 36), (1, jI i), (2, jI 1), (3, jI 0)]) dX2_fine_14 rfl (by decide) rfl ?_
    have lp15_3 : ∀ n15 : Nat, ∀ (v2 v3 : Int), (0 ≤ v3 ∧ v3 ≤ i) ∧ (v2 = fAheadN (M 42) (M 40) (M 40 i) v3.toNat) → (i - v3).toNat < n15 → jG D_X2_fine X FJ shJ 0 0 (jqI (q_X2_fine M i)) 15 [(0, jR 36), (1, jI i), (2, jI v2), (3, jI v3)] ([]) M := by
      intro n15
      induction n15 with
      | zero => intro v2 v3  _ hz; exact absurd hz (Nat.not_lt_zero _)
      | succ n15 ih15 =>
        intro v2 v3  hinv hm
        obtain ⟨h1, h2⟩ := hinv
        have q2 := fAheadN_in (M 42) (M 40) (M 40 i) v3.toNat
        rw [← h2] at q2
        refine j_iload_n 3 dX2_fine_15 rfl rfl ?_
        refine j_iload_n 1 dX2_fine_16 rfl rfl ?_
        refine j_icmp_ge (tgt := 53) dX2_fine_17 (by decide) (fun c17_4 => ?_) (fun c17_4 => ?_)
        · skip
          refine j_aload_n 0 dX2_fine_53 rfl rfl ?_
          refine j_getr f_X2_15 r_36_2 dX2_fine_54 ?_
          refine j_aload_n 0 dX2_fine_57 rfl rfl ?_
          refine j_getr f_X2_24 r_36_6 dX2_fine_58 ?_
          refine j_iload_n 1 dX2_fine_61 rfl rfl ?_
          refine j_iald a_41 dX2_fine_62 (by first | omega | (have := mul_in (h_cbase (M 41 i)) (show 0 ≤ v2 ∧ v2 ≤ 21 by omega); omega)) (by first | omega | (have := mul_in (h_cbase (M 41 i)) (show 0 ≤ v2 ∧ v2 ≤ 21 by omega); omega)) ?_
          have g_5 := h_ccof i
          refine j_iald a_38 dX2_fine_63 (by first | omega | (have := mul_in (h_cbase (M 41 i)) (show 0 ≤ v2 ∧ v2 ≤ 21 by omega); omega)) (by first | omega | (have := mul_in (h_cbase (M 41 i)) (show 0 ≤ v2 ∧ v2 ≤ 21 by omega); omega)) ?_
          have g_6 := h_cbase (M 41 i)
          refine j_iload_n 2 dX2_fine_64 rfl rfl ?_
          refine j_imul dX2_fine_65 (by first | omega | (have := mul_in (h_cbase (M 41 i)) (show 0 ≤ v2 ∧ v2 ≤ 21 by omega); omega)) ?_
          refine j_iret rfl rfl rfl rfl dX2_fine_66 ?_
          first | (exact ⟨by unfold fFine; rw [if_pos (by omega)], rfl⟩) | (have e6 : v3 = i := (by omega); rw [e6] at h2; exact ⟨by unfold fFine; rw [← h2, if_neg (by omega)], rfl⟩)
        · skip
          refine j_aload_n 0 dX2_fine_20 rfl rfl ?_
          refine j_getr f_X2_27 r_36_7 dX2_fine_21 ?_
          refine j_iload_n 3 dX2_fine_24 rfl rfl ?_
          refine j_zald a_42 dX2_fine_25 (by first | omega | (have := mul_in (h_cbase (M 41 i)) (show 0 ≤ v2 ∧ v2 ≤ 21 by omega); omega)) (by first | omega | (have := mul_in (h_cbase (M 41 i)) (show 0 ≤ v2 ∧ v2 ≤ 21 by omega); omega)) ?_
          have g_7 := h_cstands v3
          refine j_if_eq (tgt := 47) dX2_fine_26 (by decide) (fun c26_8 => ?_) (fun c26_8 => ?_)
          · skip
            obtain ⟨v3_9, ev3_9⟩ : ∃ y : Int, y = v3 + 1 := ⟨_, rfl⟩
            refine j_iinc (y := v3_9) (ls' := [(0, jR 36), (1, jI i), (2, jI v2), (3, jI v3_9)]) 3 dX2_fine_47 rfl ev3_9 (by first | omega | (have := mul_in (h_cbase (M 41 i)) (show 0 ≤ v2 ∧ v2 ≤ 21 by omega); omega)) (by decide) rfl ?_
            refine j_goto (tgt := 15) dX2_fine_50 (by decide) ?_
            exact ih15 v2 v3_9 ⟨by first | omega | grind, by rw [ev3_9, toNat_s h1.1]; unfold fAheadN; rw [← h2, toNat_c h1.1]; grind⟩ (by omega)
          · skip
            refine j_aload_n 0 dX2_fine_29 rfl rfl ?_
            refine j_getr f_X2_21 r_36_5 dX2_fine_30 ?_
            refine j_iload_n 3 dX2_fine_33 rfl rfl ?_
            refine j_iald a_40 dX2_fine_34 (by first | omega | (have := mul_in (h_cbase (M 41 i)) (show 0 ≤ v2 ∧ v2 ≤ 21 by omega); omega)) (by first | omega | (have := mul_in (h_cbase (M 41 i)) (show 0 ≤ v2 ∧ v2 ≤ 21 by omega); omega)) ?_
            refine j_aload_n 0 dX2_fine_35 rfl rfl ?_
            refine j_getr f_X2_21 r_36_5 dX2_fine_36 ?_
            refine j_iload_n 1 dX2_fine_39 rfl rfl ?_
            refine j_iald a_40 dX2_fine_40 (by first | omega | (have := mul_in (h_cbase (M 41 i)) (show 0 ≤ v2 ∧ v2 ≤ 21 by omega); omega)) (by first | omega | (have := mul_in (h_cbase (M 41 i)) (show 0 ≤ v2 ∧ v2 ≤ 21 by omega); omega)) ?_
            refine j_icmp_ne (tgt := 47) dX2_fine_41 (by decide) (fun c41_10 => ?_) (fun c41_10 => ?_)
            · skip
              obtain ⟨v3_11, ev3_11⟩ : ∃ y : Int, y = v3 + 1 := ⟨_, rfl⟩
              refine j_iinc (y := v3_11) (ls' := [(0, jR 36), (1, jI i), (2, jI v2), (3, jI v3_11)]) 3 dX2_fine_47 rfl ev3_11 (by first | omega | (have := mul_in (h_cbase (M 41 i)) (show 0 ≤ v2 ∧ v2 ≤ 21 by omega); omega)) (by decide) rfl ?_
              refine j_goto (tgt := 15) dX2_fine_50 (by decide) ?_
              exact ih15 v2 v3_11 ⟨by first | omega | grind, by rw [ev3_11, toNat_s h1.1]; unfold fAheadN; rw [← h2, toNat_c h1.1]; grind⟩ (by omega)
            · skip
              obtain ⟨v2_12, ev2_12⟩ : ∃ y : Int, y = v2 + 1 := ⟨_, rfl⟩
              refine j_iinc (y := v2_12) (ls' := [(0, jR 36), (1, jI i), (2, jI v2_12), (3, jI v3)]) 2 dX2_fine_44 rfl ev2_12 (by first | omega | (have := mul_in (h_cbase (M 41 i)) (show 0 ≤ v2 ∧ v2 ≤ 21 by omega); omega)) (by decide) rfl ?_
              obtain ⟨v3_13, ev3_13⟩ : ∃ y : Int, y = v3 + 1 := ⟨_, rfl⟩
              refine j_iinc (y := v3_13) (ls' := [(0, jR 36), (1, jI i), (2, jI v2_12), (3, jI v3_13)]) 3 dX2_fine_47 rfl ev3_13 (by first | omega | (have := mul_in (h_cbase (M 41 i)) (show 0 ≤ v2 ∧ v2 ≤ 21 by omega); omega)) (by decide) rfl ?_
              refine j_goto (tgt := 15) dX2_fine_50 (by decide) ?_
              exact ih15 v2_12 v3_13 ⟨by first | omega | grind, by rw [ev3_13, toNat_s h1.1]; unfold fAheadN; rw [← h2, toNat_c h1.1]; grind⟩ (by omega)
    exact lp15_3 _ 1 0 ⟨by first | omega | rfl, by first | omega | rfl⟩ (Nat.lt_succ_self _)
  · skip
    refine j_iconst dX2_fine_9 (by decide) ?_
    refine j_iret rfl rfl rfl rfl dX2_fine_10 ?_
    first | (exact ⟨by unfold fFine; rw [if_pos (by omega)], rfl⟩) | (have e6 : v3 = i := (by omega); rw [e6] at h2; exact ⟨by unfold fFine; rw [← h2, if_neg (by omega)], rfl⟩)
abbrev q_X2_finesOf (M : jM)  (m : Int) : Int → jM → Prop := fun r N => r = fFines (M 42) (M 40) (M 41) (M 38) m (M 36 3).toNat ∧ N = M
set_option maxHeartbeats 4000000 in
set_option maxRecDepth 20000 in
theorem c_X2_finesOf {X : jX} (M : jM)  (m : Int) (h_ccases : 0 ≤ M 36 3 ∧ M 36 3 ≤ 20) (h_cbase : ∀ i, 0 ≤ M 38 i ∧ M 38 i ≤ 500) (h_ccof : ∀ i, 0 ≤ M 41 i ∧ M 41 i ≤ 5) (h_cstands : ∀ i, 0 ≤ M 42 i ∧ M 42 i ≤ 1) : jC yX2_finesOf D_X2_finesOf X FJ shJ [jR 36, jI m] M (jqI (q_X2_finesOf M m)) := by
  refine jC_of (by decide) rfl (fun ad => Nat.le_of_ble_eq_true rfl) (by decide) ?_
  show jG D_X2_finesOf X FJ shJ 0 0 (jqI (q_X2_finesOf M m)) 0 [(0, jR 36), (1, jI m)] [] M
  refine j_iconst dX2_finesOf_0 (by decide) ?_
  refine j_istore_n (ls' := [(0, jR 36), (1, jI m), (2, jI 0)]) dX2_finesOf_1 rfl (by decide) rfl ?_
  refine j_iconst dX2_finesOf_2 (by decide) ?_
  refine j_istore_n (ls' := [(0, jR 36), (1, jI m), (2, jI 0), (3, jI 0)]) dX2_finesOf_3 rfl (by decide) rfl ?_
  have lp4_1 : ∀ n4 : Nat, ∀ (v2 v3 : Int), (0 ≤ v3 ∧ v3 ≤ M 36 3) ∧ (v2 = fFines (M 42) (M 40) (M 41) (M 38) m v3.toNat) → (M 36 3 - v3).toNat < n4 → jG D_X2_finesOf X FJ shJ 0 0 (jqI (q_X2_finesOf M m)) 4 [(0, jR 36), (1, jI m), (2, jI v2), (3, jI v3)] ([]) M := by
    intro n4
    induction n4 with
    | zero => intro v2 v3  _ hz; exact absurd hz (Nat.not_lt_zero _)
    | succ n4 ih4 =>
      intro v2 v3  hinv hm
      obtain ⟨h1, h2⟩ := hinv
      have q2 := fFines_in (sd := M 42) (cm := M 40) (co := M 41) h_cbase m v3.toNat (by omega)
      rw [← h2] at q2
      have q3 := fun z0 z1 => fFine_in (sd := M 42) (cm := M 40) (co := M 41) h_cbase (i := v3) z0 z1
      refine j_iload_n 3 dX2_finesOf_4 rfl rfl ?_
      refine j_aload_n 0 dX2_finesOf_5 rfl rfl ?_
      refine j_geti (k' := 3) f_X2_34 o_36_3 dX2_finesOf_6 rfl ?_
      refine j_icmp_ge (tgt := 42) dX2_finesOf_9 (by decide) (fun c9_2 => ?_) (fun c9_2 => ?_)
      · skip
        refine j_iload_n 2 dX2_finesOf_42 rfl rfl ?_
        refine j_iret rfl rfl rfl rfl dX2_finesOf_43 ?_
        have e6 : v3 = M 36 3 := by omega
        rw [e6] at h2
        exact ⟨h2, rfl⟩
      · skip
        refine j_iload_n 1 dX2_finesOf_12 rfl rfl ?_
        refine j_bipush dX2_finesOf_13 (by decide) ?_
        refine j_icmp_eq (tgt := 28) dX2_finesOf_15 (by decide) (fun c15_3 => ?_) (fun c15_3 => ?_)
        · skip
          refine j_iload_n 2 dX2_finesOf_28 rfl rfl ?_
          refine j_aload_n 0 dX2_finesOf_29 rfl rfl ?_
          refine j_iload_n 3 dX2_finesOf_30 rfl rfl ?_
          refine j_callVi l_X2_41 ⟨Nat.le_of_ble_eq_true rfl, Nat.le_of_ble_eq_true rfl⟩ ⟨rfl, rfl⟩ dX2_finesOf_31 ob_36 (c_X2_fine M v3 h_cbase h_ccof h_cstands (by first | assumption | omega)) rfl rfl (Nat.le_of_ble_eq_true rfl) (fun r_4 M_5 h_6 => ?_)
          obtain ⟨er_4, nh_6⟩ := h_6
          refine j_eqM nh_6 ?_
          clear nh_6
          refine j_iadd dX2_finesOf_34 (by omega) ?_
          refine j_nm (fun v2_7 ev2_7 => ?_)
          refine j_istore_n (ls' := [(0, jR 36), (1, jI m), (2, jI v2_7), (3, jI v3)]) dX2_finesOf_35 rfl (by decide) rfl ?_
          obtain ⟨v3_8, ev3_8⟩ : ∃ y : Int, y = v3 + 1 := ⟨_, rfl⟩
          refine j_iinc (y := v3_8) (ls' := [(0, jR 36), (1, jI m), (2, jI v2_7), (3, jI v3_8)]) 3 dX2_finesOf_36 rfl ev3_8 (by omega) (by decide) rfl ?_
          refine j_goto (tgt := 4) dX2_finesOf_39 (by decide) ?_
          exact ih4 v2_7 v3_8 ⟨by first | omega | grind, by rw [ev3_8, toNat_s h1.1]; unfold fFines; rw [← h2, toNat_c h1.1]; grind⟩ (by omega)
        · skip
          refine j_aload_n 0 dX2_finesOf_18 rfl rfl ?_
          refine j_getr f_X2_21 r_36_5 dX2_finesOf_19 ?_
          refine j_iload_n 3 dX2_finesOf_22 rfl rfl ?_
          refine j_iald a_40 dX2_finesOf_23 (by omega) (by omega) ?_
          refine j_iload_n 1 dX2_finesOf_24 rfl rfl ?_
          refine j_icmp_ne (tgt := 36) dX2_finesOf_25 (by decide) (fun c25_9 => ?_) (fun c25_9 => ?_)
          · skip
            obtain ⟨v3_10, ev3_10⟩ : ∃ y : Int, y = v3 + 1 := ⟨_, rfl⟩
            refine j_iinc (y := v3_10) (ls' := [(0, jR 36), (1, jI m), (2, jI v2), (3, jI v3_10)]) 3 dX2_finesOf_36 rfl ev3_10 (by omega) (by decide) rfl ?_
            refine j_goto (tgt := 4) dX2_finesOf_39 (by decide) ?_
            exact ih4 v2 v3_10 ⟨by first | omega | grind, by rw [ev3_10, toNat_s h1.1]; unfold fFines; rw [← h2, toNat_c h1.1]; grind⟩ (by omega)
          · skip
            refine j_iload_n 2 dX2_finesOf_28 rfl rfl ?_
            refine j_aload_n 0 dX2_finesOf_29 rfl rfl ?_
            refine j_iload_n 3 dX2_finesOf_30 rfl rfl ?_
            refine j_callVi l_X2_41 ⟨Nat.le_of_ble_eq_true rfl, Nat.le_of_ble_eq_true rfl⟩ ⟨rfl, rfl⟩ dX2_finesOf_31 ob_36 (c_X2_fine M v3 h_cbase h_ccof h_cstands (by first | assumption | omega)) rfl rfl (Nat.le_of_ble_eq_true rfl) (fun r_11 M_12 h_13 => ?_)
            obtain ⟨er_11, nh_13⟩ := h_13
            refine j_eqM nh_13 ?_
            clear nh_13
            refine j_iadd dX2_finesOf_34 (by omega) ?_
            refine j_nm (fun v2_14 ev2_14 => ?_)
            refine j_istore_n (ls' := [(0, jR 36), (1, jI m), (2, jI v2_14), (3, jI v3)]) dX2_finesOf_35 rfl (by decide) rfl ?_
            obtain ⟨v3_15, ev3_15⟩ : ∃ y : Int, y = v3 + 1 := ⟨_, rfl⟩
            refine j_iinc (y := v3_15) (ls' := [(0, jR 36), (1, jI m), (2, jI v2_14), (3, jI v3_15)]) 3 dX2_finesOf_36 rfl ev3_15 (by omega) (by decide) rfl ?_
            refine j_goto (tgt := 4) dX2_finesOf_39 (by decide) ?_
            exact ih4 v2_14 v3_15 ⟨by first | omega | grind, by rw [ev3_15, toNat_s h1.1]; unfold fFines; rw [← h2, toNat_c h1.1]; grind⟩ (by omega)
  exact lp4_1 _ 0 0 ⟨by first | omega | rfl, by first | omega | rfl⟩ (Nat.lt_succ_self _)
abbrev q_X2_standing (M : jM)   : Int → jM → Prop := fun r N => r = fStanding (M 42) (M 36 3).toNat ∧ N = M
set_option maxHeartbeats 4000000 in
set_option maxRecDepth 20000 in
theorem c_X2_standing {X : jX} (M : jM)   (h_ccases : 0 ≤ M 36 3 ∧ M 36 3 ≤ 20) : jC yX2_standing D_X2_standing X FJ shJ [jR 36] M (jqI (q_X2_standing M)) := by
  refine jC_of (by decide) rfl (fun ad => Nat.le_of_ble_eq_true rfl) (by decide) ?_
  show jG D_X2_standing X FJ shJ 0 0 (jqI (q_X2_standing M)) 0 [(0, jR 36)] [] M
  refine j_iconst dX2_standing_0 (by decide) ?_
  refine j_istore_n (ls' := [(0, jR 36), (1, jI 0)]) dX2_standing_1 rfl (by decide) rfl ?_
  refine j_iconst dX2_standing_2 (by decide) ?_
  refine j_istore_n (ls' := [(0, jR 36), (1, jI 0), (2, jI 0)]) dX2_standing_3 rfl (by decide) rfl ?_
  have lp4_1 : ∀ n4 : Nat, ∀ (v1 v2 : Int), (0 ≤ v2 ∧ v2 ≤ M 36 3) ∧ (v1 = fStanding (M 42) v2.toNat) → (M 36 3 - v2).toNat < n4 → jG D_X2_standing X FJ shJ 0 0 (jqI (q_X2_standing M)) 4 [(0, jR 36), (1, jI v1), (2, jI v2)] ([]) M := by
    intro n4
    induction n4 with
    | zero => intro v1 v2  _ hz; exact absurd hz (Nat.not_lt_zero _)
    | succ n4 ih4 =>
      intro v1 v2  hinv hm
      obtain ⟨h1, h2⟩ := hinv
      have q2 := fStanding_in (M 42) v2.toNat
      rw [← h2] at q2
      refine j_iload_n 2 dX2_standing_4 rfl rfl ?_
      refine j_aload_n 0 dX2_standing_5 rfl rfl ?_
      refine j_geti (k' := 3) f_X2_34 o_36_3 dX2_standing_6 rfl ?_
      refine j_icmp_ge (tgt := 30) dX2_standing_9 (by decide) (fun c9_2 => ?_) (fun c9_2 => ?_)
      · skip
        refine j_iload_n 1 dX2_standing_30 rfl rfl ?_
        refine j_iret rfl rfl rfl rfl dX2_standing_31 ?_
        have e6 : v2 = M 36 3 := by omega
        rw [e6] at h2
        exact ⟨h2, rfl⟩
      · skip
        refine j_aload_n 0 dX2_standing_12 rfl rfl ?_
        refine j_getr f_X2_27 r_36_7 dX2_standing_13 ?_
        refine j_iload_n 2 dX2_standing_16 rfl rfl ?_
        refine j_zald a_42 dX2_standing_17 (by omega) (by omega) ?_
        refine j_if_eq (tgt := 24) dX2_standing_18 (by decide) (fun c18_3 => ?_) (fun c18_3 => ?_)
        · skip
          obtain ⟨v2_4, ev2_4⟩ : ∃ y : Int, y = v2 + 1 := ⟨_, rfl⟩
          refine j_iinc (y := v2_4) (ls' := [(0, jR 36), (1, jI v1), (2, jI v2_4)]) 2 dX2_standing_24 rfl ev2_4 (by omega) (by decide) rfl ?_
          refine j_goto (tgt := 4) dX2_standing_27 (by decide) ?_
          exact ih4 v1 v2_4 ⟨by first | omega | grind, by rw [ev2_4, toNat_s h1.1]; unfold fStanding; rw [← h2, toNat_c h1.1]; grind⟩ (by omega)
        · skip
          obtain ⟨v1_5, ev1_5⟩ : ∃ y : Int, y = v1 + 1 := ⟨_, rfl⟩
          refine j_iinc (y := v1_5) (ls' := [(0, jR 36), (1, jI v1_5), (2, jI v2)]) 1 dX2_standing_21 rfl ev1_5 (by omega) (by decide) rfl ?_
          obtain ⟨v2_6, ev2_6⟩ : ∃ y : Int, y = v2 + 1 := ⟨_, rfl⟩
          refine j_iinc (y := v2_6) (ls' := [(0, jR 36), (1, jI v1_5), (2, jI v2_6)]) 2 dX2_standing_24 rfl ev2_6 (by omega) (by decide) rfl ?_
          refine j_goto (tgt := 4) dX2_standing_27 (by decide) ?_
          exact ih4 v1_5 v2_6 ⟨by first | omega | grind, by rw [ev2_6, toNat_s h1.1]; unfold fStanding; rw [← h2, toNat_c h1.1]; grind⟩ (by omega)
  exact lp4_1 _ 0 0 ⟨by first | omega | rfl, by first | omega | rfl⟩ (Nat.lt_succ_self _)
abbrev q_X2_overturn (M : jM)  (i : Int) : Int → jM → Prop := fun r N => r = fFell (M 42) (M 43) (M 41) i (M 36 3 - i).toNat ∧ N 42 = fFall (M 42) (M 43) (M 41) i (M 36 3 - i).toNat ∧ ∀ c, c ≠ 42 → N c = M c
set_option maxHeartbeats 4000000 in
set_option maxRecDepth 20000 in
theorem c_X2_overturn {X : jX} (M : jM)  (i : Int) (h_ccases : 0 ≤ M 36 3 ∧ M 36 3 ≤ 20) (h0 : 0 ≤ i ∧ i < M 36 3) : jC yX2_overturn D_X2_overturn X FJ shJ [jR 36, jI i] M (jqI (q_X2_overturn M i)) := by
  refine jC_of (by decide) rfl (fun ad => Nat.le_of_ble_eq_true rfl) (by decide) ?_
  show jG D_X2_overturn X FJ shJ 0 0 (jqI (q_X2_overturn M i)) 0 [(0, jR 36), (1, jI i)] [] M
  refine j_iconst dX2_overturn_0 (by decide) ?_
  refine j_istore_n (ls' := [(0, jR 36), (1, jI i), (2, jI 0)]) dX2_overturn_1 rfl (by decide) rfl ?_
  refine j_iload_n 1 dX2_overturn_2 rfl rfl ?_
  refine j_istore_n (ls' := [(0, jR 36), (1, jI i), (2, jI 0), (3, jI i)]) dX2_overturn_3 rfl (by decide) rfl ?_
  have lp4_1 : ∀ n4 : Nat, ∀ (v2 v3 : Int), ∀ N4 : jM, (i ≤ v3 ∧ v3 ≤ M 36 3) ∧ (v2 = fFell (M 42) (M 43) (M 41) i (v3 - i).toNat) ∧ (N4 42 = fFall (M 42) (M 43) (M 41) i (v3 - i).toNat) ∧ (∀ c, c ≠ 42 → N4 c = M c) → (M 36 3 - v3).toNat < n4 → jG D_X2_overturn X FJ shJ 0 0 (jqI (q_X2_overturn M i)) 4 [(0, jR 36), (1, jI i), (2, jI v2), (3, jI v3)] ([]) N4 := by
    intro n4
    induction n4 with
    | zero => intro v2 v3 N4 _ hz; exact absurd hz (Nat.not_lt_zero _)
    | succ n4 ih4 =>
      intro v2 v3 N4 hinv hm
      obtain ⟨h1, h2, h3, hk⟩ := hinv
      have q2 := fFell_in (M 42) (M 43) (M 41) i (v3 - i).toNat
      rw [← h2] at q2
      have e9 : (v3 + 1 - i).toNat = (v3 - i).toNat + 1 := by omega
      have e8 : i + ((v3 - i).toNat : Int) = v3 := by omega
      have e7 : N4 42 v3 = M 42 v3 := by rw [h3]; exact fFall_ge (by omega)
      refine j_iload_n 3 dX2_overturn_4 rfl rfl ?_
      refine j_aload_n 0 dX2_overturn_5 rfl rfl ?_
      refine j_geti (k' := 3) f_X2_34 o_36_3 dX2_overturn_6 rfl ?_
      refine j_eq (congrFun (hk 36 (by decide)) 3) ?_
      refine j_icmp_ge (tgt := 67) dX2_overturn_9 (by decide) (fun c9_2 => ?_) (fun c9_2 => ?_)
      · skip
        refine j_iload_n 2 dX2_overturn_67 rfl rfl ?_
        refine j_iret rfl rfl rfl rfl dX2_overturn_68 ?_
        have e6 : v3 = M 36 3 := by omega
        rw [e6] at h2 h3
        exact ⟨h2, h3, hk⟩
      · skip
        refine j_aload_n 0 dX2_overturn_12 rfl rfl ?_
        refine j_getr f_X2_27 r_36_7 dX2_overturn_13 ?_
        refine j_iload_n 3 dX2_overturn_16 rfl rfl ?_
        refine j_zald a_42 dX2_overturn_17 (by omega) (by omega) ?_
        refine j_if_eq (tgt := 61) dX2_overturn_18 (by decide) (fun c18_3 => ?_) (fun c18_3 => ?_)
        · skip
          obtain ⟨v3_4, ev3_4⟩ : ∃ y : Int, y = v3 + 1 := ⟨_, rfl⟩
          refine j_iinc (y := v3_4) (ls' := [(0, jR 36), (1, jI i), (2, jI v2), (3, jI v3_4)]) 3 dX2_overturn_61 rfl ev3_4 (by omega) (by decide) rfl ?_
          refine j_goto (tgt := 4) dX2_overturn_64 (by decide) ?_
          exact ih4 v2 v3_4 N4 ⟨by first | omega | grind, by rw [ev3_4, e9]; unfold fFell; rw [← h2, e8]; grind, by rw [ev3_4, e9]; funext z; simp only [fFall, ← h3, e8, jup_zz]; grind [jup], by intro c hc; first | exact hk c hc | (rw [jup_zz, jup_cell hc]; exact hk c hc)⟩ (by omega)
        · skip
          refine j_aload_n 0 dX2_overturn_21 rfl rfl ?_
          refine j_getr f_X2_31 r_36_8 dX2_overturn_22 ?_
          refine j_iload_n 3 dX2_overturn_25 rfl rfl ?_
          refine j_iald a_43 dX2_overturn_26 (by omega) (by omega) ?_
          refine j_eq (congrFun (hk 43 (by decide)) v3) ?_
          refine j_aload_n 0 dX2_overturn_27 rfl rfl ?_
          refine j_getr f_X2_31 r_36_8 dX2_overturn_28 ?_
          refine j_iload_n 1 dX2_overturn_31 rfl rfl ?_
          refine j_iald a_43 dX2_overturn_32 (by omega) (by omega) ?_
          refine j_eq (congrFun (hk 43 (by decide)) i) ?_
          refine j_icmp_ne (tgt := 61) dX2_overturn_33 (by decide) (fun c33_5 => ?_) (fun c33_5 => ?_)
          · skip
            obtain ⟨v3_6, ev3_6⟩ : ∃ y : Int, y = v3 + 1 := ⟨_, rfl⟩
            refine j_iinc (y := v3_6) (ls' := [(0, jR 36), (1, jI i), (2, jI v2), (3, jI v3_6)]) 3 dX2_overturn_61 rfl ev3_6 (by omega) (by decide) rfl ?_
            refine j_goto (tgt := 4) dX2_overturn_64 (by decide) ?_
            exact ih4 v2 v3_6 N4 ⟨by first | omega | grind, by rw [ev3_6, e9]; unfold fFell; rw [← h2, e8]; grind, by rw [ev3_6, e9]; funext z; simp only [fFall, ← h3, e8, jup_zz]; grind [jup], by intro c hc; first | exact hk c hc | (rw [jup_zz, jup_cell hc]; exact hk c hc)⟩ (by omega)
          · skip
            refine j_aload_n 0 dX2_overturn_36 rfl rfl ?_
            refine j_getr f_X2_24 r_36_6 dX2_overturn_37 ?_
            refine j_iload_n 3 dX2_overturn_40 rfl rfl ?_
            refine j_iald a_41 dX2_overturn_41 (by omega) (by omega) ?_
            refine j_eq (congrFun (hk 41 (by decide)) v3) ?_
            refine j_aload_n 0 dX2_overturn_42 rfl rfl ?_
            refine j_getr f_X2_24 r_36_6 dX2_overturn_43 ?_
            refine j_iload_n 1 dX2_overturn_46 rfl rfl ?_
            refine j_iald a_41 dX2_overturn_47 (by omega) (by omega) ?_
            refine j_eq (congrFun (hk 41 (by decide)) i) ?_
            refine j_icmp_ne (tgt := 61) dX2_overturn_48 (by decide) (fun c48_7 => ?_) (fun c48_7 => ?_)
            · skip
              obtain ⟨v3_8, ev3_8⟩ : ∃ y : Int, y = v3 + 1 := ⟨_, rfl⟩
              refine j_iinc (y := v3_8) (ls' := [(0, jR 36), (1, jI i), (2, jI v2), (3, jI v3_8)]) 3 dX2_overturn_61 rfl ev3_8 (by omega) (by decide) rfl ?_
              refine j_goto (tgt := 4) dX2_overturn_64 (by decide) ?_
              exact ih4 v2 v3_8 N4 ⟨by first | omega | grind, by rw [ev3_8, e9]; unfold fFell; rw [← h2, e8]; grind, by rw [ev3_8, e9]; funext z; simp only [fFall, ← h3, e8, jup_zz]; grind [jup], by intro c hc; first | exact hk c hc | (rw [jup_zz, jup_cell hc]; exact hk c hc)⟩ (by omega)
            · skip
              refine j_aload_n 0 dX2_overturn_51 rfl rfl ?_
              refine j_getr f_X2_27 r_36_7 dX2_overturn_52 ?_
              refine j_iload_n 3 dX2_overturn_55 rfl rfl ?_
              refine j_iconst dX2_overturn_56 (by decide) ?_
              refine j_zast a_42 dX2_overturn_57 (by omega) (by omega) (by omega) ?_
              refine j_nmM (fun M_9 eM_9 => ?_)
              obtain ⟨v2_10, ev2_10⟩ : ∃ y : Int, y = v2 + 1 := ⟨_, rfl⟩
              refine j_iinc (y := v2_10) (ls' := [(0, jR 36), (1, jI i), (2, jI v2_10), (3, jI v3)]) 2 dX2_overturn_58 rfl ev2_10 (by omega) (by decide) rfl ?_
              obtain ⟨v3_11, ev3_11⟩ : ∃ y : Int, y = v3 + 1 := ⟨_, rfl⟩
              refine j_iinc (y := v3_11) (ls' := [(0, jR 36), (1, jI i), (2, jI v2_10), (3, jI v3_11)]) 3 dX2_overturn_61 rfl ev3_11 (by omega) (by decide) rfl ?_
              refine j_goto (tgt := 4) dX2_overturn_64 (by decide) ?_
              exact ih4 v2_10 v3_11 M_9 ⟨by first | omega | grind, by rw [ev3_11, e9]; unfold fFell; rw [← h2, e8]; grind, by rw [ev3_11, e9]; funext z; simp only [fFall, ← h3, e8, eM_9]; grind [jup], by intro c hc; first | exact hk c hc | (rw [eM_9, jup_cell hc]; exact hk c hc)⟩ (by omega)
  exact lp4_1 _ 0 i M ⟨by omega, by rw [show (i - i).toNat = 0 by omega]; rfl, by rw [show (i - i).toNat = 0 by omega]; rfl, by intro c _; rfl⟩ (Nat.lt_succ_self _)
abbrev q_X7_setPeriod (M : jM)  (i m n : Int) : Int → jM → Prop := fun r N => r = 1 ∧ N = jup (jup M 29 i m) 30 i n
set_option maxHeartbeats 4000000 in
set_option maxRecDepth 20000 in
theorem c_X7_setPeriod {X : jX} (M : jM)  (i m n : Int) (h0 : 0 ≤ i ∧ i ≤ 5) : jC yX7_setPeriod D_X7_setPeriod X FJ shJ [jR 28, jI i, jI m, jI n] M (jqI (q_X7_setPeriod M i m n)) := by
  refine jC_of (by decide) rfl (fun ad => Nat.le_of_ble_eq_true rfl) (by decide) ?_
  show jG D_X7_setPeriod X FJ shJ 0 0 (jqI (q_X7_setPeriod M i m n)) 0 [(0, jR 28), (1, jI i), (2, jI m), (3, jI n)] [] M
  refine j_aload_n 0 dX7_setPeriod_0 rfl rfl ?_
  refine j_getr f_X7_11 r_28_0 dX7_setPeriod_1 ?_
  refine j_iload_n 1 dX7_setPeriod_4 rfl rfl ?_
  refine j_iload_n 2 dX7_setPeriod_5 rfl rfl ?_
  refine j_iast a_29 dX7_setPeriod_6 (by omega) (by omega) ?_
  refine j_nmM (fun M_1 eM_1 => ?_)
  refine j_aload_n 0 dX7_setPeriod_7 rfl rfl ?_
  refine j_getr f_X7_15 r_28_1 dX7_setPeriod_8 ?_
  refine j_iload_n 1 dX7_setPeriod_11 rfl rfl ?_
  refine j_iload_n 3 dX7_setPeriod_12 rfl rfl ?_
  refine j_iast a_30 dX7_setPeriod_13 (by omega) (by omega) ?_
  refine j_nmM (fun M_2 eM_2 => ?_)
  refine j_iconst dX7_setPeriod_14 (by decide) ?_
  refine j_iret rfl rfl rfl rfl dX7_setPeriod_15 ?_
  exact ⟨rfl, by rw [eM_2, eM_1]⟩
abbrev q_X6_setHours (M : jM)  (a b v : Int) : Int → jM → Prop := fun r N => r = M 45 (a * 9 + b) ∧ N = jup (jup M 45 (a * 9 + b) v) 45 (b * 9 + a) v
set_option maxHeartbeats 4000000 in
set_option maxRecDepth 20000 in
theorem c_X6_setHours {X : jX} (M : jM)  (a b v : Int) (h0 : 0 ≤ a ∧ a ≤ 8 ∧ 0 ≤ b ∧ b ≤ 8) : jC yX6_setHours D_X6_setHours X FJ shJ [jR 44, jI a, jI b, jI v] M (jqI (q_X6_setHours M a b v)) := by
  refine jC_of (by decide) rfl (fun ad => Nat.le_of_ble_eq_true rfl) (by decide) ?_
  show jG D_X6_setHours X FJ shJ 0 0 (jqI (q_X6_setHours M a b v)) 0 [(0, jR 44), (1, jI a), (2, jI b), (3, jI v)] [] M
  refine j_aload_n 0 dX6_setHours_0 rfl rfl ?_
  refine j_getr f_X6_9 r_44_3 dX6_setHours_1 ?_
  refine j_iload_n 1 dX6_setHours_4 rfl rfl ?_
  refine j_bipush dX6_setHours_5 (by decide) ?_
  refine j_imul dX6_setHours_7 (by omega) ?_
  refine j_iload_n 2 dX6_setHours_8 rfl rfl ?_
  refine j_iadd dX6_setHours_9 (by omega) ?_
  refine j_iald a_45 dX6_setHours_10 (by omega) (by omega) ?_
  refine j_nm (fun v4_1 ev4_1 => ?_)
  refine j_istore (ls' := [(0, jR 44), (1, jI a), (2, jI b), (3, jI v), (4, jI v4_1)]) dX6_setHours_11 (by decide) rfl ?_
  refine j_aload_n 0 dX6_setHours_13 rfl rfl ?_
  refine j_getr f_X6_9 r_44_3 dX6_setHours_14 ?_
  refine j_iload_n 1 dX6_setHours_17 rfl rfl ?_
  refine j_bipush dX6_setHours_18 (by decide) ?_
  refine j_imul dX6_setHours_20 (by omega) ?_
  refine j_iload_n 2 dX6_setHours_21 rfl rfl ?_
  refine j_iadd dX6_setHours_22 (by omega) ?_
  refine j_iload_n 3 dX6_setHours_23 rfl rfl ?_
  refine j_iast a_45 dX6_setHours_24 (by omega) (by omega) ?_
  refine j_nmM (fun M_2 eM_2 => ?_)
  refine j_aload_n 0 dX6_setHours_25 rfl rfl ?_
  refine j_getr f_X6_9 r_44_3 dX6_setHours_26 ?_
  refine j_iload_n 2 dX6_setHours_29 rfl rfl ?_
  refine j_bipush dX6_setHours_30 (by decide) ?_
  refine j_imul dX6_setHours_32 (by omega) ?_
  refine j_iload_n 1 dX6_setHours_33 rfl rfl ?_
  refine j_iadd dX6_setHours_34 (by omega) ?_
  refine j_iload_n 3 dX6_setHours_35 rfl rfl ?_
  refine j_iast a_45 dX6_setHours_36 (by omega) (by omega) ?_
  refine j_nmM (fun M_3 eM_3 => ?_)
  refine j_iload 4 dX6_setHours_37 rfl ?_
  refine j_iret rfl rfl rfl rfl dX6_setHours_39 ?_
  exact ⟨by omega, by rw [eM_3, eM_2]⟩
abbrev q_X1_add (M : jM)  (h d w i o : Int) : Int → jM → Prop := fun r N => r = (if M 16 0 = 60 then -3 else M 16 0 + 1) ∧ N = (if M 16 0 = 60 then M else jup (jup (jup (jup (jup (jup M 17 (M 16 0) h) 18 (M 16 0) d) 19 (M 16 0) w) 20 (M 16 0) i) 21 (M 16 0) o) 16 0 (M 16 0 + 1))
set_option maxHeartbeats 4000000 in
set_option maxRecDepth 20000 in
theorem c_X1_add {X : jX} (M : jM)  (h d w i o : Int) (h_clines : 0 ≤ M 16 0 ∧ M 16 0 ≤ 60) : jC yX1_add D_X1_add X FJ shJ [jR 16, jI h, jI d, jI w, jI i, jI o] M (jqI (q_X1_add M h d w i o)) := by
  refine jC_of (by decide) rfl (fun ad => Nat.le_of_ble_eq_true rfl) (by decide) ?_
  show jG D_X1_add X FJ shJ 0 0 (jqI (q_X1_add M h d w i o)) 0 [(0, jR 16), (1, jI h), (2, jI d), (3, jI w), (4, jI i), (5, jI o)] [] M
  refine j_aload_n 0 dX1_add_0 rfl rfl ?_
  refine j_geti (k' := 0) f_X1_49 o_16_0 dX1_add_1 rfl ?_
  refine j_bipush dX1_add_4 (by decide) ?_
  refine j_icmp_ne (tgt := 12) dX1_add_6 (by decide) (fun c6_1 => ?_) (fun c6_1 => ?_)
  · skip
    refine j_aload_n 0 dX1_add_12 rfl rfl ?_
    refine j_getr f_X1_11 r_16_1 dX1_add_13 ?_
    refine j_aload_n 0 dX1_add_16 rfl rfl ?_
    refine j_geti (k' := 0) f_X1_49 o_16_0 dX1_add_17 rfl ?_
    refine j_iload_n 1 dX1_add_20 rfl rfl ?_
    refine j_iast a_17 dX1_add_21 (by omega) (by omega) ?_
    refine j_nmM (fun M_2 eM_2 => ?_)
    refine j_aload_n 0 dX1_add_22 rfl rfl ?_
    refine j_getr f_X1_15 r_16_2 dX1_add_23 ?_
    refine j_aload_n 0 dX1_add_26 rfl rfl ?_
    refine j_geti (k' := 0) f_X1_49 o_16_0 dX1_add_27 rfl ?_
    refine j_eq (congrFun ((congrFun eM_2 16).trans (jup_cell (by decide))) 0) ?_
    refine j_iload_n 2 dX1_add_30 rfl rfl ?_
    refine j_iast a_18 dX1_add_31 (by omega) (by omega) ?_
    refine j_nmM (fun M_3 eM_3 => ?_)
    refine j_aload_n 0 dX1_add_32 rfl rfl ?_
    refine j_getr f_X1_18 r_16_3 dX1_add_33 ?_
    refine j_aload_n 0 dX1_add_36 rfl rfl ?_
    refine j_geti (k' := 0) f_X1_49 o_16_0 dX1_add_37 rfl ?_
    refine j_eq (Eq.trans (congrFun ((congrFun eM_3 16).trans (jup_cell (by decide))) 0) (congrFun ((congrFun eM_2 16).trans (jup_cell (by decide))) 0)) ?_
    refine j_iload_n 3 dX1_add_40 rfl rfl ?_
    refine j_iast a_19 dX1_add_41 (by omega) (by omega) ?_
    refine j_nmM (fun M_4 eM_4 => ?_)
    refine j_aload_n 0 dX1_add_42 rfl rfl ?_
    refine j_getr f_X1_21 r_16_4 dX1_add_43 ?_
    refine j_aload_n 0 dX1_add_46 rfl rfl ?_
    refine j_geti (k' := 0) f_X1_49 o_16_0 dX1_add_47 rfl ?_
    refine j_eq (Eq.trans (congrFun ((congrFun eM_4 16).trans (jup_cell (by decide))) 0) (Eq.trans (congrFun ((congrFun eM_3 16).trans (jup_cell (by decide))) 0) (congrFun ((congrFun eM_2 16).trans (jup_cell (by decide))) 0))) ?_
    refine j_iload 4 dX1_add_50 rfl ?_
    refine j_iast a_20 dX1_add_52 (by omega) (by omega) ?_
    refine j_nmM (fun M_5 eM_5 => ?_)
    refine j_aload_n 0 dX1_add_53 rfl rfl ?_
    refine j_getr f_X1_24 r_16_5 dX1_add_54 ?_
    refine j_aload_n 0 dX1_add_57 rfl rfl ?_
    refine j_geti (k' := 0) f_X1_49 o_16_0 dX1_add_58 rfl ?_
    refine j_eq (Eq.trans (congrFun ((congrFun eM_5 16).trans (jup_cell (by decide))) 0) (Eq.trans (congrFun ((congrFun eM_4 16).trans (jup_cell (by decide))) 0) (Eq.trans (congrFun ((congrFun eM_3 16).trans (jup_cell (by decide))) 0) (congrFun ((congrFun eM_2 16).trans (jup_cell (by decide))) 0)))) ?_
    refine j_iload 5 dX1_add_61 rfl ?_
    refine j_iast a_21 dX1_add_63 (by omega) (by omega) ?_
    refine j_nmM (fun M_6 eM_6 => ?_)
    refine j_aload_n 0 dX1_add_64 rfl rfl ?_
    refine j_dup dX1_add_65 rfl ?_
    refine j_geti (k' := 0) f_X1_49 o_16_0 dX1_add_66 rfl ?_
    refine j_eq (Eq.trans (congrFun ((congrFun eM_6 16).trans (jup_cell (by decide))) 0) (Eq.trans (congrFun ((congrFun eM_5 16).trans (jup_cell (by decide))) 0) (Eq.trans (congrFun ((congrFun eM_4 16).trans (jup_cell (by decide))) 0) (Eq.trans (congrFun ((congrFun eM_3 16).trans (jup_cell (by decide))) 0) (congrFun ((congrFun eM_2 16).trans (jup_cell (by decide))) 0))))) ?_
    refine j_iconst dX1_add_69 (by decide) ?_
    refine j_iadd dX1_add_70 (by omega) ?_
    refine j_puti (k' := 0) f_X1_49 o_16_0 dX1_add_71 rfl ?_
    refine j_nmM (fun M_7 eM_7 => ?_)
    refine j_aload_n 0 dX1_add_74 rfl rfl ?_
    refine j_geti (k' := 0) f_X1_49 o_16_0 dX1_add_75 rfl ?_
    refine j_eq ((congrFun (congrFun eM_7 16) 0).trans (jup_self _ _ _ _)) ?_
    refine j_iret rfl rfl rfl rfl dX1_add_78 ?_
    refine ⟨by (repeat' split) <;> omega, ?_⟩
    first | (rw [if_pos (by omega), eM_7, eM_6, eM_5, eM_4, eM_3, eM_2]; done) | (rw [if_neg (by omega), eM_7, eM_6, eM_5, eM_4, eM_3, eM_2]; done) | (rw [if_pos (by omega)]; done) | (rw [if_neg (by omega)]; done) | (rw [if_neg (by omega), eM_7, eM_6, eM_5, eM_4, eM_3, eM_2, jup_zz]; done)
  · skip
    refine j_bipush dX1_add_9 (by decide) ?_
    refine j_iret rfl rfl rfl rfl dX1_add_11 ?_
    refine ⟨by (repeat' split) <;> omega, ?_⟩
    first | (rw [if_pos (by omega), jup_zz]; done) | (rw [if_neg (by omega), jup_zz]; done) | (rw [if_pos (by omega)]; done) | (rw [if_neg (by omega)]; done) | (rw [if_neg (by omega), jup_zz, jup_zz]; done)
abbrev q_X5_empty (M : jM)   : Int → jM → Prop := fun r N => r = M 71 0 ∧ N = jup M 71 0 0
set_option maxHeartbeats 4000000 in
set_option maxRecDepth 20000 in
theorem c_X5_empty {X : jX} (M : jM)    : jC yX5_empty D_X5_empty X FJ shJ [jR 71] M (jqI (q_X5_empty M)) := by
  refine jC_of (by decide) rfl (fun ad => Nat.le_of_ble_eq_true rfl) (by decide) ?_
  show jG D_X5_empty X FJ shJ 0 0 (jqI (q_X5_empty M)) 0 [(0, jR 71)] [] M
  refine j_aload_n 0 dX5_empty_0 rfl rfl ?_
  refine j_geti (k' := 0) f_X5_23 o_71_0 dX5_empty_1 rfl ?_
  refine j_nm (fun v1_1 ev1_1 => ?_)
  refine j_istore_n (ls' := [(0, jR 71), (1, jI v1_1)]) dX5_empty_4 rfl (by decide) rfl ?_
  refine j_aload_n 0 dX5_empty_5 rfl rfl ?_
  refine j_iconst dX5_empty_6 (by decide) ?_
  refine j_puti (k' := 0) f_X5_23 o_71_0 dX5_empty_7 rfl ?_
  refine j_nmM (fun M_2 eM_2 => ?_)
  refine j_iload_n 1 dX5_empty_10 rfl rfl ?_
  refine j_iret rfl rfl rfl rfl dX5_empty_11 ?_
  exact ⟨by omega, by rw [eM_2]⟩
abbrev q_X8_line (M : jM)  (h d w i o : Int) : Int → jM → Prop := fun r N => r = fLine (M 9 0) (M 1 0) (M 16 0) h d w i o ∧ N = (if 0 ≤ fLine (M 9 0) (M 1 0) (M 16 0) h d w i o then jup (jup (jup (jup (jup (jup M 17 (M 16 0) h) 18 (M 16 0) d) 19 (M 16 0) w) 20 (M 16 0) i) 21 (M 16 0) o) 16 0 (M 16 0 + 1) else M)
set_option maxHeartbeats 4000000 in
set_option maxRecDepth 20000 in
theorem c_X8_line {X : jX} (M : jM)  (h d w i o : Int) (h_clines : 0 ≤ M 16 0 ∧ M 16 0 ≤ 60) : jC yX8_line D_X8_line X FJ shJ [jR 0, jI h, jI d, jI w, jI i, jI o] M (jqI (q_X8_line M h d w i o)) := by
  refine jC_of (by decide) rfl (fun ad => Nat.le_of_ble_eq_true rfl) (by decide) ?_
  show jG D_X8_line X FJ shJ 0 0 (jqI (q_X8_line M h d w i o)) 0 [(0, jR 0), (1, jI h), (2, jI d), (3, jI w), (4, jI i), (5, jI o)] [] M
  refine j_aload_n 0 dX8_line_0 rfl rfl ?_
  refine j_getr f_X8_19 r_0_1 dX8_line_1 ?_
  refine j_iload_n 1 dX8_line_4 rfl rfl ?_
  refine j_callVi l_X8_85 ⟨Nat.le_of_ble_eq_true rfl, Nat.le_of_ble_eq_true rfl⟩ ⟨rfl, rfl⟩ dX8_line_5 ob_9 (c_X3_knows M h) rfl rfl (Nat.le_of_ble_eq_true rfl) (fun r_1 M_2 h_3 => ?_)
  obtain ⟨er_1, nh_3⟩ := h_3
  refine j_eqM nh_3 ?_
  clear nh_3
  refine j_if_eq (tgt := 35) dX8_line_8 (by decide) (fun c8_4 => ?_) (fun c8_4 => ?_)
  · skip
    refine j_iconst dX8_line_35 (by decide) ?_
    refine j_iret rfl rfl rfl rfl dX8_line_36 ?_
    refine ⟨by unfold fLine; (repeat' split) <;> first | omega | grind, ?_⟩
    first | rw [eM] | skip
    unfold fLine
    (repeat' split) <;> first | rfl | (exfalso; omega) | grind
  · skip
    refine j_iload_n 2 dX8_line_11 rfl rfl ?_
    refine j_callSi l_X8_103 ⟨Nat.le_of_ble_eq_true rfl, Nat.le_of_ble_eq_true rfl⟩ ⟨rfl, rfl⟩ dX8_line_12 (c_X8_isDay M d) rfl rfl (Nat.le_of_ble_eq_true rfl) (fun r_5 M_6 h_7 => ?_)
    obtain ⟨er_5, nh_7⟩ := h_7
    refine j_eqM nh_7 ?_
    clear nh_7
    refine j_if_eq (tgt := 35) dX8_line_15 (by decide) (fun c15_8 => ?_) (fun c15_8 => ?_)
    · skip
      refine j_iconst dX8_line_35 (by decide) ?_
      refine j_iret rfl rfl rfl rfl dX8_line_36 ?_
      refine ⟨by unfold fLine; (repeat' split) <;> first | omega | grind, ?_⟩
      first | rw [eM] | skip
      unfold fLine
      (repeat' split) <;> first | rfl | (exfalso; omega) | grind
    · skip
      refine j_iload_n 3 dX8_line_18 rfl rfl ?_
      refine j_bipush dX8_line_19 (by decide) ?_
      refine j_icmp_eq (tgt := 37) dX8_line_21 (by decide) (fun c21_9 => ?_) (fun c21_9 => ?_)
      · skip
        refine j_iload 4 dX8_line_37 rfl ?_
        refine j_if_lt (tgt := 57) dX8_line_39 (by decide) (fun c39_10 => ?_) (fun c39_10 => ?_)
        · skip
          refine j_iconst dX8_line_57 (by decide) ?_
          refine j_iret rfl rfl rfl rfl dX8_line_58 ?_
          refine ⟨by unfold fLine; (repeat' split) <;> first | omega | grind, ?_⟩
          first | rw [eM] | skip
          unfold fLine
          (repeat' split) <;> first | rfl | (exfalso; omega) | grind
        · skip
          refine j_iload 5 dX8_line_42 rfl ?_
          refine j_sipush dX8_line_44 (by decide) ?_
          refine j_icmp_gt (tgt := 57) dX8_line_47 (by decide) (fun c47_11 => ?_) (fun c47_11 => ?_)
          · skip
            refine j_iconst dX8_line_57 (by decide) ?_
            refine j_iret rfl rfl rfl rfl dX8_line_58 ?_
            refine ⟨by unfold fLine; (repeat' split) <;> first | omega | grind, ?_⟩
            first | rw [eM] | skip
            unfold fLine
            (repeat' split) <;> first | rfl | (exfalso; omega) | grind
          · skip
            refine j_iload 4 dX8_line_50 rfl ?_
            refine j_iload 5 dX8_line_52 rfl ?_
            refine j_icmp_lt (tgt := 59) dX8_line_54 (by decide) (fun c54_12 => ?_) (fun c54_12 => ?_)
            · skip
              refine j_aload_n 0 dX8_line_59 rfl rfl ?_
              refine j_getr f_X8_28 r_0_3 dX8_line_60 ?_
              refine j_iload_n 1 dX8_line_63 rfl rfl ?_
              refine j_iload_n 2 dX8_line_64 rfl rfl ?_
              refine j_iload_n 3 dX8_line_65 rfl rfl ?_
              refine j_iload 4 dX8_line_66 rfl ?_
              refine j_iload 5 dX8_line_68 rfl ?_
              refine j_callVi l_X8_179 ⟨Nat.le_of_ble_eq_true rfl, Nat.le_of_ble_eq_true rfl⟩ ⟨rfl, rfl⟩ dX8_line_70 ob_16 (c_X1_add M h d w i o h_clines) rfl rfl (Nat.le_of_ble_eq_true rfl) (fun r_13 M_14 h_15 => ?_)
              obtain ⟨er_13, eM_14⟩ := h_15
              refine j_iret rfl rfl rfl rfl dX8_line_73 ?_
              refine ⟨by unfold fLine; (repeat' split) <;> first | omega | grind, ?_⟩
              first | rw [eM_14] | skip
              unfold fLine
              (repeat' split) <;> first | rfl | (exfalso; omega) | grind
            · skip
              refine j_iconst dX8_line_57 (by decide) ?_
              refine j_iret rfl rfl rfl rfl dX8_line_58 ?_
              refine ⟨by unfold fLine; (repeat' split) <;> first | omega | grind, ?_⟩
              first | rw [eM] | skip
              unfold fLine
              (repeat' split) <;> first | rfl | (exfalso; omega) | grind
      · skip
        refine j_aload_n 0 dX8_line_24 rfl rfl ?_
        refine j_getr f_X8_10 r_0_0 dX8_line_25 ?_
        refine j_iload_n 3 dX8_line_28 rfl rfl ?_
        refine j_callVi l_X8_178 ⟨Nat.le_of_ble_eq_true rfl, Nat.le_of_ble_eq_true rfl⟩ ⟨rfl, rfl⟩ dX8_line_29 ob_1 (c_X4_knows M w) rfl rfl (Nat.le_of_ble_eq_true rfl) (fun r_16 M_17 h_18 => ?_)
        obtain ⟨er_16, nh_18⟩ := h_18
        refine j_eqM nh_18 ?_
        clear nh_18
        refine j_if_ne (tgt := 37) dX8_line_32 (by decide) (fun c32_19 => ?_) (fun c32_19 => ?_)
        · skip
          refine j_iload 4 dX8_line_37 rfl ?_
          refine j_if_lt (tgt := 57) dX8_line_39 (by decide) (fun c39_20 => ?_) (fun c39_20 => ?_)
          · skip
            refine j_iconst dX8_line_57 (by decide) ?_
            refine j_iret rfl rfl rfl rfl dX8_line_58 ?_
            refine ⟨by unfold fLine; (repeat' split) <;> first | omega | grind, ?_⟩
            first | rw [eM] | skip
            unfold fLine
            (repeat' split) <;> first | rfl | (exfalso; omega) | grind
          · skip
            refine j_iload 5 dX8_line_42 rfl ?_
            refine j_sipush dX8_line_44 (by decide) ?_
            refine j_icmp_gt (tgt := 57) dX8_line_47 (by decide) (fun c47_21 => ?_) (fun c47_21 => ?_)
            · skip
              refine j_iconst dX8_line_57 (by decide) ?_
              refine j_iret rfl rfl rfl rfl dX8_line_58 ?_
              refine ⟨by unfold fLine; (repeat' split) <;> first | omega | grind, ?_⟩
              first | rw [eM] | skip
              unfold fLine
              (repeat' split) <;> first | rfl | (exfalso; omega) | grind
            · skip
              refine j_iload 4 dX8_line_50 rfl ?_
              refine j_iload 5 dX8_line_52 rfl ?_
              refine j_icmp_lt (tgt := 59) dX8_line_54 (by decide) (fun c54_22 => ?_) (fun c54_22 => ?_)
              · skip
                refine j_aload_n 0 dX8_line_59 rfl rfl ?_
                refine j_getr f_X8_28 r_0_3 dX8_line_60 ?_
                refine j_iload_n 1 dX8_line_63 rfl rfl ?_
                refine j_iload_n 2 dX8_line_64 rfl rfl ?_
                refine j_iload_n 3 dX8_line_65 rfl rfl ?_
                refine j_iload 4 dX8_line_66 rfl ?_
                refine j_iload 5 dX8_line_68 rfl ?_
                refine j_callVi l_X8_179 ⟨Nat.le_of_ble_eq_true rfl, Nat.le_of_ble_eq_true rfl⟩ ⟨rfl, rfl⟩ dX8_line_70 ob_16 (c_X1_add M h d w i o h_clines) rfl rfl (Nat.le_of_ble_eq_true rfl) (fun r_23 M_24 h_25 => ?_)
                obtain ⟨er_23, eM_24⟩ := h_25
                refine j_iret rfl rfl rfl rfl dX8_line_73 ?_
                refine ⟨by unfold fLine; (repeat' split) <;> first | omega | grind, ?_⟩
                first | rw [eM_24] | skip
                unfold fLine
                (repeat' split) <;> first | rfl | (exfalso; omega) | grind
              · skip
                refine j_iconst dX8_line_57 (by decide) ?_
                refine j_iret rfl rfl rfl rfl dX8_line_58 ?_
                refine ⟨by unfold fLine; (repeat' split) <;> first | omega | grind, ?_⟩
                first | rw [eM] | skip
                unfold fLine
                (repeat' split) <;> first | rfl | (exfalso; omega) | grind
        · skip
          refine j_iconst dX8_line_35 (by decide) ?_
          refine j_iret rfl rfl rfl rfl dX8_line_36 ?_
          refine ⟨by unfold fLine; (repeat' split) <;> first | omega | grind, ?_⟩
          first | rw [eM] | skip
          unfold fLine
          (repeat' split) <;> first | rfl | (exfalso; omega) | grind
abbrev q_X8_period (M : jM)  (i m n : Int) : Int → jM → Prop := fun r N => r = (if (0 ≤ i ∧ i ≤ 5 ∧ 15 ≤ m ∧ m ≤ 300 ∧ 0 ≤ n ∧ n ≤ 3) then 1 else -1) ∧ N = (if (0 ≤ i ∧ i ≤ 5 ∧ 15 ≤ m ∧ m ≤ 300 ∧ 0 ≤ n ∧ n ≤ 3) then jup (jup M 29 i m) 30 i n else M)
set_option maxHeartbeats 4000000 in
set_option maxRecDepth 20000 in
theorem c_X8_period {X : jX} (M : jM)  (i m n : Int)  : jC yX8_period D_X8_period X FJ shJ [jR 0, jI i, jI m, jI n] M (jqI (q_X8_period M i m n)) := by
  refine jC_of (by decide) rfl (fun ad => Nat.le_of_ble_eq_true rfl) (by decide) ?_
  show jG D_X8_period X FJ shJ 0 0 (jqI (q_X8_period M i m n)) 0 [(0, jR 0), (1, jI i), (2, jI m), (3, jI n)] [] M
  refine j_iload_n 1 dX8_period_0 rfl rfl ?_
  refine j_iconst dX8_period_1 (by decide) ?_
  refine j_iconst dX8_period_2 (by decide) ?_
  refine j_callSi l_X8_74 ⟨Nat.le_of_ble_eq_true rfl, Nat.le_of_ble_eq_true rfl⟩ ⟨rfl, rfl⟩ dX8_period_3 (c_X8_within M i 0 5) rfl rfl (Nat.le_of_ble_eq_true rfl) (fun r_1 M_2 h_3 => ?_)
  obtain ⟨er_1, nh_3⟩ := h_3
  refine j_eqM nh_3 ?_
  clear nh_3
  refine j_if_eq (tgt := 30) dX8_period_6 (by decide) (fun c6_4 => ?_) (fun c6_4 => ?_)
  · skip
    refine j_iconst dX8_period_30 (by decide) ?_
    refine j_iret rfl rfl rfl rfl dX8_period_31 ?_
    refine ⟨by split <;> omega, ?_⟩
    first | (rw [if_neg (by omega)]; done) | (rw [if_pos (by omega), eM])
  · skip
    refine j_iload_n 2 dX8_period_9 rfl rfl ?_
    refine j_bipush dX8_period_10 (by decide) ?_
    refine j_sipush dX8_period_12 (by decide) ?_
    refine j_callSi l_X8_74 ⟨Nat.le_of_ble_eq_true rfl, Nat.le_of_ble_eq_true rfl⟩ ⟨rfl, rfl⟩ dX8_period_15 (c_X8_within M m 15 300) rfl rfl (Nat.le_of_ble_eq_true rfl) (fun r_5 M_6 h_7 => ?_)
    obtain ⟨er_5, nh_7⟩ := h_7
    refine j_eqM nh_7 ?_
    clear nh_7
    refine j_if_eq (tgt := 30) dX8_period_18 (by decide) (fun c18_8 => ?_) (fun c18_8 => ?_)
    · skip
      refine j_iconst dX8_period_30 (by decide) ?_
      refine j_iret rfl rfl rfl rfl dX8_period_31 ?_
      refine ⟨by split <;> omega, ?_⟩
      first | (rw [if_neg (by omega)]; done) | (rw [if_pos (by omega), eM])
    · skip
      refine j_iload_n 3 dX8_period_21 rfl rfl ?_
      refine j_iconst dX8_period_22 (by decide) ?_
      refine j_iconst dX8_period_23 (by decide) ?_
      refine j_callSi l_X8_74 ⟨Nat.le_of_ble_eq_true rfl, Nat.le_of_ble_eq_true rfl⟩ ⟨rfl, rfl⟩ dX8_period_24 (c_X8_within M n 0 3) rfl rfl (Nat.le_of_ble_eq_true rfl) (fun r_9 M_10 h_11 => ?_)
      obtain ⟨er_9, nh_11⟩ := h_11
      refine j_eqM nh_11 ?_
      clear nh_11
      refine j_if_ne (tgt := 32) dX8_period_27 (by decide) (fun c27_12 => ?_) (fun c27_12 => ?_)
      · skip
        refine j_aload_n 0 dX8_period_32 rfl rfl ?_
        refine j_getr f_X8_35 r_0_4 dX8_period_33 ?_
        refine j_iload_n 1 dX8_period_36 rfl rfl ?_
        refine j_iload_n 2 dX8_period_37 rfl rfl ?_
        refine j_iload_n 3 dX8_period_38 rfl rfl ?_
        refine j_callVi l_X8_216 ⟨Nat.le_of_ble_eq_true rfl, Nat.le_of_ble_eq_true rfl⟩ ⟨rfl, rfl⟩ dX8_period_39 ob_28 (c_X7_setPeriod M i m n (by first | assumption | omega)) rfl rfl (Nat.le_of_ble_eq_true rfl) (fun r_13 M_14 h_15 => ?_)
        obtain ⟨er_13, eM_14⟩ := h_15
        refine j_iret rfl rfl rfl rfl dX8_period_42 ?_
        refine ⟨by split <;> omega, ?_⟩
        first | (rw [if_neg (by omega)]; done) | (rw [if_pos (by omega), eM_14])
      · skip
        refine j_iconst dX8_period_30 (by decide) ?_
        refine j_iret rfl rfl rfl rfl dX8_period_31 ?_
        refine ⟨by split <;> omega, ?_⟩
        first | (rw [if_neg (by omega)]; done) | (rw [if_pos (by omega), eM])
abbrev q_X8_bench (M : jM)  (k : Int) : Int → jM → Prop := fun r N => r = fBench (M 36 0) k ∧ N = (if 0 ≤ fBench (M 36 0) k then jup (jup M 37 (M 36 0) k) 36 0 (M 36 0 + 1) else M)
set_option maxHeartbeats 4000000 in
set_option maxRecDepth 20000 in
theorem c_X8_bench {X : jX} (M : jM)  (k : Int) (h_cbenches : 0 ≤ M 36 0 ∧ M 36 0 ≤ 5) : jC yX8_bench D_X8_bench X FJ shJ [jR 0, jI k] M (jqI (q_X8_bench M k)) := by
  refine jC_of (by decide) rfl (fun ad => Nat.le_of_ble_eq_true rfl) (by decide) ?_
  show jG D_X8_bench X FJ shJ 0 0 (jqI (q_X8_bench M k)) 0 [(0, jR 0), (1, jI k)] [] M
  refine j_iload_n 1 dX8_bench_0 rfl rfl ?_
  refine j_iconst dX8_bench_1 (by decide) ?_
  refine j_sipush dX8_bench_2 (by decide) ?_
  refine j_callSi l_X8_74 ⟨Nat.le_of_ble_eq_true rfl, Nat.le_of_ble_eq_true rfl⟩ ⟨rfl, rfl⟩ dX8_bench_5 (c_X8_within M k 0 1023) rfl rfl (Nat.le_of_ble_eq_true rfl) (fun r_1 M_2 h_3 => ?_)
  obtain ⟨er_1, nh_3⟩ := h_3
  refine j_eqM nh_3 ?_
  clear nh_3
  refine j_if_ne (tgt := 13) dX8_bench_8 (by decide) (fun c8_4 => ?_) (fun c8_4 => ?_)
  · skip
    refine j_aload_n 0 dX8_bench_13 rfl rfl ?_
    refine j_getr f_X8_42 r_0_5 dX8_bench_14 ?_
    refine j_iload_n 1 dX8_bench_17 rfl rfl ?_
    refine j_callVi l_X8_234 ⟨Nat.le_of_ble_eq_true rfl, Nat.le_of_ble_eq_true rfl⟩ ⟨rfl, rfl⟩ dX8_bench_18 ob_36 (c_X2_addBench M k h_cbenches) rfl rfl (Nat.le_of_ble_eq_true rfl) (fun r_5 M_6 h_7 => ?_)
    obtain ⟨er_5, eM_6⟩ := h_7
    refine j_iret rfl rfl rfl rfl dX8_bench_21 ?_
    refine ⟨by unfold fBench; (repeat' split) <;> first | omega | grind, ?_⟩
    first | rw [eM_6] | skip
    unfold fBench
    (repeat' split) <;> first | rfl | (exfalso; omega) | grind
  · skip
    refine j_iconst dX8_bench_11 (by decide) ?_
    refine j_iret rfl rfl rfl rfl dX8_bench_12 ?_
    refine ⟨by unfold fBench; (repeat' split) <;> first | omega | grind, ?_⟩
    first | rw [eM] | skip
    unfold fBench
    (repeat' split) <;> first | rfl | (exfalso; omega) | grind
abbrev q_X8_base (M : jM)  (o v : Int) : Int → jM → Prop := fun r N => r = fBase (M 38) o v ∧ N = (if 0 ≤ o ∧ o ≤ 5 ∧ 0 ≤ v ∧ v ≤ 500 then jup M 38 o v else M)
set_option maxHeartbeats 4000000 in
set_option maxRecDepth 20000 in
theorem c_X8_base {X : jX} (M : jM)  (o v : Int)  : jC yX8_base D_X8_base X FJ shJ [jR 0, jI o, jI v] M (jqI (q_X8_base M o v)) := by
  refine jC_of (by decide) rfl (fun ad => Nat.le_of_ble_eq_true rfl) (by decide) ?_
  show jG D_X8_base X FJ shJ 0 0 (jqI (q_X8_base M o v)) 0 [(0, jR 0), (1, jI o), (2, jI v)] [] M
  refine j_iload_n 1 dX8_base_0 rfl rfl ?_
  refine j_iconst dX8_base_1 (by decide) ?_
  refine j_iconst dX8_base_2 (by decide) ?_
  refine j_callSi l_X8_74 ⟨Nat.le_of_ble_eq_true rfl, Nat.le_of_ble_eq_true rfl⟩ ⟨rfl, rfl⟩ dX8_base_3 (c_X8_within M o 0 5) rfl rfl (Nat.le_of_ble_eq_true rfl) (fun r_1 M_2 h_3 => ?_)
  obtain ⟨er_1, nh_3⟩ := h_3
  refine j_eqM nh_3 ?_
  clear nh_3
  refine j_if_eq (tgt := 20) dX8_base_6 (by decide) (fun c6_4 => ?_) (fun c6_4 => ?_)
  · skip
    refine j_iconst dX8_base_20 (by decide) ?_
    refine j_iret rfl rfl rfl rfl dX8_base_21 ?_
    refine ⟨by unfold fBase; split <;> omega, ?_⟩
    first | (rw [if_neg (by omega)]; done) | (rw [if_pos (by omega), eM])
  · skip
    refine j_iload_n 2 dX8_base_9 rfl rfl ?_
    refine j_iconst dX8_base_10 (by decide) ?_
    refine j_sipush dX8_base_11 (by decide) ?_
    refine j_callSi l_X8_74 ⟨Nat.le_of_ble_eq_true rfl, Nat.le_of_ble_eq_true rfl⟩ ⟨rfl, rfl⟩ dX8_base_14 (c_X8_within M v 0 500) rfl rfl (Nat.le_of_ble_eq_true rfl) (fun r_5 M_6 h_7 => ?_)
    obtain ⟨er_5, nh_7⟩ := h_7
    refine j_eqM nh_7 ?_
    clear nh_7
    refine j_if_ne (tgt := 22) dX8_base_17 (by decide) (fun c17_8 => ?_) (fun c17_8 => ?_)
    · skip
      refine j_aload_n 0 dX8_base_22 rfl rfl ?_
      refine j_getr f_X8_42 r_0_5 dX8_base_23 ?_
      refine j_iload_n 1 dX8_base_26 rfl rfl ?_
      refine j_iload_n 2 dX8_base_27 rfl rfl ?_
      refine j_callVi l_X8_237 ⟨Nat.le_of_ble_eq_true rfl, Nat.le_of_ble_eq_true rfl⟩ ⟨rfl, rfl⟩ dX8_base_28 ob_36 (c_X2_setBase M o v (by first | assumption | omega)) rfl rfl (Nat.le_of_ble_eq_true rfl) (fun r_9 M_10 h_11 => ?_)
      obtain ⟨er_9, eM_10⟩ := h_11
      refine j_iret rfl rfl rfl rfl dX8_base_31 ?_
      refine ⟨by unfold fBase; split <;> omega, ?_⟩
      first | (rw [if_neg (by omega)]; done) | (rw [if_pos (by omega), eM_10])
    · skip
      refine j_iconst dX8_base_20 (by decide) ?_
      refine j_iret rfl rfl rfl rfl dX8_base_21 ?_
      refine ⟨by unfold fBase; split <;> omega, ?_⟩
      first | (rw [if_neg (by omega)]; done) | (rw [if_pos (by omega), eM])
abbrev q_X8_suit (M : jM)  (i w : Int) : Int → jM → Prop := fun r N => r = fSuit (M 36 3) (M 42) (M 40) (M 41) (M 39) (M 38) i w ∧ N = M
set_option maxHeartbeats 4000000 in
set_option maxRecDepth 20000 in
theorem c_X8_suit {X : jX} (M : jM)  (i w : Int) (h_ccases : 0 ≤ M 36 3 ∧ M 36 3 ≤ 20) (h_cbase : ∀ i, 0 ≤ M 38 i ∧ M 38 i ≤ 500) (h_ccof : ∀ i, 0 ≤ M 41 i ∧ M 41 i ≤ 5) (h_cstands : ∀ i, 0 ≤ M 42 i ∧ M 42 i ≤ 1) : jC yX8_suit D_X8_suit X FJ shJ [jR 0, jI i, jI w] M (jqI (q_X8_suit M i w)) := by
  refine jC_of (by decide) rfl (fun ad => Nat.le_of_ble_eq_true rfl) (by decide) ?_
  show jG D_X8_suit X FJ shJ 0 0 (jqI (q_X8_suit M i w)) 0 [(0, jR 0), (1, jI i), (2, jI w)] [] M
  refine j_aload_n 0 dX8_suit_0 rfl rfl ?_
  refine j_getr f_X8_42 r_0_5 dX8_suit_1 ?_
  refine j_iload_n 1 dX8_suit_4 rfl rfl ?_
  refine j_callVi l_X8_252 ⟨Nat.le_of_ble_eq_true rfl, Nat.le_of_ble_eq_true rfl⟩ ⟨rfl, rfl⟩ dX8_suit_5 ob_36 (c_X2_knows M i) rfl rfl (Nat.le_of_ble_eq_true rfl) (fun r_1 M_2 h_3 => ?_)
  obtain ⟨er_1, nh_3⟩ := h_3
  refine j_eqM nh_3 ?_
  clear nh_3
  refine j_if_ne (tgt := 13) dX8_suit_8 (by decide) (fun c8_4 => ?_) (fun c8_4 => ?_)
  · skip
    refine j_iload_n 2 dX8_suit_13 rfl rfl ?_
    rcases (show w = 0 ∨ w = 1 ∨ w = 2 ∨ w = 3 ∨ w = 4 ∨ w < 0 ∨ 4 < w from by omega) with s_5 | s_5 | s_5 | s_5 | s_5 | s_5 | s_5
    · refine j_tswIn (tgt := 48) 0 s_5 dX8_suit_14 (by decide) (by decide) rfl (by decide) ?_
      refine j_aload_n 0 dX8_suit_48 rfl rfl ?_
      refine j_getr f_X8_42 r_0_5 dX8_suit_49 ?_
      refine j_getr f_X8_253 r_36_4 dX8_suit_52 ?_
      refine j_iload_n 1 dX8_suit_55 rfl rfl ?_
      refine j_iald a_39 dX8_suit_56 (by omega) (by omega) ?_
      refine j_iret rfl rfl rfl rfl dX8_suit_57 ?_
      exact ⟨by unfold fSuit; (repeat' split) <;> first | omega | grind, rfl⟩
    · refine j_tswIn (tgt := 58) 1 s_5 dX8_suit_14 (by decide) (by decide) rfl (by decide) ?_
      refine j_aload_n 0 dX8_suit_58 rfl rfl ?_
      refine j_getr f_X8_42 r_0_5 dX8_suit_59 ?_
      refine j_iload_n 1 dX8_suit_62 rfl rfl ?_
      refine j_callVi l_X8_256 ⟨Nat.le_of_ble_eq_true rfl, Nat.le_of_ble_eq_true rfl⟩ ⟨rfl, rfl⟩ dX8_suit_63 ob_36 (c_X2_fine M i h_cbase h_ccof h_cstands (by first | assumption | omega)) rfl rfl (Nat.le_of_ble_eq_true rfl) (fun r_6 M_7 h_8 => ?_)
      obtain ⟨er_6, nh_8⟩ := h_8
      refine j_eqM nh_8 ?_
      clear nh_8
      refine j_iret rfl rfl rfl rfl dX8_suit_66 ?_
      exact ⟨by unfold fSuit; (repeat' split) <;> first | omega | grind, rfl⟩
    · refine j_tswIn (tgt := 67) 2 s_5 dX8_suit_14 (by decide) (by decide) rfl (by decide) ?_
      refine j_aload_n 0 dX8_suit_67 rfl rfl ?_
      refine j_getr f_X8_42 r_0_5 dX8_suit_68 ?_
      refine j_getr f_X8_259 r_36_7 dX8_suit_71 ?_
      refine j_iload_n 1 dX8_suit_74 rfl rfl ?_
      refine j_zald a_42 dX8_suit_75 (by omega) (by omega) ?_
      have g_9 := h_cstands i
      have hJ_10 : ∀ zz : Int, ((M 42 i) = 0 ∧ zz = 0) ∨ (¬ (M 42 i) = 0 ∧ zz = 1) → jG D_X8_suit X FJ shJ 0 0 (jqI (q_X8_suit M i w)) 84 [(0, jR 0), (1, jI i), (2, jI w)] (jI zz :: []) M := by
        intro t_11 et_11
        refine j_iret rfl rfl rfl rfl dX8_suit_84 ?_
        exact ⟨by unfold fSuit; (repeat' split) <;> first | omega | grind, rfl⟩
      refine j_if_eq (tgt := 83) dX8_suit_76 (by decide) (fun c76_12 => ?_) (fun c76_12 => ?_)
      · skip
        refine j_iconst dX8_suit_83 (by decide) ?_
        exact hJ_10 _ (Or.inl ⟨c76_12, rfl⟩)
      · skip
        refine j_iconst dX8_suit_79 (by decide) ?_
        refine j_goto (tgt := 84) dX8_suit_80 (by decide) ?_
        exact hJ_10 _ (Or.inr (⟨c76_12, rfl⟩))
    · refine j_tswIn (tgt := 85) 3 s_5 dX8_suit_14 (by decide) (by decide) rfl (by decide) ?_
      refine j_aload_n 0 dX8_suit_85 rfl rfl ?_
      refine j_getr f_X8_42 r_0_5 dX8_suit_86 ?_
      refine j_getr f_X8_262 r_36_5 dX8_suit_89 ?_
      refine j_iload_n 1 dX8_suit_92 rfl rfl ?_
      refine j_iald a_40 dX8_suit_93 (by omega) (by omega) ?_
      refine j_iret rfl rfl rfl rfl dX8_suit_94 ?_
      exact ⟨by unfold fSuit; (repeat' split) <;> first | omega | grind, rfl⟩
    · refine j_tswIn (tgt := 95) 4 s_5 dX8_suit_14 (by decide) (by decide) rfl (by decide) ?_
      refine j_aload_n 0 dX8_suit_95 rfl rfl ?_
      refine j_getr f_X8_42 r_0_5 dX8_suit_96 ?_
      refine j_getr f_X8_265 r_36_6 dX8_suit_99 ?_
      refine j_iload_n 1 dX8_suit_102 rfl rfl ?_
      refine j_iald a_41 dX8_suit_103 (by omega) (by omega) ?_
      have g_13 := h_ccof i
      refine j_iret rfl rfl rfl rfl dX8_suit_104 ?_
      exact ⟨by unfold fSuit; (repeat' split) <;> first | omega | grind, rfl⟩
    · refine j_tswOut (tgt := 105) dX8_suit_14 (Or.inl s_5) (by decide) ?_
      refine j_iconst dX8_suit_105 (by decide) ?_
      refine j_iret rfl rfl rfl rfl dX8_suit_106 ?_
      exact ⟨by unfold fSuit; (repeat' split) <;> first | omega | grind, rfl⟩
    · refine j_tswOut (tgt := 105) dX8_suit_14 (Or.inr s_5) (by decide) ?_
      refine j_iconst dX8_suit_105 (by decide) ?_
      refine j_iret rfl rfl rfl rfl dX8_suit_106 ?_
      exact ⟨by unfold fSuit; (repeat' split) <;> first | omega | grind, rfl⟩
  · skip
    refine j_iconst dX8_suit_11 (by decide) ?_
    refine j_iret rfl rfl rfl rfl dX8_suit_12 ?_
    exact ⟨by unfold fSuit; (repeat' split) <;> first | omega | grind, rfl⟩
abbrev q_X8_appeal (M : jM)  (i : Int) : Int → jM → Prop := fun r N => r = (if 0 ≤ i ∧ i < M 36 3 then (if M 42 i = 0 then -2 else fFell (M 42) (M 43) (M 41) i (M 36 3 - i).toNat) else -1) ∧ N 42 = (if 0 ≤ i ∧ i < M 36 3 ∧ ¬ M 42 i = 0 then fFall (M 42) (M 43) (M 41) i (M 36 3 - i).toNat else M 42) ∧ ∀ c, c ≠ 42 → N c = M c
set_option maxHeartbeats 4000000 in
set_option maxRecDepth 20000 in
theorem c_X8_appeal {X : jX} (M : jM)  (i : Int) (h_ccases : 0 ≤ M 36 3 ∧ M 36 3 ≤ 20) : jC yX8_appeal D_X8_appeal X FJ shJ [jR 0, jI i] M (jqI (q_X8_appeal M i)) := by
  refine jC_of (by decide) rfl (fun ad => Nat.le_of_ble_eq_true rfl) (by decide) ?_
  show jG D_X8_appeal X FJ shJ 0 0 (jqI (q_X8_appeal M i)) 0 [(0, jR 0), (1, jI i)] [] M
  refine j_aload_n 0 dX8_appeal_0 rfl rfl ?_
  refine j_getr f_X8_42 r_0_5 dX8_appeal_1 ?_
  refine j_iload_n 1 dX8_appeal_4 rfl rfl ?_
  refine j_callVi l_X8_252 ⟨Nat.le_of_ble_eq_true rfl, Nat.le_of_ble_eq_true rfl⟩ ⟨rfl, rfl⟩ dX8_appeal_5 ob_36 (c_X2_knows M i) rfl rfl (Nat.le_of_ble_eq_true rfl) (fun r_1 M_2 h_3 => ?_)
  obtain ⟨er_1, nh_3⟩ := h_3
  refine j_eqM nh_3 ?_
  clear nh_3
  refine j_if_ne (tgt := 13) dX8_appeal_8 (by decide) (fun c8_4 => ?_) (fun c8_4 => ?_)
  · skip
    refine j_aload_n 0 dX8_appeal_13 rfl rfl ?_
    refine j_getr f_X8_42 r_0_5 dX8_appeal_14 ?_
    refine j_getr f_X8_259 r_36_7 dX8_appeal_17 ?_
    refine j_iload_n 1 dX8_appeal_20 rfl rfl ?_
    refine j_zald a_42 dX8_appeal_21 (by omega) (by omega) ?_
    refine j_if_eq (tgt := 36) dX8_appeal_22 (by decide) (fun c22_5 => ?_) (fun c22_5 => ?_)
    · skip
      refine j_bipush dX8_appeal_36 (by decide) ?_
      refine j_iret rfl rfl rfl rfl dX8_appeal_38 ?_
      first | (exact ⟨by (repeat' split) <;> omega, by rw [if_neg (by omega)], fun _ _ => rfl⟩) | (exact ⟨by rw [if_pos (by omega), if_neg (by omega)]; omega, by rw [if_pos (by omega)]; exact fM, kM⟩)
    · skip
      refine j_aload_n 0 dX8_appeal_25 rfl rfl ?_
      refine j_getr f_X8_42 r_0_5 dX8_appeal_26 ?_
      refine j_iload_n 1 dX8_appeal_29 rfl rfl ?_
      refine j_callVi l_X8_268 ⟨Nat.le_of_ble_eq_true rfl, Nat.le_of_ble_eq_true rfl⟩ ⟨rfl, rfl⟩ dX8_appeal_30 ob_36 (c_X2_overturn M i h_ccases (by first | assumption | omega)) rfl rfl (Nat.le_of_ble_eq_true rfl) (fun r_6 M_7 h_8 => ?_)
      obtain ⟨er_6, fM_7, kM_7⟩ := h_8
      refine j_goto (tgt := 38) dX8_appeal_33 (by decide) ?_
      refine j_iret rfl rfl rfl rfl dX8_appeal_38 ?_
      first | (exact ⟨by (repeat' split) <;> omega, by rw [if_neg (by omega)], fun _ _ => rfl⟩) | (exact ⟨by rw [if_pos (by omega), if_neg (by omega)]; omega, by rw [if_pos (by omega)]; exact fM_7, kM_7⟩)
  · skip
    refine j_iconst dX8_appeal_11 (by decide) ?_
    refine j_iret rfl rfl rfl rfl dX8_appeal_12 ?_
    first | (exact ⟨by (repeat' split) <;> omega, by rw [if_neg (by omega)], fun _ _ => rfl⟩) | (exact ⟨by rw [if_pos (by omega), if_neg (by omega)]; omega, by rw [if_pos (by omega)]; exact fM, kM⟩)
abbrev q_X8_fines (M : jM)  (m : Int) : Int → jM → Prop := fun r N => r = (if m = -9 ∨ (0 ≤ m ∧ m < M 1 0) then fFines (M 42) (M 40) (M 41) (M 38) m (M 36 3).toNat else -1) ∧ N = M
set_option maxHeartbeats 4000000 in
set_option maxRecDepth 20000 in
theorem c_X8_fines {X : jX} (M : jM)  (m : Int) (h_ccases : 0 ≤ M 36 3 ∧ M 36 3 ≤ 20) (h_cbase : ∀ i, 0 ≤ M 38 i ∧ M 38 i ≤ 500) (h_ccof : ∀ i, 0 ≤ M 41 i ∧ M 41 i ≤ 5) (h_cstands : ∀ i, 0 ≤ M 42 i ∧ M 42 i ≤ 1) : jC yX8_fines D_X8_fines X FJ shJ [jR 0, jI m] M (jqI (q_X8_fines M m)) := by
  refine jC_of (by decide) rfl (fun ad => Nat.le_of_ble_eq_true rfl) (by decide) ?_
  show jG D_X8_fines X FJ shJ 0 0 (jqI (q_X8_fines M m)) 0 [(0, jR 0), (1, jI m)] [] M
  refine j_iload_n 1 dX8_fines_0 rfl rfl ?_
  refine j_bipush dX8_fines_1 (by decide) ?_
  refine j_icmp_eq (tgt := 19) dX8_fines_3 (by decide) (fun c3_1 => ?_) (fun c3_1 => ?_)
  · skip
    refine j_aload_n 0 dX8_fines_19 rfl rfl ?_
    refine j_getr f_X8_42 r_0_5 dX8_fines_20 ?_
    refine j_iload_n 1 dX8_fines_23 rfl rfl ?_
    refine j_callVi l_X8_271 ⟨Nat.le_of_ble_eq_true rfl, Nat.le_of_ble_eq_true rfl⟩ ⟨rfl, rfl⟩ dX8_fines_24 ob_36 (c_X2_finesOf M m h_ccases h_cbase h_ccof h_cstands) rfl rfl (Nat.le_of_ble_eq_true rfl) (fun r_2 M_3 h_4 => ?_)
    obtain ⟨er_2, nh_4⟩ := h_4
    refine j_eqM nh_4 ?_
    clear nh_4
    refine j_iret rfl rfl rfl rfl dX8_fines_27 ?_
    exact ⟨by split <;> omega, rfl⟩
  · skip
    refine j_aload_n 0 dX8_fines_6 rfl rfl ?_
    refine j_getr f_X8_10 r_0_0 dX8_fines_7 ?_
    refine j_iload_n 1 dX8_fines_10 rfl rfl ?_
    refine j_callVi l_X8_178 ⟨Nat.le_of_ble_eq_true rfl, Nat.le_of_ble_eq_true rfl⟩ ⟨rfl, rfl⟩ dX8_fines_11 ob_1 (c_X4_knows M m) rfl rfl (Nat.le_of_ble_eq_true rfl) (fun r_5 M_6 h_7 => ?_)
    obtain ⟨er_5, nh_7⟩ := h_7
    refine j_eqM nh_7 ?_
    clear nh_7
    refine j_if_ne (tgt := 19) dX8_fines_14 (by decide) (fun c14_8 => ?_) (fun c14_8 => ?_)
    · skip
      refine j_aload_n 0 dX8_fines_19 rfl rfl ?_
      refine j_getr f_X8_42 r_0_5 dX8_fines_20 ?_
      refine j_iload_n 1 dX8_fines_23 rfl rfl ?_
      refine j_callVi l_X8_271 ⟨Nat.le_of_ble_eq_true rfl, Nat.le_of_ble_eq_true rfl⟩ ⟨rfl, rfl⟩ dX8_fines_24 ob_36 (c_X2_finesOf M m h_ccases h_cbase h_ccof h_cstands) rfl rfl (Nat.le_of_ble_eq_true rfl) (fun r_9 M_10 h_11 => ?_)
      obtain ⟨er_9, nh_11⟩ := h_11
      refine j_eqM nh_11 ?_
      clear nh_11
      refine j_iret rfl rfl rfl rfl dX8_fines_27 ?_
      exact ⟨by split <;> omega, rfl⟩
    · skip
      refine j_iconst dX8_fines_17 (by decide) ?_
      refine j_iret rfl rfl rfl rfl dX8_fines_18 ?_
      exact ⟨by split <;> omega, rfl⟩
abbrev q_X8_road (M : jM)  (a b v : Int) : Int → jM → Prop := fun r N => r = fRoad (M 45) a b v ∧ N = (if 0 ≤ a ∧ a ≤ 8 ∧ 0 ≤ b ∧ b ≤ 8 ∧ ¬ a = b ∧ 1 ≤ v ∧ v ≤ 30 then jup (jup M 45 (a * 9 + b) v) 45 (b * 9 + a) v else M)
set_option maxHeartbeats 4000000 in
set_option maxRecDepth 20000 in
theorem c_X8_road {X : jX} (M : jM)  (a b v : Int)  : jC yX8_road D_X8_road X FJ shJ [jR 0, jI a, jI b, jI v] M (jqI (q_X8_road M a b v)) := by
  refine jC_of (by decide) rfl (fun ad => Nat.le_of_ble_eq_true rfl) (by decide) ?_
  show jG D_X8_road X FJ shJ 0 0 (jqI (q_X8_road M a b v)) 0 [(0, jR 0), (1, jI a), (2, jI b), (3, jI v)] [] M
  refine j_iload_n 1 dX8_road_0 rfl rfl ?_
  refine j_iconst dX8_road_1 (by decide) ?_
  refine j_bipush dX8_road_2 (by decide) ?_
  refine j_callSi l_X8_74 ⟨Nat.le_of_ble_eq_true rfl, Nat.le_of_ble_eq_true rfl⟩ ⟨rfl, rfl⟩ dX8_road_4 (c_X8_within M a 0 8) rfl rfl (Nat.le_of_ble_eq_true rfl) (fun r_1 M_2 h_3 => ?_)
  obtain ⟨er_1, nh_3⟩ := h_3
  refine j_eqM nh_3 ?_
  clear nh_3
  refine j_if_eq (tgt := 35) dX8_road_7 (by decide) (fun c7_4 => ?_) (fun c7_4 => ?_)
  · skip
    refine j_iconst dX8_road_35 (by decide) ?_
    refine j_iret rfl rfl rfl rfl dX8_road_36 ?_
    refine ⟨by unfold fRoad; first | (rw [if_neg (by omega)]; done) | (rw [if_pos (by omega), Int.mul_comm 9 a]; omega), ?_⟩
    first | (rw [if_neg (by omega)]; done) | (rw [if_pos (by omega), eM])
  · skip
    refine j_iload_n 2 dX8_road_10 rfl rfl ?_
    refine j_iconst dX8_road_11 (by decide) ?_
    refine j_bipush dX8_road_12 (by decide) ?_
    refine j_callSi l_X8_74 ⟨Nat.le_of_ble_eq_true rfl, Nat.le_of_ble_eq_true rfl⟩ ⟨rfl, rfl⟩ dX8_road_14 (c_X8_within M b 0 8) rfl rfl (Nat.le_of_ble_eq_true rfl) (fun r_5 M_6 h_7 => ?_)
    obtain ⟨er_5, nh_7⟩ := h_7
    refine j_eqM nh_7 ?_
    clear nh_7
    refine j_if_eq (tgt := 35) dX8_road_17 (by decide) (fun c17_8 => ?_) (fun c17_8 => ?_)
    · skip
      refine j_iconst dX8_road_35 (by decide) ?_
      refine j_iret rfl rfl rfl rfl dX8_road_36 ?_
      refine ⟨by unfold fRoad; first | (rw [if_neg (by omega)]; done) | (rw [if_pos (by omega), Int.mul_comm 9 a]; omega), ?_⟩
      first | (rw [if_neg (by omega)]; done) | (rw [if_pos (by omega), eM])
    · skip
      refine j_iload_n 1 dX8_road_20 rfl rfl ?_
      refine j_iload_n 2 dX8_road_21 rfl rfl ?_
      refine j_icmp_eq (tgt := 35) dX8_road_22 (by decide) (fun c22_9 => ?_) (fun c22_9 => ?_)
      · skip
        refine j_iconst dX8_road_35 (by decide) ?_
        refine j_iret rfl rfl rfl rfl dX8_road_36 ?_
        refine ⟨by unfold fRoad; first | (rw [if_neg (by omega)]; done) | (rw [if_pos (by omega), Int.mul_comm 9 a]; omega), ?_⟩
        first | (rw [if_neg (by omega)]; done) | (rw [if_pos (by omega), eM])
      · skip
        refine j_iload_n 3 dX8_road_25 rfl rfl ?_
        refine j_iconst dX8_road_26 (by decide) ?_
        refine j_bipush dX8_road_27 (by decide) ?_
        refine j_callSi l_X8_74 ⟨Nat.le_of_ble_eq_true rfl, Nat.le_of_ble_eq_true rfl⟩ ⟨rfl, rfl⟩ dX8_road_29 (c_X8_within M v 1 30) rfl rfl (Nat.le_of_ble_eq_true rfl) (fun r_10 M_11 h_12 => ?_)
        obtain ⟨er_10, nh_12⟩ := h_12
        refine j_eqM nh_12 ?_
        clear nh_12
        refine j_if_ne (tgt := 37) dX8_road_32 (by decide) (fun c32_13 => ?_) (fun c32_13 => ?_)
        · skip
          refine j_aload_n 0 dX8_road_37 rfl rfl ?_
          refine j_getr f_X8_49 r_0_6 dX8_road_38 ?_
          refine j_iload_n 1 dX8_road_41 rfl rfl ?_
          refine j_iload_n 2 dX8_road_42 rfl rfl ?_
          refine j_iload_n 3 dX8_road_43 rfl rfl ?_
          refine j_callVi l_X8_274 ⟨Nat.le_of_ble_eq_true rfl, Nat.le_of_ble_eq_true rfl⟩ ⟨rfl, rfl⟩ dX8_road_44 ob_44 (c_X6_setHours M a b v (by first | assumption | omega)) rfl rfl (Nat.le_of_ble_eq_true rfl) (fun r_14 M_15 h_16 => ?_)
          obtain ⟨er_14, eM_15⟩ := h_16
          refine j_iret rfl rfl rfl rfl dX8_road_47 ?_
          refine ⟨by unfold fRoad; first | (rw [if_neg (by omega)]; done) | (rw [if_pos (by omega), Int.mul_comm 9 a]; omega), ?_⟩
          first | (rw [if_neg (by omega)]; done) | (rw [if_pos (by omega), eM_15])
        · skip
          refine j_iconst dX8_road_35 (by decide) ?_
          refine j_iret rfl rfl rfl rfl dX8_road_36 ?_
          refine ⟨by unfold fRoad; first | (rw [if_neg (by omega)]; done) | (rw [if_pos (by omega), Int.mul_comm 9 a]; omega), ?_⟩
          first | (rw [if_neg (by omega)]; done) | (rw [if_pos (by omega), eM])
abbrev q_X8_doubt (M : jM)  (m v : Int) : Int → jM → Prop := fun r N => r = fDoubt (M 1 0) (M 5) m v ∧ N = (if 0 ≤ m ∧ m < M 1 0 ∧ 0 ≤ v ∧ v ≤ 99 then jup M 5 m v else M)
set_option maxHeartbeats 4000000 in
set_option maxRecDepth 20000 in
theorem c_X8_doubt {X : jX} (M : jM)  (m v : Int) (h_cmills : 0 ≤ M 1 0 ∧ M 1 0 ≤ 6) : jC yX8_doubt D_X8_doubt X FJ shJ [jR 0, jI m, jI v] M (jqI (q_X8_doubt M m v)) := by
  refine jC_of (by decide) rfl (fun ad => Nat.le_of_ble_eq_true rfl) (by decide) ?_
  show jG D_X8_doubt X FJ shJ 0 0 (jqI (q_X8_doubt M m v)) 0 [(0, jR 0), (1, jI m), (2, jI v)] [] M
  refine j_aload_n 0 dX8_doubt_0 rfl rfl ?_
  refine j_getr f_X8_10 r_0_0 dX8_doubt_1 ?_
  refine j_iload_n 1 dX8_doubt_4 rfl rfl ?_
  refine j_callVi l_X8_178 ⟨Nat.le_of_ble_eq_true rfl, Nat.le_of_ble_eq_true rfl⟩ ⟨rfl, rfl⟩ dX8_doubt_5 ob_1 (c_X4_knows M m) rfl rfl (Nat.le_of_ble_eq_true rfl) (fun r_1 M_2 h_3 => ?_)
  obtain ⟨er_1, nh_3⟩ := h_3
  refine j_eqM nh_3 ?_
  clear nh_3
  refine j_if_eq (tgt := 21) dX8_doubt_8 (by decide) (fun c8_4 => ?_) (fun c8_4 => ?_)
  · skip
    refine j_iconst dX8_doubt_21 (by decide) ?_
    refine j_iret rfl rfl rfl rfl dX8_doubt_22 ?_
    refine ⟨by unfold fDoubt; split <;> omega, ?_⟩
    first | (rw [if_neg (by omega)]; done) | (rw [if_pos (by omega), jup_zz])
  · skip
    refine j_iload_n 2 dX8_doubt_11 rfl rfl ?_
    refine j_iconst dX8_doubt_12 (by decide) ?_
    refine j_bipush dX8_doubt_13 (by decide) ?_
    refine j_callSi l_X8_74 ⟨Nat.le_of_ble_eq_true rfl, Nat.le_of_ble_eq_true rfl⟩ ⟨rfl, rfl⟩ dX8_doubt_15 (c_X8_within M v 0 99) rfl rfl (Nat.le_of_ble_eq_true rfl) (fun r_5 M_6 h_7 => ?_)
    obtain ⟨er_5, nh_7⟩ := h_7
    refine j_eqM nh_7 ?_
    clear nh_7
    refine j_if_ne (tgt := 23) dX8_doubt_18 (by decide) (fun c18_8 => ?_) (fun c18_8 => ?_)
    · skip
      refine j_aload_n 0 dX8_doubt_23 rfl rfl ?_
      refine j_getr f_X8_10 r_0_0 dX8_doubt_24 ?_
      refine j_getr f_X8_277 r_1_4 dX8_doubt_27 ?_
      refine j_iload_n 1 dX8_doubt_30 rfl rfl ?_
      refine j_iald a_5 dX8_doubt_31 (by omega) (by omega) ?_
      refine j_nm (fun v3_9 ev3_9 => ?_)
      refine j_istore_n (ls' := [(0, jR 0), (1, jI m), (2, jI v), (3, jI v3_9)]) dX8_doubt_32 rfl (by decide) rfl ?_
      refine j_aload_n 0 dX8_doubt_33 rfl rfl ?_
      refine j_getr f_X8_10 r_0_0 dX8_doubt_34 ?_
      refine j_getr f_X8_277 r_1_4 dX8_doubt_37 ?_
      refine j_iload_n 1 dX8_doubt_40 rfl rfl ?_
      refine j_iload_n 2 dX8_doubt_41 rfl rfl ?_
      refine j_iast a_5 dX8_doubt_42 (by omega) (by omega) ?_
      refine j_nmM (fun M_10 eM_10 => ?_)
      refine j_iload_n 3 dX8_doubt_43 rfl rfl ?_
      refine j_iret rfl rfl rfl rfl dX8_doubt_44 ?_
      refine ⟨by unfold fDoubt; split <;> omega, ?_⟩
      first | (rw [if_neg (by omega)]; done) | (rw [if_pos (by omega), eM_10])
    · skip
      refine j_iconst dX8_doubt_21 (by decide) ?_
      refine j_iret rfl rfl rfl rfl dX8_doubt_22 ?_
      refine ⟨by unfold fDoubt; split <;> omega, ?_⟩
      first | (rw [if_neg (by omega)]; done) | (rw [if_pos (by omega), jup_zz])
abbrev q_X8_trace (M : jM)   : Int → jM → Prop := fun r N => r = M 0 9 ∧ N = M
set_option maxHeartbeats 4000000 in
set_option maxRecDepth 20000 in
theorem c_X8_trace {X : jX} (M : jM)    : jC yX8_trace D_X8_trace X FJ shJ [jR 0] M (jqL (q_X8_trace M)) := by
  refine jC_of (by decide) rfl (fun ad => Nat.le_of_ble_eq_true rfl) (by decide) ?_
  show jG D_X8_trace X FJ shJ 0 0 (jqL (q_X8_trace M)) 0 [(0, jR 0)] [] M
  refine j_aload_n 0 dX8_trace_0 rfl rfl ?_
  refine j_getl (k' := 9) f_X8_89 o_0_9 dX8_trace_1 rfl ?_
  refine j_lret rfl rfl rfl rfl dX8_trace_4 ?_
  exact ⟨rfl, rfl⟩
abbrev q_X8_clear (M : jM)   : Int → jM → Prop := fun r N => r = M 71 0 ∧ N = jup M 71 0 0
set_option maxHeartbeats 4000000 in
set_option maxRecDepth 20000 in
theorem c_X8_clear {X : jX} (M : jM)    : jC yX8_clear D_X8_clear X FJ shJ [jR 0] M (jqI (q_X8_clear M)) := by
  refine jC_of (by decide) rfl (fun ad => Nat.le_of_ble_eq_true rfl) (by decide) ?_
  show jG D_X8_clear X FJ shJ 0 0 (jqI (q_X8_clear M)) 0 [(0, jR 0)] [] M
  refine j_aload_n 0 dX8_clear_0 rfl rfl ?_
  refine j_getr f_X8_70 r_0_2 dX8_clear_1 ?_
  refine j_callVi l_X8_131 ⟨Nat.le_of_ble_eq_true rfl, Nat.le_of_ble_eq_true rfl⟩ ⟨rfl, rfl⟩ dX8_clear_4 ob_71 (c_X5_empty M) rfl rfl (Nat.le_of_ble_eq_true rfl) (fun r_1 M_2 h_3 => ?_)
  obtain ⟨er_1, eM_2⟩ := h_3
  refine j_iret rfl rfl rfl rfl dX8_clear_7 ?_
  exact ⟨by omega, eM_2⟩
abbrev q_X9_appeal (M : jM)  (i : Int) : Int → jM → Prop := fun r N => r = (if 0 ≤ i ∧ i < M 74 41 then (if M 105 i = 0 then -2 else fFell (M 105) (M 102) (M 103) i (M 74 41 - i).toNat) else -1) ∧ N 105 = (if 0 ≤ i ∧ i < M 74 41 ∧ ¬ M 105 i = 0 then fFall (M 105) (M 102) (M 103) i (M 74 41 - i).toNat else M 105) ∧ ∀ c, c ≠ 105 → N c = jup M 74 0 0 c
set_option maxHeartbeats 4000000 in
set_option maxRecDepth 20000 in
theorem c_X9_appeal {X : jX} (M : jM)  (i : Int) (h_rcases : 0 ≤ M 74 41 ∧ M 74 41 ≤ 20) : jC yX9_appeal D_X9_appeal X FJ shJ [jR 74, jI i] M (jqI (q_X9_appeal M i)) := by
  refine jC_of (by decide) rfl (fun ad => Nat.le_of_ble_eq_true rfl) (by decide) ?_
  show jG D_X9_appeal X FJ shJ 0 0 (jqI (q_X9_appeal M i)) 0 [(0, jR 74), (1, jI i)] [] M
  refine j_aload_n 0 dX9_appeal_0 rfl rfl ?_
  refine j_iconst dX9_appeal_1 (by decide) ?_
  refine j_puti (k' := 0) f_X9_124 o_74_0 dX9_appeal_2 rfl ?_
  refine j_nmM (fun M_1 eM_1 => ?_)
  refine j_iload_n 1 dX9_appeal_5 rfl rfl ?_
  refine j_iconst dX9_appeal_6 (by decide) ?_
  refine j_aload_n 0 dX9_appeal_7 rfl rfl ?_
  refine j_geti (k' := 41) f_X9_327 o_74_41 dX9_appeal_8 rfl ?_
  refine j_eq ((congrFun (congrFun eM_1 74) 41).trans (jup_ne (by decide))) ?_
  refine j_iconst dX9_appeal_11 (by decide) ?_
  refine j_isub dX9_appeal_12 (by omega) ?_
  refine j_callSi l_X9_137 ⟨Nat.le_of_ble_eq_true rfl, Nat.le_of_ble_eq_true rfl⟩ ⟨rfl, rfl⟩ dX9_appeal_13 (c_X9_in M_1 i 0 (((M 74 41) - 1))) rfl rfl (Nat.le_of_ble_eq_true rfl) (fun r_2 M_3 h_4 => ?_)
  obtain ⟨er_2, nh_4⟩ := h_4
  refine j_eqM nh_4 ?_
  clear nh_4
  refine j_if_ne (tgt := 21) dX9_appeal_16 (by decide) (fun c16_5 => ?_) (fun c16_5 => ?_)
  · skip
    refine j_aload_n 0 dX9_appeal_21 rfl rfl ?_
    refine j_getr f_X9_101 r_74_46 dX9_appeal_22 ?_
    refine j_iload_n 1 dX9_appeal_25 rfl rfl ?_
    refine j_zald a_105 dX9_appeal_26 (by omega) (by omega) ?_
    refine j_eq (congrFun ((congrFun eM_1 105).trans (jup_cell (by decide))) i) ?_
    refine j_if_ne (tgt := 33) dX9_appeal_27 (by decide) (fun c27_6 => ?_) (fun c27_6 => ?_)
    · skip
      refine j_iconst dX9_appeal_33 (by decide) ?_
      refine j_istore_n (ls' := [(0, jR 74), (1, jI i), (2, jI 0)]) dX9_appeal_34 rfl (by decide) rfl ?_
      refine j_iload_n 1 dX9_appeal_35 rfl rfl ?_
      refine j_istore_n (ls' := [(0, jR 74), (1, jI i), (2, jI 0), (3, jI i)]) dX9_appeal_36 rfl (by decide) rfl ?_
      have lp37_7 : ∀ n37 : Nat, ∀ (v2 v3 : Int), ∀ N37 : jM, (i ≤ v3 ∧ v3 ≤ M 74 41) ∧ (v2 = fFell (M 105) (M 102) (M 103) i (v3 - i).toNat) ∧ (N37 105 = fFall (M 105) (M 102) (M 103) i (v3 - i).toNat) ∧ (∀ c, c ≠ 105 → N37 c = M_1 c) → (M 74 41 - v3).toNat < n37 → jG D_X9_appeal X FJ shJ 0 0 (jqI (q_X9_appeal M i)) 37 [(0, jR 74), (1, jI i), (2, jI v2), (3, jI v3)] ([]) N37 := by
        intro n37
        induction n37 with
        | zero => intro v2 v3 N37 _ hz; exact absurd hz (Nat.not_lt_zero _)
        | succ n37 ih37 =>
          intro v2 v3 N37 hinv hm
          obtain ⟨h1, h2, h3, hk⟩ := hinv
          have q2 := fFell_in (M 105) (M 102) (M 103) i (v3 - i).toNat
          rw [← h2] at q2
          have e9 : (v3 + 1 - i).toNat = (v3 - i).toNat + 1 := by omega
          have e8 : i + ((v3 - i).toNat : Int) = v3 := by omega
          have e7 : N37 105 v3 = M 105 v3 := by rw [h3]; exact fFall_ge (by omega)
          refine j_iload_n 3 dX9_appeal_37 rfl rfl ?_
          refine j_aload_n 0 dX9_appeal_38 rfl rfl ?_
          refine j_geti (k' := 41) f_X9_327 o_74_41 dX9_appeal_39 rfl ?_
          refine j_eq (Eq.trans (congrFun (hk 74 (by decide)) 41) ((congrFun (congrFun eM_1 74) 41).trans (jup_ne (by decide)))) ?_
          refine j_icmp_ge (tgt := 100) dX9_appeal_42 (by decide) (fun c42_8 => ?_) (fun c42_8 => ?_)
          · skip
            refine j_iload_n 2 dX9_appeal_100 rfl rfl ?_
            refine j_iret rfl rfl rfl rfl dX9_appeal_101 ?_
            have e6 : v3 = M 74 41 := by omega
            rw [e6] at h2 h3
            exact ⟨by rw [if_pos (by omega), if_neg (by omega)]; exact h2, by rw [if_pos (by omega)]; exact h3, fun c hc => by rw [hk c hc, eM_1]⟩
          · skip
            refine j_aload_n 0 dX9_appeal_45 rfl rfl ?_
            refine j_getr f_X9_101 r_74_46 dX9_appeal_46 ?_
            refine j_iload_n 3 dX9_appeal_49 rfl rfl ?_
            refine j_zald a_105 dX9_appeal_50 (by omega) (by omega) ?_
            refine j_if_eq (tgt := 94) dX9_appeal_51 (by decide) (fun c51_9 => ?_) (fun c51_9 => ?_)
            · skip
              obtain ⟨v3_10, ev3_10⟩ : ∃ y : Int, y = v3 + 1 := ⟨_, rfl⟩
              refine j_iinc (y := v3_10) (ls' := [(0, jR 74), (1, jI i), (2, jI v2), (3, jI v3_10)]) 3 dX9_appeal_94 rfl ev3_10 (by omega) (by decide) rfl ?_
              refine j_goto (tgt := 37) dX9_appeal_97 (by decide) ?_
              exact ih37 v2 v3_10 N37 ⟨by first | omega | grind, by rw [ev3_10, e9]; unfold fFell; rw [← h2, e8]; grind, by rw [ev3_10, e9]; funext z; simp only [fFall, ← h3, e8, jup_zz]; grind [jup], by intro c hc; first | exact hk c hc | (rw [jup_zz, jup_cell hc]; exact hk c hc)⟩ (by omega)
            · skip
              refine j_aload_n 0 dX9_appeal_54 rfl rfl ?_
              refine j_getr f_X9_92 r_74_43 dX9_appeal_55 ?_
              refine j_iload_n 3 dX9_appeal_58 rfl rfl ?_
              refine j_iald a_102 dX9_appeal_59 (by omega) (by omega) ?_
              refine j_eq (Eq.trans (congrFun (hk 102 (by decide)) v3) (congrFun ((congrFun eM_1 102).trans (jup_cell (by decide))) v3)) ?_
              refine j_aload_n 0 dX9_appeal_60 rfl rfl ?_
              refine j_getr f_X9_92 r_74_43 dX9_appeal_61 ?_
              refine j_iload_n 1 dX9_appeal_64 rfl rfl ?_
              refine j_iald a_102 dX9_appeal_65 (by omega) (by omega) ?_
              refine j_eq (Eq.trans (congrFun (hk 102 (by decide)) i) (congrFun ((congrFun eM_1 102).trans (jup_cell (by decide))) i)) ?_
              refine j_icmp_ne (tgt := 94) dX9_appeal_66 (by decide) (fun c66_11 => ?_) (fun c66_11 => ?_)
              · skip
                obtain ⟨v3_12, ev3_12⟩ : ∃ y : Int, y = v3 + 1 := ⟨_, rfl⟩
                refine j_iinc (y := v3_12) (ls' := [(0, jR 74), (1, jI i), (2, jI v2), (3, jI v3_12)]) 3 dX9_appeal_94 rfl ev3_12 (by omega) (by decide) rfl ?_
                refine j_goto (tgt := 37) dX9_appeal_97 (by decide) ?_
                exact ih37 v2 v3_12 N37 ⟨by first | omega | grind, by rw [ev3_12, e9]; unfold fFell; rw [← h2, e8]; grind, by rw [ev3_12, e9]; funext z; simp only [fFall, ← h3, e8, jup_zz]; grind [jup], by intro c hc; first | exact hk c hc | (rw [jup_zz, jup_cell hc]; exact hk c hc)⟩ (by omega)
              · skip
                refine j_aload_n 0 dX9_appeal_69 rfl rfl ?_
                refine j_getr f_X9_95 r_74_44 dX9_appeal_70 ?_
                refine j_iload_n 3 dX9_appeal_73 rfl rfl ?_
                refine j_iald a_103 dX9_appeal_74 (by omega) (by omega) ?_
                refine j_eq (Eq.trans (congrFun (hk 103 (by decide)) v3) (congrFun ((congrFun eM_1 103).trans (jup_cell (by decide))) v3)) ?_
                refine j_aload_n 0 dX9_appeal_75 rfl rfl ?_
                refine j_getr f_X9_95 r_74_44 dX9_appeal_76 ?_
                refine j_iload_n 1 dX9_appeal_79 rfl rfl ?_
                refine j_iald a_103 dX9_appeal_80 (by omega) (by omega) ?_
                refine j_eq (Eq.trans (congrFun (hk 103 (by decide)) i) (congrFun ((congrFun eM_1 103).trans (jup_cell (by decide))) i)) ?_
                refine j_icmp_ne (tgt := 94) dX9_appeal_81 (by decide) (fun c81_13 => ?_) (fun c81_13 => ?_)
                · skip
                  obtain ⟨v3_14, ev3_14⟩ : ∃ y : Int, y = v3 + 1 := ⟨_, rfl⟩
                  refine j_iinc (y := v3_14) (ls' := [(0, jR 74), (1, jI i), (2, jI v2), (3, jI v3_14)]) 3 dX9_appeal_94 rfl ev3_14 (by omega) (by decide) rfl ?_
                  refine j_goto (tgt := 37) dX9_appeal_97 (by decide) ?_
                  exact ih37 v2 v3_14 N37 ⟨by first | omega | grind, by rw [ev3_14, e9]; unfold fFell; rw [← h2, e8]; grind, by rw [ev3_14, e9]; funext z; simp only [fFall, ← h3, e8, jup_zz]; grind [jup], by intro c hc; first | exact hk c hc | (rw [jup_zz, jup_cell hc]; exact hk c hc)⟩ (by omega)
                · skip
                  refine j_aload_n 0 dX9_appeal_84 rfl rfl ?_
                  refine j_getr f_X9_101 r_74_46 dX9_appeal_85 ?_
                  refine j_iload_n 3 dX9_appeal_88 rfl rfl ?_
                  refine j_iconst dX9_appeal_89 (by decide) ?_
                  refine j_zast a_105 dX9_appeal_90 (by omega) (by omega) (by omega) ?_
                  refine j_nmM (fun M_15 eM_15 => ?_)
                  obtain ⟨v2_16, ev2_16⟩ : ∃ y : Int, y = v2 + 1 := ⟨_, rfl⟩
                  refine j_iinc (y := v2_16) (ls' := [(0, jR 74), (1, jI i), (2, jI v2_16), (3, jI v3)]) 2 dX9_appeal_91 rfl ev2_16 (by omega) (by decide) rfl ?_
                  obtain ⟨v3_17, ev3_17⟩ : ∃ y : Int, y = v3 + 1 := ⟨_, rfl⟩
                  refine j_iinc (y := v3_17) (ls' := [(0, jR 74), (1, jI i), (2, jI v2_16), (3, jI v3_17)]) 3 dX9_appeal_94 rfl ev3_17 (by omega) (by decide) rfl ?_
                  refine j_goto (tgt := 37) dX9_appeal_97 (by decide) ?_
                  exact ih37 v2_16 v3_17 M_15 ⟨by first | omega | grind, by rw [ev3_17, e9]; unfold fFell; rw [← h2, e8]; grind, by rw [ev3_17, e9]; funext z; simp only [fFall, ← h3, e8, eM_15]; grind [jup], by intro c hc; first | exact hk c hc | (rw [eM_15, jup_cell hc]; exact hk c hc)⟩ (by omega)
      exact lp37_7 _ 0 i M_1 ⟨by omega, by rw [show (i - i).toNat = 0 by omega]; rfl, by rw [show (i - i).toNat = 0 by omega, eM_1]; exact jup_cell (by decide), by intro c _; rfl⟩ (Nat.lt_succ_self _)
    · skip
      refine j_bipush dX9_appeal_30 (by decide) ?_
      refine j_iret rfl rfl rfl rfl dX9_appeal_32 ?_
      exact ⟨by (repeat' split) <;> omega, by rw [if_neg (by omega), eM_1]; exact jup_cell (by decide), fun c _ => by rw [eM_1]⟩
  · skip
    refine j_iconst dX9_appeal_19 (by decide) ?_
    refine j_iret rfl rfl rfl rfl dX9_appeal_20 ?_
    exact ⟨by (repeat' split) <;> omega, by rw [if_neg (by omega), eM_1]; exact jup_cell (by decide), fun c _ => by rw [eM_1]⟩
