abbrev q_X9_period (M : jM)  (i m n : Int) : Int → jM → Prop := fun r N => r = (if 0 ≤ i ∧ i ≤ 5 ∧ 15 ≤ m ∧ m ≤ 300 ∧ 0 ≤ n ∧ n ≤ 3 then 1 else -1) ∧ N = (if 0 ≤ i ∧ i ≤ 5 ∧ 15 ≤ m ∧ m ≤ 300 ∧ 0 ≤ n ∧ n ≤ 3 then jup (jup (jup M 74 0 0) 97 i m) 98 i n else jup M 74 0 0)
set_option maxHeartbeats 4000000 in
set_option maxRecDepth 20000 in
theorem c_X9_period {X : jX} (M : jM)  (i m n : Int)  : jC yX9_period D_X9_period X FJ shJ [jR 74, jI i, jI m, jI n] M (jqI (q_X9_period M i m n)) := by
  refine jC_of (by decide) rfl (fun ad => Nat.le_of_ble_eq_true rfl) (by decide) ?_
  show jG D_X9_period X FJ shJ 0 0 (jqI (q_X9_period M i m n)) 0 [(0, jR 74), (1, jI i), (2, jI m), (3, jI n)] [] M
  refine j_aload_n 0 dX9_period_0 rfl rfl ?_
  refine j_iconst dX9_period_1 (by decide) ?_
  refine j_puti (k' := 0) f_X9_124 o_74_0 dX9_period_2 rfl ?_
  refine j_nmM (fun M_1 eM_1 => ?_)
  refine j_iload_n 1 dX9_period_5 rfl rfl ?_
  refine j_iconst dX9_period_6 (by decide) ?_
  refine j_iconst dX9_period_7 (by decide) ?_
  refine j_callSi l_X9_137 ⟨Nat.le_of_ble_eq_true rfl, Nat.le_of_ble_eq_true rfl⟩ ⟨rfl, rfl⟩ dX9_period_8 (c_X9_in M_1 i 0 5) rfl rfl (Nat.le_of_ble_eq_true rfl) (fun r_2 M_3 h_4 => ?_)
  obtain ⟨er_2, nh_4⟩ := h_4
  refine j_eqM nh_4 ?_
  clear nh_4
  refine j_if_eq (tgt := 35) dX9_period_11 (by decide) (fun c11_5 => ?_) (fun c11_5 => ?_)
  · skip
    refine j_iconst dX9_period_35 (by decide) ?_
    refine j_iret rfl rfl rfl rfl dX9_period_36 ?_
    refine ⟨by split <;> omega, ?_⟩
    first | (rw [if_pos (by omega), eM_1]; done) | (rw [if_neg (by omega), eM_1])
  · skip
    refine j_iload_n 2 dX9_period_14 rfl rfl ?_
    refine j_bipush dX9_period_15 (by decide) ?_
    refine j_sipush dX9_period_17 (by decide) ?_
    refine j_callSi l_X9_137 ⟨Nat.le_of_ble_eq_true rfl, Nat.le_of_ble_eq_true rfl⟩ ⟨rfl, rfl⟩ dX9_period_20 (c_X9_in M_1 m 15 300) rfl rfl (Nat.le_of_ble_eq_true rfl) (fun r_6 M_7 h_8 => ?_)
    obtain ⟨er_6, nh_8⟩ := h_8
    refine j_eqM nh_8 ?_
    clear nh_8
    refine j_if_eq (tgt := 35) dX9_period_23 (by decide) (fun c23_9 => ?_) (fun c23_9 => ?_)
    · skip
      refine j_iconst dX9_period_35 (by decide) ?_
      refine j_iret rfl rfl rfl rfl dX9_period_36 ?_
      refine ⟨by split <;> omega, ?_⟩
      first | (rw [if_pos (by omega), eM_1]; done) | (rw [if_neg (by omega), eM_1])
    · skip
      refine j_iload_n 3 dX9_period_26 rfl rfl ?_
      refine j_iconst dX9_period_27 (by decide) ?_
      refine j_iconst dX9_period_28 (by decide) ?_
      refine j_callSi l_X9_137 ⟨Nat.le_of_ble_eq_true rfl, Nat.le_of_ble_eq_true rfl⟩ ⟨rfl, rfl⟩ dX9_period_29 (c_X9_in M_1 n 0 3) rfl rfl (Nat.le_of_ble_eq_true rfl) (fun r_10 M_11 h_12 => ?_)
      obtain ⟨er_10, nh_12⟩ := h_12
      refine j_eqM nh_12 ?_
      clear nh_12
      refine j_if_ne (tgt := 37) dX9_period_32 (by decide) (fun c32_13 => ?_) (fun c32_13 => ?_)
      · skip
        refine j_aload_n 0 dX9_period_37 rfl rfl ?_
        refine j_getr f_X9_77 r_74_36 dX9_period_38 ?_
        refine j_iload_n 1 dX9_period_41 rfl rfl ?_
        refine j_iload_n 2 dX9_period_42 rfl rfl ?_
        refine j_iast a_97 dX9_period_43 (by omega) (by omega) ?_
        refine j_nmM (fun M_14 eM_14 => ?_)
        refine j_aload_n 0 dX9_period_44 rfl rfl ?_
        refine j_getr f_X9_80 r_74_37 dX9_period_45 ?_
        refine j_iload_n 1 dX9_period_48 rfl rfl ?_
        refine j_iload_n 3 dX9_period_49 rfl rfl ?_
        refine j_iast a_98 dX9_period_50 (by omega) (by omega) ?_
        refine j_nmM (fun M_15 eM_15 => ?_)
        refine j_iconst dX9_period_51 (by decide) ?_
        refine j_iret rfl rfl rfl rfl dX9_period_52 ?_
        refine ⟨by split <;> omega, ?_⟩
        first | (rw [if_pos (by omega), eM_15, eM_14, eM_1]; done) | (rw [if_neg (by omega), eM_15, eM_14, eM_1])
      · skip
        refine j_iconst dX9_period_35 (by decide) ?_
        refine j_iret rfl rfl rfl rfl dX9_period_36 ?_
        refine ⟨by split <;> omega, ?_⟩
        first | (rw [if_pos (by omega), eM_1]; done) | (rw [if_neg (by omega), eM_1])
abbrev q_X9_bench (M : jM)  (k : Int) : Int → jM → Prop := fun r N => r = fBench (M 74 38) k ∧ N = (if 0 ≤ fBench (M 74 38) k then jup (jup (jup M 74 0 0) 99 (M 74 38) k) 74 38 (M 74 38 + 1) else jup M 74 0 0)
set_option maxHeartbeats 4000000 in
set_option maxRecDepth 20000 in
theorem c_X9_bench {X : jX} (M : jM)  (k : Int) (h_rbenches : 0 ≤ M 74 38 ∧ M 74 38 ≤ 5) : jC yX9_bench D_X9_bench X FJ shJ [jR 74, jI k] M (jqI (q_X9_bench M k)) := by
  refine jC_of (by decide) rfl (fun ad => Nat.le_of_ble_eq_true rfl) (by decide) ?_
  show jG D_X9_bench X FJ shJ 0 0 (jqI (q_X9_bench M k)) 0 [(0, jR 74), (1, jI k)] [] M
  refine j_aload_n 0 dX9_bench_0 rfl rfl ?_
  refine j_iconst dX9_bench_1 (by decide) ?_
  refine j_puti (k' := 0) f_X9_124 o_74_0 dX9_bench_2 rfl ?_
  refine j_nmM (fun M_1 eM_1 => ?_)
  refine j_iload_n 1 dX9_bench_5 rfl rfl ?_
  refine j_iconst dX9_bench_6 (by decide) ?_
  refine j_sipush dX9_bench_7 (by decide) ?_
  refine j_callSi l_X9_137 ⟨Nat.le_of_ble_eq_true rfl, Nat.le_of_ble_eq_true rfl⟩ ⟨rfl, rfl⟩ dX9_bench_10 (c_X9_in M_1 k 0 1023) rfl rfl (Nat.le_of_ble_eq_true rfl) (fun r_2 M_3 h_4 => ?_)
  obtain ⟨er_2, nh_4⟩ := h_4
  refine j_eqM nh_4 ?_
  clear nh_4
  refine j_if_ne (tgt := 18) dX9_bench_13 (by decide) (fun c13_5 => ?_) (fun c13_5 => ?_)
  · skip
    refine j_aload_n 0 dX9_bench_18 rfl rfl ?_
    refine j_geti (k' := 38) f_X9_324 o_74_38 dX9_bench_19 rfl ?_
    refine j_eq ((congrFun (congrFun eM_1 74) 38).trans (jup_ne (by decide))) ?_
    refine j_iconst dX9_bench_22 (by decide) ?_
    refine j_icmp_ne (tgt := 29) dX9_bench_23 (by decide) (fun c23_6 => ?_) (fun c23_6 => ?_)
    · skip
      refine j_aload_n 0 dX9_bench_29 rfl rfl ?_
      refine j_getr f_X9_83 r_74_39 dX9_bench_30 ?_
      refine j_aload_n 0 dX9_bench_33 rfl rfl ?_
      refine j_geti (k' := 38) f_X9_324 o_74_38 dX9_bench_34 rfl ?_
      refine j_eq ((congrFun (congrFun eM_1 74) 38).trans (jup_ne (by decide))) ?_
      refine j_iload_n 1 dX9_bench_37 rfl rfl ?_
      refine j_iast a_99 dX9_bench_38 (by omega) (by omega) ?_
      refine j_nmM (fun M_7 eM_7 => ?_)
      refine j_aload_n 0 dX9_bench_39 rfl rfl ?_
      refine j_dup dX9_bench_40 rfl ?_
      refine j_geti (k' := 38) f_X9_324 o_74_38 dX9_bench_41 rfl ?_
      refine j_eq (Eq.trans (congrFun ((congrFun eM_7 74).trans (jup_cell (by decide))) 38) ((congrFun (congrFun eM_1 74) 38).trans (jup_ne (by decide)))) ?_
      refine j_iconst dX9_bench_44 (by decide) ?_
      refine j_iadd dX9_bench_45 (by omega) ?_
      refine j_puti (k' := 38) f_X9_324 o_74_38 dX9_bench_46 rfl ?_
      refine j_nmM (fun M_8 eM_8 => ?_)
      refine j_aload_n 0 dX9_bench_49 rfl rfl ?_
      refine j_geti (k' := 38) f_X9_324 o_74_38 dX9_bench_50 rfl ?_
      refine j_eq ((congrFun (congrFun eM_8 74) 38).trans (jup_self _ _ _ _)) ?_
      refine j_iconst dX9_bench_53 (by decide) ?_
      refine j_isub dX9_bench_54 (by omega) ?_
      refine j_iret rfl rfl rfl rfl dX9_bench_55 ?_
      have hr : (((M 74 38) + 1) - 1) = fBench (M 74 38) k := by (unfold fBench; (repeat' split) <;> first | omega | grind)
      refine ⟨hr, ?_⟩
      rw [← hr]
      first | (rw [if_pos (by omega), eM_8, eM_7, eM_1]; done) | (rw [if_neg (by omega), eM_8, eM_7, eM_1]; done) | (rw [if_pos (by omega), eM_8, eM_7, eM_1, jup_zz])
    · skip
      refine j_bipush dX9_bench_26 (by decide) ?_
      refine j_iret rfl rfl rfl rfl dX9_bench_28 ?_
      have hr : (-3) = fBench (M 74 38) k := by (unfold fBench; (repeat' split) <;> first | omega | grind)
      refine ⟨hr, ?_⟩
      rw [← hr]
      first | (rw [if_pos (by omega), eM_1]; done) | (rw [if_neg (by omega), eM_1]; done) | (rw [if_pos (by omega), eM_1, jup_zz])
  · skip
    refine j_iconst dX9_bench_16 (by decide) ?_
    refine j_iret rfl rfl rfl rfl dX9_bench_17 ?_
    have hr : (-1) = fBench (M 74 38) k := by (unfold fBench; (repeat' split) <;> first | omega | grind)
    refine ⟨hr, ?_⟩
    rw [← hr]
    first | (rw [if_pos (by omega), eM_1]; done) | (rw [if_neg (by omega), eM_1]; done) | (rw [if_pos (by omega), eM_1, jup_zz])
abbrev q_X9_base (M : jM)  (o v : Int) : Int → jM → Prop := fun r N => r = fBase (M 100) o v ∧ N = (if 0 ≤ o ∧ o ≤ 5 ∧ 0 ≤ v ∧ v ≤ 500 then jup (jup M 74 0 0) 100 o v else jup M 74 0 0)
set_option maxHeartbeats 4000000 in
set_option maxRecDepth 20000 in
theorem c_X9_base {X : jX} (M : jM)  (o v : Int)  : jC yX9_base D_X9_base X FJ shJ [jR 74, jI o, jI v] M (jqI (q_X9_base M o v)) := by
  refine jC_of (by decide) rfl (fun ad => Nat.le_of_ble_eq_true rfl) (by decide) ?_
  show jG D_X9_base X FJ shJ 0 0 (jqI (q_X9_base M o v)) 0 [(0, jR 74), (1, jI o), (2, jI v)] [] M
  refine j_aload_n 0 dX9_base_0 rfl rfl ?_
  refine j_iconst dX9_base_1 (by decide) ?_
  refine j_puti (k' := 0) f_X9_124 o_74_0 dX9_base_2 rfl ?_
  refine j_nmM (fun M_1 eM_1 => ?_)
  refine j_iload_n 1 dX9_base_5 rfl rfl ?_
  refine j_iconst dX9_base_6 (by decide) ?_
  refine j_iconst dX9_base_7 (by decide) ?_
  refine j_callSi l_X9_137 ⟨Nat.le_of_ble_eq_true rfl, Nat.le_of_ble_eq_true rfl⟩ ⟨rfl, rfl⟩ dX9_base_8 (c_X9_in M_1 o 0 5) rfl rfl (Nat.le_of_ble_eq_true rfl) (fun r_2 M_3 h_4 => ?_)
  obtain ⟨er_2, nh_4⟩ := h_4
  refine j_eqM nh_4 ?_
  clear nh_4
  refine j_if_eq (tgt := 25) dX9_base_11 (by decide) (fun c11_5 => ?_) (fun c11_5 => ?_)
  · skip
    refine j_iconst dX9_base_25 (by decide) ?_
    refine j_iret rfl rfl rfl rfl dX9_base_26 ?_
    refine ⟨by unfold fBase; split <;> omega, ?_⟩
    first | (rw [if_pos (by omega), eM_1]; done) | (rw [if_neg (by omega), eM_1])
  · skip
    refine j_iload_n 2 dX9_base_14 rfl rfl ?_
    refine j_iconst dX9_base_15 (by decide) ?_
    refine j_sipush dX9_base_16 (by decide) ?_
    refine j_callSi l_X9_137 ⟨Nat.le_of_ble_eq_true rfl, Nat.le_of_ble_eq_true rfl⟩ ⟨rfl, rfl⟩ dX9_base_19 (c_X9_in M_1 v 0 500) rfl rfl (Nat.le_of_ble_eq_true rfl) (fun r_6 M_7 h_8 => ?_)
    obtain ⟨er_6, nh_8⟩ := h_8
    refine j_eqM nh_8 ?_
    clear nh_8
    refine j_if_ne (tgt := 27) dX9_base_22 (by decide) (fun c22_9 => ?_) (fun c22_9 => ?_)
    · skip
      refine j_aload_n 0 dX9_base_27 rfl rfl ?_
      refine j_getr f_X9_86 r_74_40 dX9_base_28 ?_
      refine j_iload_n 1 dX9_base_31 rfl rfl ?_
      refine j_iald a_100 dX9_base_32 (by omega) (by omega) ?_
      refine j_eq (congrFun ((congrFun eM_1 100).trans (jup_cell (by decide))) o) ?_
      refine j_nm (fun v3_10 ev3_10 => ?_)
      refine j_istore_n (ls' := [(0, jR 74), (1, jI o), (2, jI v), (3, jI v3_10)]) dX9_base_33 rfl (by decide) rfl ?_
      refine j_aload_n 0 dX9_base_34 rfl rfl ?_
      refine j_getr f_X9_86 r_74_40 dX9_base_35 ?_
      refine j_iload_n 1 dX9_base_38 rfl rfl ?_
      refine j_iload_n 2 dX9_base_39 rfl rfl ?_
      refine j_iast a_100 dX9_base_40 (by omega) (by omega) ?_
      refine j_nmM (fun M_11 eM_11 => ?_)
      refine j_iload_n 3 dX9_base_41 rfl rfl ?_
      refine j_iret rfl rfl rfl rfl dX9_base_42 ?_
      refine ⟨by unfold fBase; split <;> omega, ?_⟩
      first | (rw [if_pos (by omega), eM_11, eM_1]; done) | (rw [if_neg (by omega), eM_11, eM_1])
    · skip
      refine j_iconst dX9_base_25 (by decide) ?_
      refine j_iret rfl rfl rfl rfl dX9_base_26 ?_
      refine ⟨by unfold fBase; split <;> omega, ?_⟩
      first | (rw [if_pos (by omega), eM_1]; done) | (rw [if_neg (by omega), eM_1])
abbrev q_X9_fineOf (M : jM)  (i : Int) : Int → jM → Prop := fun r N => r = fFine (M 105) (M 101) (M 103) (M 100) i ∧ N = M
set_option maxHeartbeats 4000000 in
set_option maxRecDepth 20000 in
theorem c_X9_fineOf {X : jX} (M : jM)  (i : Int) (h_rbase : ∀ i, 0 ≤ M 100 i ∧ M 100 i ≤ 500) (h_rcof : ∀ i, 0 ≤ M 103 i ∧ M 103 i ≤ 5) (h_rstands : ∀ i, 0 ≤ M 105 i ∧ M 105 i ≤ 1) (h0 : 0 ≤ i ∧ i < 20) : jC yX9_fineOf D_X9_fineOf X FJ shJ [jR 74, jI i] M (jqI (q_X9_fineOf M i)) := by
  refine jC_of (by decide) rfl (fun ad => Nat.le_of_ble_eq_true rfl) (by decide) ?_
  show jG D_X9_fineOf X FJ shJ 0 0 (jqI (q_X9_fineOf M i)) 0 [(0, jR 74), (1, jI i)] [] M
  have x1 := h_rcof i
  have x2 := h_rbase (M 103 i)
  refine j_iconst dX9_fineOf_0 (by decide) ?_
  refine j_istore_n (ls' := [(0, jR 74), (1, jI i), (2, jI 1)]) dX9_fineOf_1 rfl (by decide) rfl ?_
  refine j_iconst dX9_fineOf_2 (by decide) ?_
  refine j_istore_n (ls' := [(0, jR 74), (1, jI i), (2, jI 1), (3, jI 0)]) dX9_fineOf_3 rfl (by decide) rfl ?_
  have lp4_1 : ∀ n4 : Nat, ∀ (v2 v3 : Int), (0 ≤ v3 ∧ v3 ≤ i) ∧ (v2 = fAheadN (M 105) (M 101) (M 101 i) v3.toNat) → (i - v3).toNat < n4 → jG D_X9_fineOf X FJ shJ 0 0 (jqI (q_X9_fineOf M i)) 4 [(0, jR 74), (1, jI i), (2, jI v2), (3, jI v3)] ([]) M := by
    intro n4
    induction n4 with
    | zero => intro v2 v3  _ hz; exact absurd hz (Nat.not_lt_zero _)
    | succ n4 ih4 =>
      intro v2 v3  hinv hm
      obtain ⟨h1, h2⟩ := hinv
      have q2 := fAheadN_in (M 105) (M 101) (M 101 i) v3.toNat
      rw [← h2] at q2
      refine j_iload_n 3 dX9_fineOf_4 rfl rfl ?_
      refine j_iload_n 1 dX9_fineOf_5 rfl rfl ?_
      refine j_icmp_ge (tgt := 47) dX9_fineOf_6 (by decide) (fun c6_2 => ?_) (fun c6_2 => ?_)
      · skip
        refine j_aload_n 0 dX9_fineOf_47 rfl rfl ?_
        refine j_getr f_X9_101 r_74_46 dX9_fineOf_48 ?_
        refine j_iload_n 1 dX9_fineOf_51 rfl rfl ?_
        refine j_zald a_105 dX9_fineOf_52 (by omega) (by omega) ?_
        have g_3 := h_rstands i
        have hJ_4 : ∀ zz : Int, ((M 105 i) = 0 ∧ zz = 0) ∨ (¬ (M 105 i) = 0 ∧ zz = ((M 100 (M 103 i)) * v2)) → jG D_X9_fineOf X FJ shJ 0 0 (jqI (q_X9_fineOf M i)) 73 [(0, jR 74), (1, jI i), (2, jI v2), (3, jI v3)] (jI zz :: []) M := by
          intro t_5 et_5
          refine j_iret rfl rfl rfl rfl dX9_fineOf_73 ?_
          have e6 : v3 = i := by omega
          rw [e6] at h2
          exact ⟨by unfold fFine; rw [← h2]; split <;> first | omega | grind, rfl⟩
        refine j_if_eq (tgt := 72) dX9_fineOf_53 (by decide) (fun c53_6 => ?_) (fun c53_6 => ?_)
        · skip
          refine j_iconst dX9_fineOf_72 (by decide) ?_
          exact hJ_4 _ (Or.inl ⟨c53_6, rfl⟩)
        · skip
          refine j_aload_n 0 dX9_fineOf_56 rfl rfl ?_
          refine j_getr f_X9_86 r_74_40 dX9_fineOf_57 ?_
          refine j_aload_n 0 dX9_fineOf_60 rfl rfl ?_
          refine j_getr f_X9_95 r_74_44 dX9_fineOf_61 ?_
          refine j_iload_n 1 dX9_fineOf_64 rfl rfl ?_
          refine j_iald a_103 dX9_fineOf_65 (by omega) (by omega) ?_
          have g_7 := h_rcof i
          refine j_iald a_100 dX9_fineOf_66 (by omega) (by omega) ?_
          have g_8 := h_rbase (M 103 i)
          refine j_iload_n 2 dX9_fineOf_67 rfl rfl ?_
          refine j_imul dX9_fineOf_68 (by have := mul_in (h_rbase (M 103 i)) (show 0 ≤ v2 ∧ v2 ≤ 21 by omega); omega) ?_
          refine j_goto (tgt := 73) dX9_fineOf_69 (by decide) ?_
          exact hJ_4 _ (Or.inr (⟨c53_6, rfl⟩))
      · skip
        refine j_iload_n 2 dX9_fineOf_9 rfl rfl ?_
        refine j_aload_n 0 dX9_fineOf_10 rfl rfl ?_
        refine j_getr f_X9_101 r_74_46 dX9_fineOf_11 ?_
        refine j_iload_n 3 dX9_fineOf_14 rfl rfl ?_
        refine j_zald a_105 dX9_fineOf_15 (by omega) (by omega) ?_
        have g_9 := h_rstands v3
        have hJ_10 : ∀ zz : Int, ((M 105 v3) = 0 ∧ zz = 0) ∨ (¬ (M 105 v3) = 0 ∧ ¬ (M 101 v3) = (M 101 i) ∧ zz = 0) ∨ (¬ (M 105 v3) = 0 ∧ (M 101 v3) = (M 101 i) ∧ zz = 1) → jG D_X9_fineOf X FJ shJ 0 0 (jqI (q_X9_fineOf M i)) 39 [(0, jR 74), (1, jI i), (2, jI v2), (3, jI v3)] (jI zz :: jI v2 :: []) M := by
          intro t_11 et_11
          refine j_iadd dX9_fineOf_39 (by omega) ?_
          refine j_nm (fun v2_12 ev2_12 => ?_)
          refine j_istore_n (ls' := [(0, jR 74), (1, jI i), (2, jI v2_12), (3, jI v3)]) dX9_fineOf_40 rfl (by decide) rfl ?_
          obtain ⟨v3_13, ev3_13⟩ : ∃ y : Int, y = v3 + 1 := ⟨_, rfl⟩
          refine j_iinc (y := v3_13) (ls' := [(0, jR 74), (1, jI i), (2, jI v2_12), (3, jI v3_13)]) 3 dX9_fineOf_41 rfl ev3_13 (by omega) (by decide) rfl ?_
          refine j_goto (tgt := 4) dX9_fineOf_44 (by decide) ?_
          exact ih4 v2_12 v3_13 ⟨by first | omega | grind, by rw [ev3_13, toNat_s h1.1]; unfold fAheadN; rw [← h2, toNat_c h1.1]; grind⟩ (by omega)
        refine j_if_eq (tgt := 38) dX9_fineOf_16 (by decide) (fun c16_14 => ?_) (fun c16_14 => ?_)
        · skip
          refine j_iconst dX9_fineOf_38 (by decide) ?_
          exact hJ_10 _ (Or.inl ⟨c16_14, rfl⟩)
        · skip
          refine j_aload_n 0 dX9_fineOf_19 rfl rfl ?_
          refine j_getr f_X9_89 r_74_42 dX9_fineOf_20 ?_
          refine j_iload_n 3 dX9_fineOf_23 rfl rfl ?_
          refine j_iald a_101 dX9_fineOf_24 (by omega) (by omega) ?_
          refine j_aload_n 0 dX9_fineOf_25 rfl rfl ?_
          refine j_getr f_X9_89 r_74_42 dX9_fineOf_26 ?_
          refine j_iload_n 1 dX9_fineOf_29 rfl rfl ?_
          refine j_iald a_101 dX9_fineOf_30 (by omega) (by omega) ?_
          refine j_icmp_ne (tgt := 38) dX9_fineOf_31 (by decide) (fun c31_15 => ?_) (fun c31_15 => ?_)
          · skip
            refine j_iconst dX9_fineOf_38 (by decide) ?_
            exact hJ_10 _ (Or.inr (Or.inl ⟨c16_14, c31_15, rfl⟩))
          · skip
            refine j_iconst dX9_fineOf_34 (by decide) ?_
            refine j_goto (tgt := 39) dX9_fineOf_35 (by decide) ?_
            exact hJ_10 _ (Or.inr (Or.inr (⟨c16_14, c31_15, rfl⟩)))
  exact lp4_1 _ 1 0 ⟨by first | omega | rfl, by first | omega | rfl⟩ (Nat.lt_succ_self _)
abbrev q_X9_suit (M : jM)  (i w : Int) : Int → jM → Prop := fun r N => r = fSuit (M 74 41) (M 105) (M 101) (M 103) (M 104) (M 100) i w ∧ N = jup M 74 0 0
set_option maxHeartbeats 4000000 in
set_option maxRecDepth 20000 in
theorem c_X9_suit {X : jX} (M : jM)  (i w : Int) (h_rcases : 0 ≤ M 74 41 ∧ M 74 41 ≤ 20) (h_rbase : ∀ i, 0 ≤ M 100 i ∧ M 100 i ≤ 500) (h_rcof : ∀ i, 0 ≤ M 103 i ∧ M 103 i ≤ 5) (h_rstands : ∀ i, 0 ≤ M 105 i ∧ M 105 i ≤ 1) : jC yX9_suit D_X9_suit X FJ shJ [jR 74, jI i, jI w] M (jqI (q_X9_suit M i w)) := by
  refine jC_of (by decide) rfl (fun ad => Nat.le_of_ble_eq_true rfl) (by decide) ?_
  show jG D_X9_suit X FJ shJ 0 0 (jqI (q_X9_suit M i w)) 0 [(0, jR 74), (1, jI i), (2, jI w)] [] M
  refine j_aload_n 0 dX9_suit_0 rfl rfl ?_
  refine j_iconst dX9_suit_1 (by decide) ?_
  refine j_puti (k' := 0) f_X9_124 o_74_0 dX9_suit_2 rfl ?_
  refine j_nmM (fun M_1 eM_1 => ?_)
  refine j_iload_n 1 dX9_suit_5 rfl rfl ?_
  refine j_iconst dX9_suit_6 (by decide) ?_
  refine j_aload_n 0 dX9_suit_7 rfl rfl ?_
  refine j_geti (k' := 41) f_X9_327 o_74_41 dX9_suit_8 rfl ?_
  refine j_eq ((congrFun (congrFun eM_1 74) 41).trans (jup_ne (by decide))) ?_
  refine j_iconst dX9_suit_11 (by decide) ?_
  refine j_isub dX9_suit_12 (by omega) ?_
  refine j_callSi l_X9_137 ⟨Nat.le_of_ble_eq_true rfl, Nat.le_of_ble_eq_true rfl⟩ ⟨rfl, rfl⟩ dX9_suit_13 (c_X9_in M_1 i 0 (((M 74 41) - 1))) rfl rfl (Nat.le_of_ble_eq_true rfl) (fun r_2 M_3 h_4 => ?_)
  obtain ⟨er_2, nh_4⟩ := h_4
  refine j_eqM nh_4 ?_
  clear nh_4
  refine j_if_eq (tgt := 28) dX9_suit_16 (by decide) (fun c16_5 => ?_) (fun c16_5 => ?_)
  · skip
    refine j_iconst dX9_suit_28 (by decide) ?_
    refine j_iret rfl rfl rfl rfl dX9_suit_29 ?_
    exact ⟨by unfold fSuit; (repeat' split) <;> first | omega | grind, by rw [eM_1]⟩
  · skip
    refine j_iload_n 2 dX9_suit_19 rfl rfl ?_
    refine j_iconst dX9_suit_20 (by decide) ?_
    refine j_iconst dX9_suit_21 (by decide) ?_
    refine j_callSi l_X9_137 ⟨Nat.le_of_ble_eq_true rfl, Nat.le_of_ble_eq_true rfl⟩ ⟨rfl, rfl⟩ dX9_suit_22 (c_X9_in M_1 w 0 4) rfl rfl (Nat.le_of_ble_eq_true rfl) (fun r_6 M_7 h_8 => ?_)
    obtain ⟨er_6, nh_8⟩ := h_8
    refine j_eqM nh_8 ?_
    clear nh_8
    refine j_if_ne (tgt := 30) dX9_suit_25 (by decide) (fun c25_9 => ?_) (fun c25_9 => ?_)
    · skip
      refine j_iload_n 2 dX9_suit_30 rfl rfl ?_
      refine j_if_ne (tgt := 43) dX9_suit_31 (by decide) (fun c31_10 => ?_) (fun c31_10 => ?_)
      · skip
        refine j_iload_n 2 dX9_suit_43 rfl rfl ?_
        refine j_iconst dX9_suit_44 (by decide) ?_
        refine j_icmp_ne (tgt := 56) dX9_suit_45 (by decide) (fun c45_11 => ?_) (fun c45_11 => ?_)
        · skip
          refine j_iload_n 2 dX9_suit_56 rfl rfl ?_
          refine j_iconst dX9_suit_57 (by decide) ?_
          have hJ_12 : ∀ zz : Int, (¬ w = 2 ∧ ¬ w = 3 ∧ zz = (M 103 i)) ∨ (¬ w = 2 ∧ w = 3 ∧ zz = (M 101 i)) ∨ (w = 2 ∧ (M 105 i) = 0 ∧ zz = 0) ∨ (w = 2 ∧ ¬ (M 105 i) = 0 ∧ zz = 1) → jG D_X9_suit X FJ shJ 0 0 (jqI (q_X9_suit M i w)) 98 [(0, jR 74), (1, jI i), (2, jI w)] (jI zz :: []) M_1 := by
            intro t_13 et_13
            refine j_iret rfl rfl rfl rfl dX9_suit_98 ?_
            exact ⟨by unfold fSuit; (repeat' split) <;> first | omega | grind, by rw [eM_1]⟩
          refine j_icmp_ne (tgt := 78) dX9_suit_58 (by decide) (fun c58_14 => ?_) (fun c58_14 => ?_)
          · skip
            refine j_iload_n 2 dX9_suit_78 rfl rfl ?_
            refine j_iconst dX9_suit_79 (by decide) ?_
            refine j_icmp_ne (tgt := 92) dX9_suit_80 (by decide) (fun c80_15 => ?_) (fun c80_15 => ?_)
            · skip
              refine j_aload_n 0 dX9_suit_92 rfl rfl ?_
              refine j_getr f_X9_95 r_74_44 dX9_suit_93 ?_
              refine j_iload_n 1 dX9_suit_96 rfl rfl ?_
              refine j_iald a_103 dX9_suit_97 (by omega) (by omega) ?_
              refine j_eq (congrFun ((congrFun eM_1 103).trans (jup_cell (by decide))) i) ?_
              have g_16 := h_rcof i
              exact hJ_12 _ (Or.inl ⟨c58_14, c80_15, rfl⟩)
            · skip
              refine j_aload_n 0 dX9_suit_83 rfl rfl ?_
              refine j_getr f_X9_89 r_74_42 dX9_suit_84 ?_
              refine j_iload_n 1 dX9_suit_87 rfl rfl ?_
              refine j_iald a_101 dX9_suit_88 (by omega) (by omega) ?_
              refine j_eq (congrFun ((congrFun eM_1 101).trans (jup_cell (by decide))) i) ?_
              refine j_goto (tgt := 98) dX9_suit_89 (by decide) ?_
              exact hJ_12 _ (Or.inr (Or.inl ⟨c58_14, c80_15, rfl⟩))
          · skip
            refine j_aload_n 0 dX9_suit_61 rfl rfl ?_
            refine j_getr f_X9_101 r_74_46 dX9_suit_62 ?_
            refine j_iload_n 1 dX9_suit_65 rfl rfl ?_
            refine j_zald a_105 dX9_suit_66 (by omega) (by omega) ?_
            refine j_eq (congrFun ((congrFun eM_1 105).trans (jup_cell (by decide))) i) ?_
            have g_17 := h_rstands i
            refine j_if_eq (tgt := 74) dX9_suit_67 (by decide) (fun c67_18 => ?_) (fun c67_18 => ?_)
            · skip
              refine j_iconst dX9_suit_74 (by decide) ?_
              refine j_goto (tgt := 98) dX9_suit_75 (by decide) ?_
              exact hJ_12 _ (Or.inr (Or.inr (Or.inl ⟨c58_14, c67_18, rfl⟩)))
            · skip
              refine j_iconst dX9_suit_70 (by decide) ?_
              refine j_goto (tgt := 98) dX9_suit_71 (by decide) ?_
              exact hJ_12 _ (Or.inr (Or.inr (Or.inr (⟨c58_14, c67_18, rfl⟩))))
        · skip
          refine j_aload_n 0 dX9_suit_48 rfl rfl ?_
          refine j_iload_n 1 dX9_suit_49 rfl rfl ?_
          refine j_callVi l_X9_330 ⟨Nat.le_of_ble_eq_true rfl, Nat.le_of_ble_eq_true rfl⟩ ⟨rfl, rfl⟩ dX9_suit_50 ob_74 (c_X9_fineOf M_1 i (by rw [((congrFun eM_1 100).trans (jup_cell (by decide)))]; exact h_rbase) (by rw [((congrFun eM_1 103).trans (jup_cell (by decide)))]; exact h_rcof) (by rw [((congrFun eM_1 105).trans (jup_cell (by decide)))]; exact h_rstands) (by first | assumption | omega)) rfl rfl (Nat.le_of_ble_eq_true rfl) (fun r_19 M_20 h_21 => ?_)
          obtain ⟨er_19, nh_21⟩ := h_21
          refine j_eqM nh_21 ?_
          clear nh_21
          simp only [((congrFun eM_1 105).trans (jup_cell (by decide))), ((congrFun eM_1 101).trans (jup_cell (by decide))), ((congrFun eM_1 103).trans (jup_cell (by decide))), ((congrFun eM_1 100).trans (jup_cell (by decide)))] at er_19
          refine j_goto (tgt := 98) dX9_suit_53 (by decide) ?_
          refine j_iret rfl rfl rfl rfl dX9_suit_98 ?_
          exact ⟨by unfold fSuit; (repeat' split) <;> first | omega | grind, by rw [eM_1]⟩
      · skip
        refine j_aload_n 0 dX9_suit_34 rfl rfl ?_
        refine j_getr f_X9_98 r_74_45 dX9_suit_35 ?_
        refine j_iload_n 1 dX9_suit_38 rfl rfl ?_
        refine j_iald a_104 dX9_suit_39 (by omega) (by omega) ?_
        refine j_eq (congrFun ((congrFun eM_1 104).trans (jup_cell (by decide))) i) ?_
        refine j_goto (tgt := 98) dX9_suit_40 (by decide) ?_
        refine j_iret rfl rfl rfl rfl dX9_suit_98 ?_
        exact ⟨by unfold fSuit; (repeat' split) <;> first | omega | grind, by rw [eM_1]⟩
    · skip
      refine j_iconst dX9_suit_28 (by decide) ?_
      refine j_iret rfl rfl rfl rfl dX9_suit_29 ?_
      exact ⟨by unfold fSuit; (repeat' split) <;> first | omega | grind, by rw [eM_1]⟩
abbrev q_X9_fines (M : jM)  (m : Int) : Int → jM → Prop := fun r N => r = (if m = -9 ∨ (0 ≤ m ∧ m < M 74 3) then fFines (M 105) (M 101) (M 103) (M 100) m (M 74 41).toNat else -1) ∧ N = jup M 74 0 0
set_option maxHeartbeats 4000000 in
set_option maxRecDepth 20000 in
theorem c_X9_fines {X : jX} (M : jM)  (m : Int) (h_rcases : 0 ≤ M 74 41 ∧ M 74 41 ≤ 20) (h_rmills : 0 ≤ M 74 3 ∧ M 74 3 ≤ 6) (h_rbase : ∀ i, 0 ≤ M 100 i ∧ M 100 i ≤ 500) (h_rcof : ∀ i, 0 ≤ M 103 i ∧ M 103 i ≤ 5) (h_rstands : ∀ i, 0 ≤ M 105 i ∧ M 105 i ≤ 1) : jC yX9_fines D_X9_fines X FJ shJ [jR 74, jI m] M (jqI (q_X9_fines M m)) := by
  refine jC_of (by decide) rfl (fun ad => Nat.le_of_ble_eq_true rfl) (by decide) ?_
  show jG D_X9_fines X FJ shJ 0 0 (jqI (q_X9_fines M m)) 0 [(0, jR 74), (1, jI m)] [] M
  refine j_aload_n 0 dX9_fines_0 rfl rfl ?_
  refine j_iconst dX9_fines_1 (by decide) ?_
  refine j_puti (k' := 0) f_X9_124 o_74_0 dX9_fines_2 rfl ?_
  refine j_nmM (fun M_1 eM_1 => ?_)
  refine j_iload_n 1 dX9_fines_5 rfl rfl ?_
  refine j_bipush dX9_fines_6 (by decide) ?_
  refine j_icmp_eq (tgt := 21) dX9_fines_8 (by decide) (fun c8_2 => ?_) (fun c8_2 => ?_)
  · skip
    refine j_iconst dX9_fines_21 (by decide) ?_
    refine j_istore_n (ls' := [(0, jR 74), (1, jI m), (2, jI 0)]) dX9_fines_22 rfl (by decide) rfl ?_
    refine j_iconst dX9_fines_23 (by decide) ?_
    refine j_istore_n (ls' := [(0, jR 74), (1, jI m), (2, jI 0), (3, jI 0)]) dX9_fines_24 rfl (by decide) rfl ?_
    have lp25_3 : ∀ n25 : Nat, ∀ (v2 v3 : Int), (0 ≤ v3 ∧ v3 ≤ M 74 41) ∧ (v2 = fFines (M 105) (M 101) (M 103) (M 100) m v3.toNat) → (M 74 41 - v3).toNat < n25 → jG D_X9_fines X FJ shJ 0 0 (jqI (q_X9_fines M m)) 25 [(0, jR 74), (1, jI m), (2, jI v2), (3, jI v3)] ([]) M_1 := by
      intro n25
      induction n25 with
      | zero => intro v2 v3  _ hz; exact absurd hz (Nat.not_lt_zero _)
      | succ n25 ih25 =>
        intro v2 v3  hinv hm
        obtain ⟨h1, h2⟩ := hinv
        have q2 := fFines_in (sd := M 105) (cm := M 101) (co := M 103) h_rbase m v3.toNat (by omega)
        rw [← h2] at q2
        have q3 := fun z0 z1 => fFine_in (sd := M 105) (cm := M 101) (co := M 103) h_rbase (i := v3) z0 z1
        refine j_iload_n 3 dX9_fines_25 rfl rfl ?_
        refine j_aload_n 0 dX9_fines_26 rfl rfl ?_
        refine j_geti (k' := 41) f_X9_327 o_74_41 dX9_fines_27 rfl ?_
        refine j_eq ((congrFun (congrFun eM_1 74) 41).trans (jup_ne (by decide))) ?_
        refine j_icmp_ge (tgt := 67) dX9_fines_30 (by decide) (fun c30_4 => ?_) (fun c30_4 => ?_)
        · skip
          refine j_iload_n 2 dX9_fines_67 rfl rfl ?_
          refine j_iret rfl rfl rfl rfl dX9_fines_68 ?_
          have e6 : v3 = M 74 41 := by omega
          rw [e6] at h2
          exact ⟨by rw [if_pos (by omega)]; exact h2, by rw [eM_1]⟩
        · skip
          refine j_iload_n 2 dX9_fines_33 rfl rfl ?_
          refine j_iload_n 1 dX9_fines_34 rfl rfl ?_
          refine j_bipush dX9_fines_35 (by decide) ?_
          refine j_icmp_eq (tgt := 50) dX9_fines_37 (by decide) (fun c37_5 => ?_) (fun c37_5 => ?_)
          · skip
            refine j_aload_n 0 dX9_fines_50 rfl rfl ?_
            refine j_iload_n 3 dX9_fines_51 rfl rfl ?_
            refine j_callVi l_X9_330 ⟨Nat.le_of_ble_eq_true rfl, Nat.le_of_ble_eq_true rfl⟩ ⟨rfl, rfl⟩ dX9_fines_52 ob_74 (c_X9_fineOf M_1 v3 (by rw [((congrFun eM_1 100).trans (jup_cell (by decide)))]; exact h_rbase) (by rw [((congrFun eM_1 103).trans (jup_cell (by decide)))]; exact h_rcof) (by rw [((congrFun eM_1 105).trans (jup_cell (by decide)))]; exact h_rstands) (by first | assumption | omega)) rfl rfl (Nat.le_of_ble_eq_true rfl) (fun r_6 M_7 h_8 => ?_)
            obtain ⟨er_6, nh_8⟩ := h_8
            refine j_eqM nh_8 ?_
            clear nh_8
            simp only [((congrFun eM_1 105).trans (jup_cell (by decide))), ((congrFun eM_1 101).trans (jup_cell (by decide))), ((congrFun eM_1 103).trans (jup_cell (by decide))), ((congrFun eM_1 100).trans (jup_cell (by decide)))] at er_6
            refine j_goto (tgt := 59) dX9_fines_55 (by decide) ?_
            refine j_iadd dX9_fines_59 (by omega) ?_
            refine j_nm (fun v2_9 ev2_9 => ?_)
            refine j_istore_n (ls' := [(0, jR 74), (1, jI m), (2, jI v2_9), (3, jI v3)]) dX9_fines_60 rfl (by decide) rfl ?_
            obtain ⟨v3_10, ev3_10⟩ : ∃ y : Int, y = v3 + 1 := ⟨_, rfl⟩
            refine j_iinc (y := v3_10) (ls' := [(0, jR 74), (1, jI m), (2, jI v2_9), (3, jI v3_10)]) 3 dX9_fines_61 rfl ev3_10 (by omega) (by decide) rfl ?_
            refine j_goto (tgt := 25) dX9_fines_64 (by decide) ?_
            exact ih25 v2_9 v3_10 ⟨by first | omega | grind, by rw [ev3_10, toNat_s h1.1]; unfold fFines; rw [← h2, toNat_c h1.1]; grind⟩ (by omega)
          · skip
            refine j_aload_n 0 dX9_fines_40 rfl rfl ?_
            refine j_getr f_X9_89 r_74_42 dX9_fines_41 ?_
            refine j_iload_n 3 dX9_fines_44 rfl rfl ?_
            refine j_iald a_101 dX9_fines_45 (by omega) (by omega) ?_
            refine j_eq (congrFun ((congrFun eM_1 101).trans (jup_cell (by decide))) v3) ?_
            refine j_iload_n 1 dX9_fines_46 rfl rfl ?_
            refine j_icmp_ne (tgt := 58) dX9_fines_47 (by decide) (fun c47_11 => ?_) (fun c47_11 => ?_)
            · skip
              refine j_iconst dX9_fines_58 (by decide) ?_
              refine j_iadd dX9_fines_59 (by omega) ?_
              refine j_nm (fun v2_12 ev2_12 => ?_)
              refine j_istore_n (ls' := [(0, jR 74), (1, jI m), (2, jI v2_12), (3, jI v3)]) dX9_fines_60 rfl (by decide) rfl ?_
              obtain ⟨v3_13, ev3_13⟩ : ∃ y : Int, y = v3 + 1 := ⟨_, rfl⟩
              refine j_iinc (y := v3_13) (ls' := [(0, jR 74), (1, jI m), (2, jI v2_12), (3, jI v3_13)]) 3 dX9_fines_61 rfl ev3_13 (by omega) (by decide) rfl ?_
              refine j_goto (tgt := 25) dX9_fines_64 (by decide) ?_
              exact ih25 v2_12 v3_13 ⟨by first | omega | grind, by rw [ev3_13, toNat_s h1.1]; unfold fFines; rw [← h2, toNat_c h1.1]; grind⟩ (by omega)
            · skip
              refine j_aload_n 0 dX9_fines_50 rfl rfl ?_
              refine j_iload_n 3 dX9_fines_51 rfl rfl ?_
              refine j_callVi l_X9_330 ⟨Nat.le_of_ble_eq_true rfl, Nat.le_of_ble_eq_true rfl⟩ ⟨rfl, rfl⟩ dX9_fines_52 ob_74 (c_X9_fineOf M_1 v3 (by rw [((congrFun eM_1 100).trans (jup_cell (by decide)))]; exact h_rbase) (by rw [((congrFun eM_1 103).trans (jup_cell (by decide)))]; exact h_rcof) (by rw [((congrFun eM_1 105).trans (jup_cell (by decide)))]; exact h_rstands) (by first | assumption | omega)) rfl rfl (Nat.le_of_ble_eq_true rfl) (fun r_14 M_15 h_16 => ?_)
              obtain ⟨er_14, nh_16⟩ := h_16
              refine j_eqM nh_16 ?_
              clear nh_16
              simp only [((congrFun eM_1 105).trans (jup_cell (by decide))), ((congrFun eM_1 101).trans (jup_cell (by decide))), ((congrFun eM_1 103).trans (jup_cell (by decide))), ((congrFun eM_1 100).trans (jup_cell (by decide)))] at er_14
              refine j_goto (tgt := 59) dX9_fines_55 (by decide) ?_
              refine j_iadd dX9_fines_59 (by omega) ?_
              refine j_nm (fun v2_17 ev2_17 => ?_)
              refine j_istore_n (ls' := [(0, jR 74), (1, jI m), (2, jI v2_17), (3, jI v3)]) dX9_fines_60 rfl (by decide) rfl ?_
              obtain ⟨v3_18, ev3_18⟩ : ∃ y : Int, y = v3 + 1 := ⟨_, rfl⟩
              refine j_iinc (y := v3_18) (ls' := [(0, jR 74), (1, jI m), (2, jI v2_17), (3, jI v3_18)]) 3 dX9_fines_61 rfl ev3_18 (by omega) (by decide) rfl ?_
              refine j_goto (tgt := 25) dX9_fines_64 (by decide) ?_
              exact ih25 v2_17 v3_18 ⟨by first | omega | grind, by rw [ev3_18, toNat_s h1.1]; unfold fFines; rw [← h2, toNat_c h1.1]; grind⟩ (by omega)
    exact lp25_3 _ 0 0 ⟨by first | omega | rfl, by first | omega | rfl⟩ (Nat.lt_succ_self _)
  · skip
    refine j_aload_n 0 dX9_fines_11 rfl rfl ?_
    refine j_iload_n 1 dX9_fines_12 rfl rfl ?_
    refine j_callVi l_X9_262 ⟨Nat.le_of_ble_eq_true rfl, Nat.le_of_ble_eq_true rfl⟩ ⟨rfl, rfl⟩ dX9_fines_13 ob_74 (c_X9_isMill M_1 m (by rw [((congrFun (congrFun eM_1 74) 3).trans (jup_ne (by decide)))]; exact h_rmills)) rfl rfl (Nat.le_of_ble_eq_true rfl) (fun r_19 M_20 h_21 => ?_)
    obtain ⟨er_19, nh_21⟩ := h_21
    refine j_eqM nh_21 ?_
    clear nh_21
    simp only [((congrFun (congrFun eM_1 74) 3).trans (jup_ne (by decide)))] at er_19
    refine j_if_ne (tgt := 21) dX9_fines_16 (by decide) (fun c16_22 => ?_) (fun c16_22 => ?_)
    · skip
      refine j_iconst dX9_fines_21 (by decide) ?_
      refine j_istore_n (ls' := [(0, jR 74), (1, jI m), (2, jI 0)]) dX9_fines_22 rfl (by decide) rfl ?_
      refine j_iconst dX9_fines_23 (by decide) ?_
      refine j_istore_n (ls' := [(0, jR 74), (1, jI m), (2, jI 0), (3, jI 0)]) dX9_fines_24 rfl (by decide) rfl ?_
      have lp25_23 : ∀ n25 : Nat, ∀ (v2 v3 : Int), (0 ≤ v3 ∧ v3 ≤ M 74 41) ∧ (v2 = fFines (M 105) (M 101) (M 103) (M 100) m v3.toNat) → (M 74 41 - v3).toNat < n25 → jG D_X9_fines X FJ shJ 0 0 (jqI (q_X9_fines M m)) 25 [(0, jR 74), (1, jI m), (2, jI v2), (3, jI v3)] ([]) M_1 := by
        intro n25
        induction n25 with
        | zero => intro v2 v3  _ hz; exact absurd hz (Nat.not_lt_zero _)
        | succ n25 ih25 =>
          intro v2 v3  hinv hm
          obtain ⟨h1, h2⟩ := hinv
          have q2 := fFines_in (sd := M 105) (cm := M 101) (co := M 103) h_rbase m v3.toNat (by omega)
          rw [← h2] at q2
          have q3 := fun z0 z1 => fFine_in (sd := M 105) (cm := M 101) (co := M 103) h_rbase (i := v3) z0 z1
          refine j_iload_n 3 dX9_fines_25 rfl rfl ?_
          refine j_aload_n 0 dX9_fines_26 rfl rfl ?_
          refine j_geti (k' := 41) f_X9_327 o_74_41 dX9_fines_27 rfl ?_
          refine j_eq ((congrFun (congrFun eM_1 74) 41).trans (jup_ne (by decide))) ?_
          refine j_icmp_ge (tgt := 67) dX9_fines_30 (by decide) (fun c30_24 => ?_) (fun c30_24 => ?_)
          · skip
            refine j_iload_n 2 dX9_fines_67 rfl rfl ?_
            refine j_iret rfl rfl rfl rfl dX9_fines_68 ?_
            have e6 : v3 = M 74 41 := by omega
            rw [e6] at h2
            exact ⟨by rw [if_pos (by omega)]; exact h2, by rw [eM_1]⟩
          · skip
            refine j_iload_n 2 dX9_fines_33 rfl rfl ?_
            refine j_iload_n 1 dX9_fines_34 rfl rfl ?_
            refine j_bipush dX9_fines_35 (by decide) ?_
            refine j_icmp_eq (tgt := 50) dX9_fines_37 (by decide) (fun c37_25 => ?_) (fun c37_25 => ?_)
            · skip
              refine j_aload_n 0 dX9_fines_50 rfl rfl ?_
              refine j_iload_n 3 dX9_fines_51 rfl rfl ?_
              refine j_callVi l_X9_330 ⟨Nat.le_of_ble_eq_true rfl, Nat.le_of_ble_eq_true rfl⟩ ⟨rfl, rfl⟩ dX9_fines_52 ob_74 (c_X9_fineOf M_1 v3 (by rw [((congrFun eM_1 100).trans (jup_cell (by decide)))]; exact h_rbase) (by rw [((congrFun eM_1 103).trans (jup_cell (by decide)))]; exact h_rcof) (by rw [((congrFun eM_1 105).trans (jup_cell (by decide)))]; exact h_rstands) (by first | assumption | omega)) rfl rfl (Nat.le_of_ble_eq_true rfl) (fun r_26 M_27 h_28 => ?_)
              obtain ⟨er_26, nh_28⟩ := h_28
              refine j_eqM nh_28 ?_
              clear nh_28
              simp only [((congrFun eM_1 105).trans (jup_cell (by decide))), ((congrFun eM_1 101).trans (jup_cell (by decide))), ((congrFun eM_1 103).trans (jup_cell (by decide))), ((congrFun eM_1 100).trans (jup_cell (by decide)))] at er_26
              refine j_goto (tgt := 59) dX9_fines_55 (by decide) ?_
              refine j_iadd dX9_fines_59 (by omega) ?_
              refine j_nm (fun v2_29 ev2_29 => ?_)
              refine j_istore_n (ls' := [(0, jR 74), (1, jI m), (2, jI v2_29), (3, jI v3)]) dX9_fines_60 rfl (by decide) rfl ?_
              obtain ⟨v3_30, ev3_30⟩ : ∃ y : Int, y = v3 + 1 := ⟨_, rfl⟩
              refine j_iinc (y := v3_30) (ls' := [(0, jR 74), (1, jI m), (2, jI v2_29), (3, jI v3_30)]) 3 dX9_fines_61 rfl ev3_30 (by omega) (by decide) rfl ?_
              refine j_goto (tgt := 25) dX9_fines_64 (by decide) ?_
              exact ih25 v2_29 v3_30 ⟨by first | omega | grind, by rw [ev3_30, toNat_s h1.1]; unfold fFines; rw [← h2, toNat_c h1.1]; grind⟩ (by omega)
            · skip
              refine j_aload_n 0 dX9_fines_40 rfl rfl ?_
              refine j_getr f_X9_89 r_74_42 dX9_fines_41 ?_
              refine j_iload_n 3 dX9_fines_44 rfl rfl ?_
              refine j_iald a_101 dX9_fines_45 (by omega) (by omega) ?_
              refine j_eq (congrFun ((congrFun eM_1 101).trans (jup_cell (by decide))) v3) ?_
              refine j_iload_n 1 dX9_fines_46 rfl rfl ?_
              refine j_icmp_ne (tgt := 58) dX9_fines_47 (by decide) (fun c47_31 => ?_) (fun c47_31 => ?_)
              · skip
                refine j_iconst dX9_fines_58 (by decide) ?_
                refine j_iadd dX9_fines_59 (by omega) ?_
                refine j_nm (fun v2_32 ev2_32 => ?_)
                refine j_istore_n (ls' := [(0, jR 74), (1, jI m), (2, jI v2_32), (3, jI v3)]) dX9_fines_60 rfl (by decide) rfl ?_
                obtain ⟨v3_33, ev3_33⟩ : ∃ y : Int, y = v3 + 1 := ⟨_, rfl⟩
                refine j_iinc (y := v3_33) (ls' := [(0, jR 74), (1, jI m), (2, jI v2_32), (3, jI v3_33)]) 3 dX9_fines_61 rfl ev3_33 (by omega) (by decide) rfl ?_
                refine j_goto (tgt := 25) dX9_fines_64 (by decide) ?_
                exact ih25 v2_32 v3_33 ⟨by first | omega | grind, by rw [ev3_33, toNat_s h1.1]; unfold fFines; rw [← h2, toNat_c h1.1]; grind⟩ (by omega)
              · skip
                refine j_aload_n 0 dX9_fines_50 rfl rfl ?_
                refine j_iload_n 3 dX9_fines_51 rfl rfl ?_
                refine j_callVi l_X9_330 ⟨Nat.le_of_ble_eq_true rfl, Nat.le_of_ble_eq_true rfl⟩ ⟨rfl, rfl⟩ dX9_fines_52 ob_74 (c_X9_fineOf M_1 v3 (by rw [((congrFun eM_1 100).trans (jup_cell (by decide)))]; exact h_rbase) (by rw [((congrFun eM_1 103).trans (jup_cell (by decide)))]; exact h_rcof) (by rw [((congrFun eM_1 105).trans (jup_cell (by decide)))]; exact h_rstands) (by first | assumption | omega)) rfl rfl (Nat.le_of_ble_eq_true rfl) (fun r_34 M_35 h_36 => ?_)
                obtain ⟨er_34, nh_36⟩ := h_36
                refine j_eqM nh_36 ?_
                clear nh_36
                simp only [((congrFun eM_1 105).trans (jup_cell (by decide))), ((congrFun eM_1 101).trans (jup_cell (by decide))), ((congrFun eM_1 103).trans (jup_cell (by decide))), ((congrFun eM_1 100).trans (jup_cell (by decide)))] at er_34
                refine j_goto (tgt := 59) dX9_fines_55 (by decide) ?_
                refine j_iadd dX9_fines_59 (by omega) ?_
                refine j_nm (fun v2_37 ev2_37 => ?_)
                refine j_istore_n (ls' := [(0, jR 74), (1, jI m), (2, jI v2_37), (3, jI v3)]) dX9_fines_60 rfl (by decide) rfl ?_
                obtain ⟨v3_38, ev3_38⟩ : ∃ y : Int, y = v3 + 1 := ⟨_, rfl⟩
                refine j_iinc (y := v3_38) (ls' := [(0, jR 74), (1, jI m), (2, jI v2_37), (3, jI v3_38)]) 3 dX9_fines_61 rfl ev3_38 (by omega) (by decide) rfl ?_
                refine j_goto (tgt := 25) dX9_fines_64 (by decide) ?_
                exact ih25 v2_37 v3_38 ⟨by first | omega | grind, by rw [ev3_38, toNat_s h1.1]; unfold fFines; rw [← h2, toNat_c h1.1]; grind⟩ (by omega)
      exact lp25_23 _ 0 0 ⟨by first | omega | rfl, by first | omega | rfl⟩ (Nat.lt_succ_self _)
    · skip
      refine j_iconst dX9_fines_19 (by decide) ?_
      refine j_iret rfl rfl rfl rfl dX9_fines_20 ?_
      exact ⟨by rw [if_neg (by omega)], by rw [eM_1]⟩
abbrev q_X9_road (M : jM)  (a b v : Int) : Int → jM → Prop := fun r N => r = fRoad (M 106) a b v ∧ N = (if 0 ≤ a ∧ a ≤ 8 ∧ 0 ≤ b ∧ b ≤ 8 ∧ ¬ a = b ∧ 1 ≤ v ∧ v ≤ 30 then jup (jup (jup M 74 0 0) 106 (9 * a + b) v) 106 (9 * b + a) v else jup M 74 0 0)
set_option maxHeartbeats 4000000 in
set_option maxRecDepth 20000 in
theorem c_X9_road {X : jX} (M : jM)  (a b v : Int)  : jC yX9_road D_X9_road X FJ shJ [jR 74, jI a, jI b, jI v] M (jqI (q_X9_road M a b v)) := by
  refine jC_of (by decide) rfl (fun ad => Nat.le_of_ble_eq_true rfl) (by decide) ?_
  show jG D_X9_road X FJ shJ 0 0 (jqI (q_X9_road M a b v)) 0 [(0, jR 74), (1, jI a), (2, jI b), (3, jI v)] [] M
  refine j_aload_n 0 dX9_road_0 rfl rfl ?_
  refine j_iconst dX9_road_1 (by decide) ?_
  refine j_puti (k' := 0) f_X9_124 o_74_0 dX9_road_2 rfl ?_
  refine j_nmM (fun M_1 eM_1 => ?_)
  refine j_iload_n 1 dX9_road_5 rfl rfl ?_
  refine j_iconst dX9_road_6 (by decide) ?_
  refine j_bipush dX9_road_7 (by decide) ?_
  refine j_callSi l_X9_137 ⟨Nat.le_of_ble_eq_true rfl, Nat.le_of_ble_eq_true rfl⟩ ⟨rfl, rfl⟩ dX9_road_9 (c_X9_in M_1 a 0 8) rfl rfl (Nat.le_of_ble_eq_true rfl) (fun r_2 M_3 h_4 => ?_)
  obtain ⟨er_2, nh_4⟩ := h_4
  refine j_eqM nh_4 ?_
  clear nh_4
  refine j_if_eq (tgt := 40) dX9_road_12 (by decide) (fun c12_5 => ?_) (fun c12_5 => ?_)
  · skip
    refine j_iconst dX9_road_40 (by decide) ?_
    refine j_iret rfl rfl rfl rfl dX9_road_41 ?_
    refine ⟨by unfold fRoad; split <;> first | omega | grind, ?_⟩
    first | (rw [if_pos (by omega), eM_1]; done) | (rw [if_neg (by omega), eM_1])
  · skip
    refine j_iload_n 2 dX9_road_15 rfl rfl ?_
    refine j_iconst dX9_road_16 (by decide) ?_
    refine j_bipush dX9_road_17 (by decide) ?_
    refine j_callSi l_X9_137 ⟨Nat.le_of_ble_eq_true rfl, Nat.le_of_ble_eq_true rfl⟩ ⟨rfl, rfl⟩ dX9_road_19 (c_X9_in M_1 b 0 8) rfl rfl (Nat.le_of_ble_eq_true rfl) (fun r_6 M_7 h_8 => ?_)
    obtain ⟨er_6, nh_8⟩ := h_8
    refine j_eqM nh_8 ?_
    clear nh_8
    refine j_if_eq (tgt := 40) dX9_road_22 (by decide) (fun c22_9 => ?_) (fun c22_9 => ?_)
    · skip
      refine j_iconst dX9_road_40 (by decide) ?_
      refine j_iret rfl rfl rfl rfl dX9_road_41 ?_
      refine ⟨by unfold fRoad; split <;> first | omega | grind, ?_⟩
      first | (rw [if_pos (by omega), eM_1]; done) | (rw [if_neg (by omega), eM_1])
    · skip
      refine j_iload_n 1 dX9_road_25 rfl rfl ?_
      refine j_iload_n 2 dX9_road_26 rfl rfl ?_
      refine j_icmp_eq (tgt := 40) dX9_road_27 (by decide) (fun c27_10 => ?_) (fun c27_10 => ?_)
      · skip
        refine j_iconst dX9_road_40 (by decide) ?_
        refine j_iret rfl rfl rfl rfl dX9_road_41 ?_
        refine ⟨by unfold fRoad; split <;> first | omega | grind, ?_⟩
        first | (rw [if_pos (by omega), eM_1]; done) | (rw [if_neg (by omega), eM_1])
      · skip
        refine j_iload_n 3 dX9_road_30 rfl rfl ?_
        refine j_iconst dX9_road_31 (by decide) ?_
        refine j_bipush dX9_road_32 (by decide) ?_
        refine j_callSi l_X9_137 ⟨Nat.le_of_ble_eq_true rfl, Nat.le_of_ble_eq_true rfl⟩ ⟨rfl, rfl⟩ dX9_road_34 (c_X9_in M_1 v 1 30) rfl rfl (Nat.le_of_ble_eq_true rfl) (fun r_11 M_12 h_13 => ?_)
        obtain ⟨er_11, nh_13⟩ := h_13
        refine j_eqM nh_13 ?_
        clear nh_13
        refine j_if_ne (tgt := 42) dX9_road_37 (by decide) (fun c37_14 => ?_) (fun c37_14 => ?_)
        · skip
          refine j_aload_n 0 dX9_road_42 rfl rfl ?_
          refine j_getr f_X9_105 r_74_47 dX9_road_43 ?_
          refine j_bipush dX9_road_46 (by decide) ?_
          refine j_iload_n 1 dX9_road_48 rfl rfl ?_
          refine j_imul dX9_road_49 (by omega) ?_
          refine j_iload_n 2 dX9_road_50 rfl rfl ?_
          refine j_iadd dX9_road_51 (by omega) ?_
          refine j_iald a_106 dX9_road_52 (by omega) (by omega) ?_
          refine j_eq (congrFun ((congrFun eM_1 106).trans (jup_cell (by decide))) ((9 * a) + b)) ?_
          refine j_nm (fun v4_15 ev4_15 => ?_)
          refine j_istore (ls' := [(0, jR 74), (1, jI a), (2, jI b), (3, jI v), (4, jI v4_15)]) dX9_road_53 (by decide) rfl ?_
          refine j_aload_n 0 dX9_road_55 rfl rfl ?_
          refine j_getr f_X9_105 r_74_47 dX9_road_56 ?_
          refine j_bipush dX9_road_59 (by decide) ?_
          refine j_iload_n 1 dX9_road_61 rfl rfl ?_
          refine j_imul dX9_road_62 (by omega) ?_
          refine j_iload_n 2 dX9_road_63 rfl rfl ?_
          refine j_iadd dX9_road_64 (by omega) ?_
          refine j_iload_n 3 dX9_road_65 rfl rfl ?_
          refine j_iast a_106 dX9_road_66 (by omega) (by omega) ?_
          refine j_nmM (fun M_16 eM_16 => ?_)
          refine j_aload_n 0 dX9_road_67 rfl rfl ?_
          refine j_getr f_X9_105 r_74_47 dX9_road_68 ?_
          refine j_bipush dX9_road_71 (by decide) ?_
          refine j_iload_n 2 dX9_road_73 rfl rfl ?_
          refine j_imul dX9_road_74 (by omega) ?_
          refine j_iload_n 1 dX9_road_75 rfl rfl ?_
          refine j_iadd dX9_road_76 (by omega) ?_
          refine j_iload_n 3 dX9_road_77 rfl rfl ?_
          refine j_iast a_106 dX9_road_78 (by omega) (by omega) ?_
          refine j_nmM (fun M_17 eM_17 => ?_)
          refine j_iload 4 dX9_road_79 rfl ?_
          refine j_iret rfl rfl rfl rfl dX9_road_81 ?_
          refine ⟨by unfold fRoad; split <;> first | omega | grind, ?_⟩
          first | (rw [if_pos (by omega), eM_17, eM_16, eM_1]; done) | (rw [if_neg (by omega), eM_17, eM_16, eM_1])
        · skip
          refine j_iconst dX9_road_40 (by decide) ?_
          refine j_iret rfl rfl rfl rfl dX9_road_41 ?_
          refine ⟨by unfold fRoad; split <;> first | omega | grind, ?_⟩
          first | (rw [if_pos (by omega), eM_1]; done) | (rw [if_neg (by omega), eM_1])
abbrev q_X9_doubt (M : jM)  (m v : Int) : Int → jM → Prop := fun r N => r = fDoubt (M 74 3) (M 79) m v ∧ N = (if 0 ≤ m ∧ m < M 74 3 ∧ 0 ≤ v ∧ v ≤ 99 then jup (jup M 74 0 0) 79 m v else jup M 74 0 0)
set_option maxHeartbeats 4000000 in
set_option maxRecDepth 20000 in
theorem c_X9_doubt {X : jX} (M : jM)  (m v : Int) (h_rmills : 0 ≤ M 74 3 ∧ M 74 3 ≤ 6) : jC yX9_doubt D_X9_doubt X FJ shJ [jR 74, jI m, jI v] M (jqI (q_X9_doubt M m v)) := by
  refine jC_of (by decide) rfl (fun ad => Nat.le_of_ble_eq_true rfl) (by decide) ?_
  show jG D_X9_doubt X FJ shJ 0 0 (jqI (q_X9_doubt M m v)) 0 [(0, jR 74), (1, jI m), (2, jI v)] [] M
  refine j_aload_n 0 dX9_doubt_0 rfl rfl ?_
  refine j_iconst dX9_doubt_1 (by decide) ?_
  refine j_puti (k' := 0) f_X9_124 o_74_0 dX9_doubt_2 rfl ?_
  refine j_nmM (fun M_1 eM_1 => ?_)
  refine j_aload_n 0 dX9_doubt_5 rfl rfl ?_
  refine j_iload_n 1 dX9_doubt_6 rfl rfl ?_
  refine j_callVi l_X9_262 ⟨Nat.le_of_ble_eq_true rfl, Nat.le_of_ble_eq_true rfl⟩ ⟨rfl, rfl⟩ dX9_doubt_7 ob_74 (c_X9_isMill M_1 m (by rw [((congrFun (congrFun eM_1 74) 3).trans (jup_ne (by decide)))]; exact h_rmills)) rfl rfl (Nat.le_of_ble_eq_true rfl) (fun r_2 M_3 h_4 => ?_)
  obtain ⟨er_2, nh_4⟩ := h_4
  refine j_eqM nh_4 ?_
  clear nh_4
  simp only [((congrFun (congrFun eM_1 74) 3).trans (jup_ne (by decide)))] at er_2
  refine j_if_eq (tgt := 23) dX9_doubt_10 (by decide) (fun c10_5 => ?_) (fun c10_5 => ?_)
  · skip
    refine j_iconst dX9_doubt_23 (by decide) ?_
    refine j_iret rfl rfl rfl rfl dX9_doubt_24 ?_
    refine ⟨by unfold fDoubt; split <;> first | omega | grind, ?_⟩
    first | (rw [if_pos (by omega), eM_1]; done) | (rw [if_neg (by omega), eM_1])
  · skip
    refine j_iload_n 2 dX9_doubt_13 rfl rfl ?_
    refine j_iconst dX9_doubt_14 (by decide) ?_
    refine j_bipush dX9_doubt_15 (by decide) ?_
    refine j_callSi l_X9_137 ⟨Nat.le_of_ble_eq_true rfl, Nat.le_of_ble_eq_true rfl⟩ ⟨rfl, rfl⟩ dX9_doubt_17 (c_X9_in M_1 v 0 99) rfl rfl (Nat.le_of_ble_eq_true rfl) (fun r_6 M_7 h_8 => ?_)
    obtain ⟨er_6, nh_8⟩ := h_8
    refine j_eqM nh_8 ?_
    clear nh_8
    refine j_if_ne (tgt := 25) dX9_doubt_20 (by decide) (fun c20_9 => ?_) (fun c20_9 => ?_)
    · skip
      refine j_aload_n 0 dX9_doubt_25 rfl rfl ?_
      refine j_getr f_X9_23 r_74_7 dX9_doubt_26 ?_
      refine j_iload_n 1 dX9_doubt_29 rfl rfl ?_
      refine j_iald a_79 dX9_doubt_30 (by omega) (by omega) ?_
      refine j_eq (congrFun ((congrFun eM_1 79).trans (jup_cell (by decide))) m) ?_
      refine j_nm (fun v3_10 ev3_10 => ?_)
      refine j_istore_n (ls' := [(0, jR 74), (1, jI m), (2, jI v), (3, jI v3_10)]) dX9_doubt_31 rfl (by decide) rfl ?_
      refine j_aload_n 0 dX9_doubt_32 rfl rfl ?_
      refine j_getr f_X9_23 r_74_7 dX9_doubt_33 ?_
      refine j_iload_n 1 dX9_doubt_36 rfl rfl ?_
      refine j_iload_n 2 dX9_doubt_37 rfl rfl ?_
      refine j_iast a_79 dX9_doubt_38 (by omega) (by omega) ?_
      refine j_nmM (fun M_11 eM_11 => ?_)
      refine j_iload_n 3 dX9_doubt_39 rfl rfl ?_
      refine j_iret rfl rfl rfl rfl dX9_doubt_40 ?_
      refine ⟨by unfold fDoubt; split <;> first | omega | grind, ?_⟩
      first | (rw [if_pos (by omega), eM_11, eM_1]; done) | (rw [if_neg (by omega), eM_11, eM_1])
    · skip
      refine j_iconst dX9_doubt_23 (by decide) ?_
      refine j_iret rfl rfl rfl rfl dX9_doubt_24 ?_
      refine ⟨by unfold fDoubt; split <;> first | omega | grind, ?_⟩
      first | (rw [if_pos (by omega), eM_1]; done) | (rw [if_neg (by omega), eM_1])
abbrev q_X9_count (M : jM)  (w : Int) : Int → jM → Prop := fun r N => r = fCount (M 74 3) (M 74 8) (M 74 20) (M 74 27) (M 74 38) (M 74 41) (fStanding (M 105) (M 74 41).toNat) (M 74 14) w ∧ N = jup M 74 0 0
set_option maxHeartbeats 4000000 in
set_option maxRecDepth 20000 in
theorem c_X9_count {X : jX} (M : jM)  (w : Int) (h_rcases : 0 ≤ M 74 41 ∧ M 74 41 ≤ 20) : jC yX9_count D_X9_count X FJ shJ [jR 74, jI w] M (jqI (q_X9_count M w)) := by
  refine jC_of (by decide) rfl (fun ad => Nat.le_of_ble_eq_true rfl) (by decide) ?_
  show jG D_X9_count X FJ shJ 0 0 (jqI (q_X9_count M w)) 0 [(0, jR 74), (1, jI w)] [] M
  refine j_aload_n 0 dX9_count_0 rfl rfl ?_
  refine j_iconst dX9_count_1 (by decide) ?_
  refine j_puti (k' := 0) f_X9_124 o_74_0 dX9_count_2 rfl ?_
  refine j_nmM (fun M_1 eM_1 => ?_)
  refine j_iconst dX9_count_5 (by decide) ?_
  refine j_istore_n (ls' := [(0, jR 74), (1, jI w), (2, jI 0)]) dX9_count_6 rfl (by decide) rfl ?_
  refine j_iload_n 1 dX9_count_7 rfl rfl ?_
  rcases (show w = 0 ∨ w = 1 ∨ w = 2 ∨ w = 3 ∨ w = 4 ∨ w = 5 ∨ w = 6 ∨ w = 7 ∨ w < 0 ∨ 7 < w from by omega) with s_2 | s_2 | s_2 | s_2 | s_2 | s_2 | s_2 | s_2 | s_2 | s_2
  · refine j_tswIn (tgt := 56) 0 s_2 dX9_count_8 (by decide) (by decide) rfl (by decide) ?_
    refine j_aload_n 0 dX9_count_56 rfl rfl ?_
    refine j_geti (k' := 3) f_X9_134 o_74_3 dX9_count_57 rfl ?_
    refine j_eq ((congrFun (congrFun eM_1 74) 3).trans (jup_ne (by decide))) ?_
    refine j_iret rfl rfl rfl rfl dX9_count_60 ?_
    exact ⟨by unfold fCount; (repeat' split) <;> omega, by rw [eM_1]⟩
  · refine j_tswIn (tgt := 61) 1 s_2 dX9_count_8 (by decide) (by decide) rfl (by decide) ?_
    refine j_aload_n 0 dX9_count_61 rfl rfl ?_
    refine j_geti (k' := 8) f_X9_141 o_74_8 dX9_count_62 rfl ?_
    refine j_eq ((congrFun (congrFun eM_1 74) 8).trans (jup_ne (by decide))) ?_
    refine j_iret rfl rfl rfl rfl dX9_count_65 ?_
    exact ⟨by unfold fCount; (repeat' split) <;> omega, by rw [eM_1]⟩
  · refine j_tswIn (tgt := 66) 2 s_2 dX9_count_8 (by decide) (by decide) rfl (by decide) ?_
    refine j_aload_n 0 dX9_count_66 rfl rfl ?_
    refine j_geti (k' := 20) f_X9_252 o_74_20 dX9_count_67 rfl ?_
    refine j_eq ((congrFun (congrFun eM_1 74) 20).trans (jup_ne (by decide))) ?_
    refine j_iret rfl rfl rfl rfl dX9_count_70 ?_
    exact ⟨by unfold fCount; (repeat' split) <;> omega, by rw [eM_1]⟩
  · refine j_tswIn (tgt := 71) 3 s_2 dX9_count_8 (by decide) (by decide) rfl (by decide) ?_
    refine j_aload_n 0 dX9_count_71 rfl rfl ?_
    refine j_geti (k' := 27) f_X9_275 o_74_27 dX9_count_72 rfl ?_
    refine j_eq ((congrFun (congrFun eM_1 74) 27).trans (jup_ne (by decide))) ?_
    refine j_iret rfl rfl rfl rfl dX9_count_75 ?_
    exact ⟨by unfold fCount; (repeat' split) <;> omega, by rw [eM_1]⟩
  · refine j_tswIn (tgt := 76) 4 s_2 dX9_count_8 (by decide) (by decide) rfl (by decide) ?_
    refine j_aload_n 0 dX9_count_76 rfl rfl ?_
    refine j_geti (k' := 38) f_X9_324 o_74_38 dX9_count_77 rfl ?_
    refine j_eq ((congrFun (congrFun eM_1 74) 38).trans (jup_ne (by decide))) ?_
    refine j_iret rfl rfl rfl rfl dX9_count_80 ?_
    exact ⟨by unfold fCount; (repeat' split) <;> omega, by rw [eM_1]⟩
  · refine j_tswIn (tgt := 81) 5 s_2 dX9_count_8 (by decide) (by decide) rfl (by decide) ?_
    refine j_aload_n 0 dX9_count_81 rfl rfl ?_
    refine j_geti (k' := 41) f_X9_327 o_74_41 dX9_count_82 rfl ?_
    refine j_eq ((congrFun (congrFun eM_1 74) 41).trans (jup_ne (by decide))) ?_
    refine j_iret rfl rfl rfl rfl dX9_count_85 ?_
    exact ⟨by unfold fCount; (repeat' split) <;> omega, by rw [eM_1]⟩
  · refine j_tswIn (tgt := 86) 6 s_2 dX9_count_8 (by decide) (by decide) rfl (by decide) ?_
    refine j_iconst dX9_count_86 (by decide) ?_
    refine j_istore_n (ls' := [(0, jR 74), (1, jI w), (2, jI 0), (3, jI 0)]) dX9_count_87 rfl (by decide) rfl ?_
    have lp88_3 : ∀ n88 : Nat, ∀ (v2 v3 : Int), (0 ≤ v3 ∧ v3 ≤ M 74 41) ∧ (v2 = fStanding (M 105) v3.toNat) → (M 74 41 - v3).toNat < n88 → jG D_X9_count X FJ shJ 0 0 (jqI (q_X9_count M w)) 88 [(0, jR 74), (1, jI w), (2, jI v2), (3, jI v3)] ([]) M_1 := by
      intro n88
      induction n88 with
      | zero => intro v2 v3  _ hz; exact absurd hz (Nat.not_lt_zero _)
      | succ n88 ih88 =>
        intro v2 v3  hinv hm
        obtain ⟨h1, h2⟩ := hinv
        have q2 := fStanding_in (M 105) v3.toNat
        rw [← h2] at q2
        refine j_iload_n 3 dX9_count_88 rfl rfl ?_
        refine j_aload_n 0 dX9_count_89 rfl rfl ?_
        refine j_geti (k' := 41) f_X9_327 o_74_41 dX9_count_90 rfl ?_
        refine j_eq ((congrFun (congrFun eM_1 74) 41).trans (jup_ne (by decide))) ?_
        refine j_icmp_ge (tgt := 119) dX9_count_93 (by decide) (fun c93_4 => ?_) (fun c93_4 => ?_)
        · skip
          refine j_iload_n 2 dX9_count_119 rfl rfl ?_
          refine j_iret rfl rfl rfl rfl dX9_count_120 ?_
          have e6 : v3 = M 74 41 := by omega
          rw [e6] at h2
          exact ⟨by unfold fCount; rw [← h2]; (repeat' split) <;> omega, by rw [eM_1]⟩
        · skip
          refine j_iload_n 2 dX9_count_96 rfl rfl ?_
          refine j_aload_n 0 dX9_count_97 rfl rfl ?_
          refine j_getr f_X9_101 r_74_46 dX9_count_98 ?_
          refine j_iload_n 3 dX9_count_101 rfl rfl ?_
          refine j_zald a_105 dX9_count_102 (by omega) (by omega) ?_
          refine j_eq (congrFun ((congrFun eM_1 105).trans (jup_cell (by decide))) v3) ?_
          have hJ_5 : ∀ zz : Int, ((M 105 v3) = 0 ∧ zz = 0) ∨ (¬ (M 105 v3) = 0 ∧ zz = 1) → jG D_X9_count X FJ shJ 0 0 (jqI (q_X9_count M w)) 111 [(0, jR 74), (1, jI w), (2, jI v2), (3, jI v3)] (jI zz :: jI v2 :: []) M_1 := by
            intro t_6 et_6
            refine j_iadd dX9_count_111 (by omega) ?_
            refine j_nm (fun v2_7 ev2_7 => ?_)
            refine j_istore_n (ls' := [(0, jR 74), (1, jI w), (2, jI v2_7), (3, jI v3)]) dX9_count_112 rfl (by decide) rfl ?_
            obtain ⟨v3_8, ev3_8⟩ : ∃ y : Int, y = v3 + 1 := ⟨_, rfl⟩
            refine j_iinc (y := v3_8) (ls' := [(0, jR 74), (1, jI w), (2, jI v2_7), (3, jI v3_8)]) 3 dX9_count_113 rfl ev3_8 (by omega) (by decide) rfl ?_
            refine j_goto (tgt := 88) dX9_count_116 (by decide) ?_
            exact ih88 v2_7 v3_8 ⟨by first | omega | grind, by rw [ev3_8, toNat_s h1.1]; unfold fStanding; rw [← h2, toNat_c h1.1]; grind⟩ (by omega)
          refine j_if_eq (tgt := 110) dX9_count_103 (by decide) (fun c103_9 => ?_) (fun c103_9 => ?_)
          · skip
            refine j_iconst dX9_count_110 (by decide) ?_
            exact hJ_5 _ (Or.inl ⟨c103_9, rfl⟩)
          · skip
            refine j_iconst dX9_count_106 (by decide) ?_
            refine j_goto (tgt := 111) dX9_count_107 (by decide) ?_
            exact hJ_5 _ (Or.inr (⟨c103_9, rfl⟩))
    exact lp88_3 _ 0 0 ⟨by first | omega | rfl, by first | omega | rfl⟩ (Nat.lt_succ_self _)
  · refine j_tswIn (tgt := 121) 7 s_2 dX9_count_8 (by decide) (by decide) rfl (by decide) ?_
    refine j_aload_n 0 dX9_count_121 rfl rfl ?_
    refine j_geti (k' := 14) f_X9_176 o_74_14 dX9_count_122 rfl ?_
    refine j_eq ((congrFun (congrFun eM_1 74) 14).trans (jup_ne (by decide))) ?_
    refine j_iret rfl rfl rfl rfl dX9_count_125 ?_
    exact ⟨by unfold fCount; (repeat' split) <;> omega, by rw [eM_1]⟩
  · refine j_tswOut (tgt := 126) dX9_count_8 (Or.inl s_2) (by decide) ?_
    refine j_iconst dX9_count_126 (by decide) ?_
    refine j_iret rfl rfl rfl rfl dX9_count_127 ?_
    exact ⟨by unfold fCount; (repeat' split) <;> omega, by rw [eM_1]⟩
  · refine j_tswOut (tgt := 126) dX9_count_8 (Or.inr s_2) (by decide) ?_
    refine j_iconst dX9_count_126 (by decide) ?_
    refine j_iret rfl rfl rfl rfl dX9_count_127 ?_
    exact ⟨by unfold fCount; (repeat' split) <;> omega, by rw [eM_1]⟩
abbrev q_X9_trace (M : jM)   : Int → jM → Prop := fun r N => r = M 74 1 ∧ N = jup M 74 0 0
set_option maxHeartbeats 4000000 in
set_option maxRecDepth 20000 in
theorem c_X9_trace {X : jX} (M : jM)    : jC yX9_trace D_X9_trace X FJ shJ [jR 74] M (jqL (q_X9_trace M)) := by
  refine jC_of (by decide) rfl (fun ad => Nat.le_of_ble_eq_true rfl) (by decide) ?_
  show jG D_X9_trace X FJ shJ 0 0 (jqL (q_X9_trace M)) 0 [(0, jR 74)] [] M
  refine j_aload_n 0 dX9_trace_0 rfl rfl ?_
  refine j_iconst dX9_trace_1 (by decide) ?_
  refine j_puti (k' := 0) f_X9_124 o_74_0 dX9_trace_2 rfl ?_
  refine j_nmM (fun M_1 eM_1 => ?_)
  refine j_aload_n 0 dX9_trace_5 rfl rfl ?_
  refine j_getl (k' := 1) f_X9_148 o_74_1 dX9_trace_6 rfl ?_
  refine j_eqL ((congrFun (congrFun eM_1 74) 1).trans (jup_ne (by decide))) ?_
  refine j_lret rfl rfl rfl rfl dX9_trace_9 ?_
  exact ⟨rfl, by rw [eM_1]⟩
abbrev q_X9_least (M : jM)  (a b : Int) : Int → jM → Prop := fun r N => r = min a b ∧ N = M
set_option maxHeartbeats 4000000 in
set_option maxRecDepth 20000 in
theorem c_X9_least {X : jX} (M : jM)  (a b : Int)  : jC yX9_least D_X9_least X FJ shJ [jI a, jI b] M (jqI (q_X9_least M a b)) := by
  refine jC_of (by decide) rfl (fun ad => Nat.le_of_ble_eq_true rfl) (by decide) ?_
  show jG D_X9_least X FJ shJ 0 0 (jqI (q_X9_least M a b)) 0 [(0, jI a), (1, jI b)] [] M
  refine j_iload_n 0 dX9_least_0 rfl rfl ?_
  refine j_iload_n 1 dX9_least_1 rfl rfl ?_
  have hJ_1 : ∀ zz : Int, (b ≤ a ∧ zz = b) ∨ (¬ (b ≤ a) ∧ zz = a) → jG D_X9_least X FJ shJ 0 0 (jqI (q_X9_least M a b)) 10 [(0, jI a), (1, jI b)] (jI zz :: []) M := by
    intro t_2 et_2
    refine j_iret rfl rfl rfl rfl dX9_least_10 ?_
    exact ⟨by omega, rfl⟩
  refine j_icmp_ge (tgt := 9) dX9_least_2 (by decide) (fun c2_3 => ?_) (fun c2_3 => ?_)
  · skip
    refine j_iload_n 1 dX9_least_9 rfl rfl ?_
    exact hJ_1 _ (Or.inl ⟨c2_3, rfl⟩)
  · skip
    refine j_iload_n 0 dX9_least_5 rfl rfl ?_
    refine j_goto (tgt := 10) dX9_least_6 (by decide) ?_
    exact hJ_1 _ (Or.inr (⟨c2_3, rfl⟩))
abbrev q_X9_greatest (M : jM)  (a b : Int) : Int → jM → Prop := fun r N => r = max a b ∧ N = M
set_option maxHeartbeats 4000000 in
set_option maxRecDepth 20000 in
theorem c_X9_greatest {X : jX} (M : jM)  (a b : Int)  : jC yX9_greatest D_X9_greatest X FJ shJ [jI a, jI b] M (jqI (q_X9_greatest M a b)) := by
  refine jC_of (by decide) rfl (fun ad => Nat.le_of_ble_eq_true rfl) (by decide) ?_
  show jG D_X9_greatest X FJ shJ 0 0 (jqI (q_X9_greatest M a b)) 0 [(0, jI a), (1, jI b)] [] M
  refine j_iload_n 0 dX9_greatest_0 rfl rfl ?_
  refine j_iload_n 1 dX9_greatest_1 rfl rfl ?_
  have hJ_1 : ∀ zz : Int, (a ≤ b ∧ zz = b) ∨ (¬ (a ≤ b) ∧ zz = a) → jG D_X9_greatest X FJ shJ 0 0 (jqI (q_X9_greatest M a b)) 10 [(0, jI a), (1, jI b)] (jI zz :: []) M := by
    intro t_2 et_2
    refine j_iret rfl rfl rfl rfl dX9_greatest_10 ?_
    exact ⟨by omega, rfl⟩
  refine j_icmp_le (tgt := 9) dX9_greatest_2 (by decide) (fun c2_3 => ?_) (fun c2_3 => ?_)
  · skip
    refine j_iload_n 1 dX9_greatest_9 rfl rfl ?_
    exact hJ_1 _ (Or.inl ⟨c2_3, rfl⟩)
  · skip
    refine j_iload_n 0 dX9_greatest_5 rfl rfl ?_
    refine j_goto (tgt := 10) dX9_greatest_6 (by decide) ?_
    exact hJ_1 _ (Or.inr (⟨c2_3, rfl⟩))
