abbrev q_X7_tables (M : jM) (p most q : Int) (n : Int) : Int → jM → Prop := fun r N => (r = zS3 (zT (M 29) (M 30) p most q) ((2 : Int) ^ p.toNat) (if 1 < n then ((2 : Int) ^ p.toNat) else 1) (if 2 < n then ((2 : Int) ^ p.toNat) else 1)) ∧ N = M
set_option maxHeartbeats 4000000 in
set_option maxRecDepth 20000 in
theorem c_X7_tables {X : jX} (M : jM) (p most q : Int) (n : Int) (h_cneeds : ∀ i, 0 ≤ M 30 i ∧ M 30 i ≤ 3) (h0 : 1 ≤ p ∧ p ≤ 6 ∧ 0 ≤ most ∧ 1 ≤ q ∧ 1 ≤ n ∧ n ≤ 3) (hP : zPrep M (M 29) (M 30) p most q ((2 : Int) ^ p.toNat)) : jC yX7_tables D_X7_tables X FJ shJ [jR 28, jI n] M (jqI (q_X7_tables M p most q n)) := by
  refine jC_of (by decide) rfl (fun ad => Nat.le_of_ble_eq_true rfl) (by decide) ?_
  show jG D_X7_tables X FJ shJ 0 0 (jqI (q_X7_tables M p most q n)) 0 [(0, jR 28), (1, jI n)] [] M
  have hp2 := p2n (n := p) (by omega)
  have hp1 : (0 : Int) < 2 ^ p.toNat := Int.pow_pos (by decide)
  have i1 := zIdx_in (mn := M 29) (p := p) (most := most) (q := q) (s := ((2 : Int) ^ p.toNat)) (by omega)
  have hB : (0 ≤ (if 1 < n then ((2 : Int) ^ p.toNat) else 1) ∧ (if 1 < n then ((2 : Int) ^ p.toNat) else 1) ≤ ((2 : Int) ^ p.toNat)) ∧ (0 ≤ (if 2 < n then ((2 : Int) ^ p.toNat) else 1) ∧ (if 2 < n then ((2 : Int) ^ p.toNat) else 1) ≤ ((2 : Int) ^ p.toNat)) := by constructor <;> split <;> omega
  have m1 := zIdx_mono (mn := M 29) (p := p) (most := most) (q := q) hB.1.1 hB.1.2
  have m2 := zIdx_mono (mn := M 29) (p := p) (most := most) (q := q) hB.2.1 hB.2.2
  have m3 := (zIdx_in (mn := M 29) (p := p) (most := most) (q := q) hB.1.1).1
  have m4 := (zIdx_in (mn := M 29) (p := p) (most := most) (q := q) hB.2.1).1
  refine j_iconst dX7_tables_0 (by decide) ?_
  refine j_istore_n (ls' := [(0, jR 28), (1, jI n), (2, jI 0)]) dX7_tables_1 rfl (by decide) rfl ?_
  refine j_iload_n 1 dX7_tables_2 rfl rfl ?_
  refine j_iconst dX7_tables_3 (by decide) ?_
  have hJ_1 : ∀ zz : Int, (n ≤ 2 ∧ zz = 1) ∨ (¬ (n ≤ 2) ∧ zz = (M 28 6)) → jG D_X7_tables X FJ shJ 0 0 (jqI (q_X7_tables M p most q n)) 15 [(0, jR 28), (1, jI n), (2, jI 0)] (jI zz :: []) M := by
    intro t_2 et_2
    refine j_istore_n (ls' := [(0, jR 28), (1, jI n), (2, jI 0), (3, jI t_2)]) dX7_tables_15 rfl (by decide) rfl ?_
    refine j_iload_n 1 dX7_tables_16 rfl rfl ?_
    refine j_iconst dX7_tables_17 (by decide) ?_
    have hJ_3 : ∀ zz : Int, (n ≤ 1 ∧ zz = 1) ∨ (¬ (n ≤ 1) ∧ zz = (M 28 6)) → jG D_X7_tables X FJ shJ 0 0 (jqI (q_X7_tables M p most q n)) 29 [(0, jR 28), (1, jI n), (2, jI 0), (3, jI t_2)] (jI zz :: []) M := by
      intro t_4 et_4
      refine j_istore (ls' := [(0, jR 28), (1, jI n), (2, jI 0), (3, jI t_2), (4, jI t_4)]) dX7_tables_29 (by decide) rfl ?_
      have e3 : t_2 = zIdx (M 29) p most q (if 2 < n then ((2 : Int) ^ p.toNat) else 1) := by rcases et_2 with ⟨a, b⟩ | ⟨a, b⟩; (· rw [b, if_neg (by omega), zIdx_1 (by omega) (by omega)]); (· rw [b, if_pos (by omega)]; exact hP.2.1)
      have e4 : t_4 = zIdx (M 29) p most q (if 1 < n then ((2 : Int) ^ p.toNat) else 1) := by rcases et_4 with ⟨a, b⟩ | ⟨a, b⟩; (· rw [b, if_neg (by omega), zIdx_1 (by omega) (by omega)]); (· rw [b, if_pos (by omega)]; exact hP.2.1)
      refine j_iconst dX7_tables_31 (by decide) ?_
      refine j_istore (ls' := [(0, jR 28), (1, jI n), (2, jI 0), (3, jI t_2), (4, jI t_4), (5, jI 0)]) dX7_tables_32 (by decide) rfl ?_
      have lp34_5 : ∀ n34 : Nat, ∀ (v2 v5 : Int), (0 ≤ v5 ∧ v5 ≤ t_2) ∧ (v2 = zP (fun k => zP (fun l => zS2 (zT (M 29) (M 30) p most q) ((2 : Int) ^ p.toNat) (M 31 k) (M 31 l)) t_4.toNat) v5.toNat) ∧ (0 ≤ v2 ∧ v2 ≤ 4096 * v5) → (t_2 - v5).toNat < n34 → jG D_X7_tables X FJ shJ 0 0 (jqI (q_X7_tables M p most q n)) 34 [(0, jR 28), (1, jI n), (2, jI v2), (3, jI t_2), (4, jI t_4), (5, jI v5)] ([]) M := by
        intro n34
        induction n34 with
        | zero => intro v2 v5  _ hz; exact absurd hz (Nat.not_lt_zero _)
        | succ n34 ih34 =>
          intro v2 v5  hinv hm
          obtain ⟨h5, hv, hbd⟩ := hinv
          refine j_iload 5 dX7_tables_34 rfl ?_
          refine j_iload_n 3 dX7_tables_36 rfl rfl ?_
          refine j_icmp_ge (tgt := 99) dX7_tables_37 (by decide) (fun c37_6 => ?_) (fun c37_6 => ?_)
          · skip
            refine j_iload_n 2 dX7_tables_99 rfl rfl ?_
            refine j_iret rfl rfl rfl rfl dX7_tables_100 ?_
            have e5 : v5 = t_2 := by omega
            rw [hv, e5, e3, e4]
            exact ⟨zAll hP.2.2.1 hB.1 hB.2, rfl⟩
          · skip
            refine j_iconst dX7_tables_40 (by decide) ?_
            refine j_istore (ls' := [(0, jR 28), (1, jI n), (2, jI v2), (3, jI t_2), (4, jI t_4), (5, jI v5), (6, jI 0)]) dX7_tables_41 (by decide) rfl ?_
            have lp43_7 : ∀ n43 : Nat, ∀ (v2 v6 : Int), (0 ≤ v6 ∧ v6 ≤ t_4) ∧ (v2 = zP (fun k => zP (fun l => zS2 (zT (M 29) (M 30) p most q) ((2 : Int) ^ p.toNat) (M 31 k) (M 31 l)) t_4.toNat) v5.toNat + zP (fun l => zS2 (zT (M 29) (M 30) p most q) ((2 : Int) ^ p.toNat) (M 31 v5) (M 31 l)) v6.toNat) ∧ (0 ≤ v2 ∧ v2 ≤ 4096 * v5 + 64 * v6) → (t_4 - v6).toNat < n43 → jG D_X7_tables X FJ shJ 0 0 (jqI (q_X7_tables M p most q n)) 43 [(0, jR 28), (1, jI n), (2, jI v2), (3, jI t_2), (4, jI t_4), (5, jI v5), (6, jI v6)] ([]) M := by
              intro n43
              induction n43 with
              | zero => intro v2 v6  _ hz; exact absurd hz (Nat.not_lt_zero _)
              | succ n43 ih43 =>
                intro v2 v6  hinv hm
                obtain ⟨h6, hw, hbd2⟩ := hinv
                refine j_iload 6 dX7_tables_43 rfl ?_
                refine j_iload 4 dX7_tables_45 rfl ?_
                refine j_icmp_ge (tgt := 93) dX7_tables_47 (by decide) (fun c47_8 => ?_) (fun c47_8 => ?_)
                · skip
                  obtain ⟨v5_9, ev5_9⟩ : ∃ y : Int, y = v5 + 1 := ⟨_, rfl⟩
                  refine j_iinc (y := v5_9) (ls' := [(0, jR 28), (1, jI n), (2, jI v2), (3, jI t_2), (4, jI t_4), (5, jI v5_9), (6, jI v6)]) 5 dX7_tables_93 rfl ev5_9 (by omega) (by decide) rfl ?_
                  refine j_goto (tgt := 34) dX7_tables_96 (by decide) ?_
                  refine j_sub (ls' := [(0, jR 28), (1, jI n), (2, jI v2), (3, jI t_2), (4, jI t_4), (5, jI v5_9)]) [0, 1, 2, 3, 4, 5] rfl ?_
                  exact ih34 v2 v5_9 ⟨by omega, by have y : zP (fun k => zP (fun l => zS2 (zT (M 29) (M 30) p most q) ((2 : Int) ^ p.toNat) (M 31 k) (M 31 l)) t_4.toNat) (v5 + 1).toNat = zP (fun k => zP (fun l => zS2 (zT (M 29) (M 30) p most q) ((2 : Int) ^ p.toNat) (M 31 k) (M 31 l)) t_4.toNat) v5.toNat + zP (fun l => zS2 (zT (M 29) (M 30) p most q) ((2 : Int) ^ p.toNat) (M 31 v5) (M 31 l)) t_4.toNat := zP_s h5.1; rw [ev5_9, y]; rw [show v6 = t_4 by omega] at hw; exact hw, by omega⟩ (by omega)
                · skip
                  have hc := zAt hP (by omega) (k := v5) (by omega) (by omega)
                  have hb := zAt hP (by omega) (k := v6) (by omega) (by omega)
                  have y2 := zS2_in (zT (M 29) (M 30) p most q) ((2 : Int) ^ p.toNat) (M 31 v5) (M 31 v6) (by omega)
                  refine j_aload_n 0 dX7_tables_50 rfl rfl ?_
                  refine j_aload_n 0 dX7_tables_51 rfl rfl ?_
                  refine j_getr f_X7_18 r_28_5 dX7_tables_52 ?_
                  refine j_iload 5 dX7_tables_55 rfl ?_
                  refine j_iald a_31 dX7_tables_57 (by omega) (by omega) ?_
                  refine j_aload_n 0 dX7_tables_58 rfl rfl ?_
                  refine j_getr f_X7_18 r_28_5 dX7_tables_59 ?_
                  refine j_iload 6 dX7_tables_62 rfl ?_
                  refine j_iald a_31 dX7_tables_64 (by omega) (by omega) ?_
                  refine j_callVi l_X7_60 ⟨Nat.le_of_ble_eq_true rfl, Nat.le_of_ble_eq_true rfl⟩ ⟨rfl, rfl⟩ dX7_tables_65 ob_28 (c_X7_wanted M ((M 31 v5)) ((M 31 v6)) ⟨hP.1.1.1, hP.1.2.1.1, hP.1.2.2.1, ⟨by omega, by omega⟩, ⟨by omega, by omega⟩⟩) rfl rfl (Nat.le_of_ble_eq_true rfl) (fun r_10 M_11 h_12 => ?_)
                  obtain ⟨er_10, nh_12⟩ := h_12
                  refine j_eqM nh_12 ?_
                  clear nh_12
                  refine j_istore (ls' := [(0, jR 28), (1, jI n), (2, jI v2), (3, jI t_2), (4, jI t_4), (5, jI v5), (6, jI v6), (7, jI r_10)]) dX7_tables_68 (by decide) rfl ?_
                  have ht := zTab h_cneeds (by omega) rfl (by omega) hP hc.1 hb.1 er_10
                  refine j_iload 7 dX7_tables_70 rfl ?_
                  refine j_bipush dX7_tables_72 (by decide) ?_
                  refine j_icmp_eq (tgt := 87) dX7_tables_74 (by decide) (fun c74_13 => ?_) (fun c74_13 => ?_)
                  · skip
                    have z0 := ht.2 c74_13
                    obtain ⟨v6_14, ev6_14⟩ : ∃ y : Int, y = v6 + 1 := ⟨_, rfl⟩
                    refine j_iinc (y := v6_14) (ls' := [(0, jR 28), (1, jI n), (2, jI v2), (3, jI t_2), (4, jI t_4), (5, jI v5), (6, jI v6_14), (7, jI r_10)]) 6 dX7_tables_87 rfl ev6_14 (by omega) (by decide) rfl ?_
                    refine j_goto (tgt := 43) dX7_tables_90 (by decide) ?_
                    refine j_sub (ls' := [(0, jR 28), (1, jI n), (2, jI v2), (3, jI t_2), (4, jI t_4), (5, jI v5), (6, jI v6_14)]) [0, 1, 2, 3, 4, 5, 6] rfl ?_
                    exact ih43 v2 v6_14 ⟨by omega, by have y : zP (fun l => zS2 (zT (M 29) (M 30) p most q) ((2 : Int) ^ p.toNat) (M 31 v5) (M 31 l)) (v6 + 1).toNat = zP (fun l => zS2 (zT (M 29) (M 30) p most q) ((2 : Int) ^ p.toNat) (M 31 v5) (M 31 l)) v6.toNat + zS2 (zT (M 29) (M 30) p most q) ((2 : Int) ^ p.toNat) (M 31 v5) (M 31 v6) := zP_s h6.1; rw [ev6_14, y]; omega, by omega⟩ (by omega)
                  · skip
                    have z0 := ht.1 c74_13
                    refine j_iload_n 2 dX7_tables_77 rfl rfl ?_
                    refine j_aload_n 0 dX7_tables_78 rfl rfl ?_
                    refine j_getr f_X7_21 r_28_7 dX7_tables_79 ?_
                    refine j_iload 7 dX7_tables_82 rfl ?_
                    refine j_iald a_32 dX7_tables_84 (by omega) (by omega) ?_
                    refine j_iadd dX7_tables_85 (by omega) ?_
                    refine j_nm (fun v2_15 ev2_15 => ?_)
                    refine j_istore_n (ls' := [(0, jR 28), (1, jI n), (2, jI v2_15), (3, jI t_2), (4, jI t_4), (5, jI v5), (6, jI v6), (7, jI r_10)]) dX7_tables_86 rfl (by decide) rfl ?_
                    obtain ⟨v6_16, ev6_16⟩ : ∃ y : Int, y = v6 + 1 := ⟨_, rfl⟩
                    refine j_iinc (y := v6_16) (ls' := [(0, jR 28), (1, jI n), (2, jI v2_15), (3, jI t_2), (4, jI t_4), (5, jI v5), (6, jI v6_16), (7, jI r_10)]) 6 dX7_tables_87 rfl ev6_16 (by omega) (by decide) rfl ?_
                    refine j_goto (tgt := 43) dX7_tables_90 (by decide) ?_
                    refine j_sub (ls' := [(0, jR 28), (1, jI n), (2, jI v2_15), (3, jI t_2), (4, jI t_4), (5, jI v5), (6, jI v6_16)]) [0, 1, 2, 3, 4, 5, 6] rfl ?_
                    exact ih43 v2_15 v6_16 ⟨by omega, by have y : zP (fun l => zS2 (zT (M 29) (M 30) p most q) ((2 : Int) ^ p.toNat) (M 31 v5) (M 31 l)) (v6 + 1).toNat = zP (fun l => zS2 (zT (M 29) (M 30) p most q) ((2 : Int) ^ p.toNat) (M 31 v5) (M 31 l)) v6.toNat + zS2 (zT (M 29) (M 30) p most q) ((2 : Int) ^ p.toNat) (M 31 v5) (M 31 v6) := zP_s h6.1; rw [ev6_16, y]; omega, by omega⟩ (by omega)
            exact lp43_7 _ v2 0 ⟨by omega, by rw [hv]; show _ = _ + 0; omega, by omega⟩ (Nat.lt_succ_self _)
      exact lp34_5 _ 0 0 ⟨by first | omega | rfl, by first | omega | rfl, by first | omega | rfl⟩ (Nat.lt_succ_self _)
    refine j_icmp_le (tgt := 28) dX7_tables_18 (by decide) (fun c18_17 => ?_) (fun c18_17 => ?_)
    · skip
      refine j_iconst dX7_tables_28 (by decide) ?_
      exact hJ_3 _ (Or.inl ⟨c18_17, rfl⟩)
    · skip
      refine j_aload_n 0 dX7_tables_21 rfl rfl ?_
      refine j_geti (k' := 6) f_X7_48 o_28_6 dX7_tables_22 rfl ?_
      refine j_goto (tgt := 29) dX7_tables_25 (by decide) ?_
      exact hJ_3 _ (Or.inr (⟨c18_17, rfl⟩))
  refine j_icmp_le (tgt := 14) dX7_tables_4 (by decide) (fun c4_18 => ?_) (fun c4_18 => ?_)
  · skip
    refine j_iconst dX7_tables_14 (by decide) ?_
    exact hJ_1 _ (Or.inl ⟨c4_18, rfl⟩)
  · skip
    refine j_aload_n 0 dX7_tables_7 rfl rfl ?_
    refine j_geti (k' := 6) f_X7_48 o_28_6 dX7_tables_8 rfl ?_
    refine j_goto (tgt := 15) dX7_tables_11 (by decide) ?_
    exact hJ_1 _ (Or.inr (⟨c4_18, rfl⟩))
abbrev q_X7_leastTable (M : jM) (p most q : Int) (n : Int) : Int → jM → Prop := fun r N => (zLst (zT (M 29) (M 30) p most q) ((2 : Int) ^ p.toNat) (if 1 < n then ((2 : Int) ^ p.toNat) else 1) (if 2 < n then ((2 : Int) ^ p.toNat) else 1) 262144 r) ∧ N = M
set_option maxHeartbeats 4000000 in
set_option maxRecDepth 20000 in
theorem c_X7_leastTable {X : jX} (M : jM) (p most q : Int) (n : Int) (h_cneeds : ∀ i, 0 ≤ M 30 i ∧ M 30 i ≤ 3) (h0 : 1 ≤ p ∧ p ≤ 6 ∧ 0 ≤ most ∧ 1 ≤ q ∧ 1 ≤ n ∧ n ≤ 3) (hP : zPrep M (M 29) (M 30) p most q ((2 : Int) ^ p.toNat)) : jC yX7_leastTable D_X7_leastTable X FJ shJ [jR 28, jI n] M (jqI (q_X7_leastTable M p most q n)) := by
  refine jC_of (by decide) rfl (fun ad => Nat.le_of_ble_eq_true rfl) (by decide) ?_
  show jG D_X7_leastTable X FJ shJ 0 0 (jqI (q_X7_leastTable M p most q n)) 0 [(0, jR 28), (1, jI n)] [] M
  have hp2 := p2n (n := p) (by omega)
  have hp1 : (0 : Int) < 2 ^ p.toNat := Int.pow_pos (by decide)
  have i1 := zIdx_in (mn := M 29) (p := p) (most := most) (q := q) (s := ((2 : Int) ^ p.toNat)) (by omega)
  have hB : (0 ≤ (if 1 < n then ((2 : Int) ^ p.toNat) else 1) ∧ (if 1 < n then ((2 : Int) ^ p.toNat) else 1) ≤ ((2 : Int) ^ p.toNat)) ∧ (0 ≤ (if 2 < n then ((2 : Int) ^ p.toNat) else 1) ∧ (if 2 < n then ((2 : Int) ^ p.toNat) else 1) ≤ ((2 : Int) ^ p.toNat)) := by constructor <;> split <;> omega
  have m1 := zIdx_mono (mn := M 29) (p := p) (most := most) (q := q) hB.1.1 hB.1.2
  have m2 := zIdx_mono (mn := M 29) (p := p) (most := most) (q := q) hB.2.1 hB.2.2
  have m3 := (zIdx_in (mn := M 29) (p := p) (most := most) (q := q) hB.1.1).1
  have m4 := (zIdx_in (mn := M 29) (p := p) (most := most) (q := q) hB.2.1).1
  refine j_iload_n 1 dX7_leastTable_0 rfl rfl ?_
  refine j_iconst dX7_leastTable_1 (by decide) ?_
  have hJ_1 : ∀ zz : Int, (n ≤ 2 ∧ zz = 1) ∨ (¬ (n ≤ 2) ∧ zz = (M 28 6)) → jG D_X7_leastTable X FJ shJ 0 0 (jqI (q_X7_leastTable M p most q n)) 13 [(0, jR 28), (1, jI n)] (jI zz :: []) M := by
    intro t_2 et_2
    refine j_istore_n (ls' := [(0, jR 28), (1, jI n), (2, jI t_2)]) dX7_leastTable_13 rfl (by decide) rfl ?_
    refine j_iload_n 1 dX7_leastTable_14 rfl rfl ?_
    refine j_iconst dX7_leastTable_15 (by decide) ?_
    have hJ_3 : ∀ zz : Int, (n ≤ 1 ∧ zz = 1) ∨ (¬ (n ≤ 1) ∧ zz = (M 28 6)) → jG D_X7_leastTable X FJ shJ 0 0 (jqI (q_X7_leastTable M p most q n)) 27 [(0, jR 28), (1, jI n), (2, jI t_2)] (jI zz :: []) M := by
      intro t_4 et_4
      refine j_istore_n (ls' := [(0, jR 28), (1, jI n), (2, jI t_2), (3, jI t_4)]) dX7_leastTable_27 rfl (by decide) rfl ?_
      have e2 : t_2 = zIdx (M 29) p most q (if 2 < n then ((2 : Int) ^ p.toNat) else 1) := by rcases et_2 with ⟨a, b⟩ | ⟨a, b⟩; (· rw [b, if_neg (by omega), zIdx_1 (by omega) (by omega)]); (· rw [b, if_pos (by omega)]; exact hP.2.1)
      have e3 : t_4 = zIdx (M 29) p most q (if 1 < n then ((2 : Int) ^ p.toNat) else 1) := by rcases et_4 with ⟨a, b⟩ | ⟨a, b⟩; (· rw [b, if_neg (by omega), zIdx_1 (by omega) (by omega)]); (· rw [b, if_pos (by omega)]; exact hP.2.1)
      refine j_iconst dX7_leastTable_28 (by decide) ?_
      refine j_istore (ls' := [(0, jR 28), (1, jI n), (2, jI t_2), (3, jI t_4), (4, jI 0)]) dX7_leastTable_29 (by decide) rfl ?_
      have lp31_5 : ∀ n31 : Nat, ∀ (v4 : Int), (0 ≤ v4 ∧ v4 ≤ t_2) ∧ (zAll3 (zT (M 29) (M 30) p most q) ((2 : Int) ^ p.toNat) (if 1 < n then ((2 : Int) ^ p.toNat) else 1) (if 2 < n then ((2 : Int) ^ p.toNat) else 1) (fun a b c => v4 ≤ zIdx (M 29) p most q c)) → (t_2 - v4).toNat < n31 → jG D_X7_leastTable X FJ shJ 0 0 (jqI (q_X7_leastTable M p most q n)) 31 [(0, jR 28), (1, jI n), (2, jI t_2), (3, jI t_4), (4, jI v4)] ([]) M := by
        intro n31
        induction n31 with
        | zero => intro v4  _ hz; exact absurd hz (Nat.not_lt_zero _)
        | succ n31 ih31 =>
          intro v4  hinv hm
          obtain ⟨h4, hn⟩ := hinv
          refine j_iload 4 dX7_leastTable_31 rfl ?_
          refine j_iload_n 2 dX7_leastTable_33 rfl rfl ?_
          refine j_icmp_ge (tgt := 125) dX7_leastTable_34 (by decide) (fun c34_6 => ?_) (fun c34_6 => ?_)
          · skip
            refine j_bipush dX7_leastTable_125 (by decide) ?_
            refine j_iret rfl rfl rfl rfl dX7_leastTable_127 ?_
            exact ⟨zNo_end hn (by omega), rfl⟩
          · skip
            refine j_iconst dX7_leastTable_37 (by decide) ?_
            refine j_istore (ls' := [(0, jR 28), (1, jI n), (2, jI t_2), (3, jI t_4), (4, jI v4), (5, jI 0)]) dX7_leastTable_38 (by decide) rfl ?_
            have lp40_7 : ∀ n40 : Nat, ∀ (v5 : Int), (0 ≤ v5 ∧ v5 ≤ t_4) ∧ (zAll3 (zT (M 29) (M 30) p most q) ((2 : Int) ^ p.toNat) (if 1 < n then ((2 : Int) ^ p.toNat) else 1) (if 2 < n then ((2 : Int) ^ p.toNat) else 1) (fun a b c => v4 < zIdx (M 29) p most q c ∨ (v4 = zIdx (M 29) p most q c ∧ v5 ≤ zIdx (M 29) p most q b))) → (t_4 - v5).toNat < n40 → jG D_X7_leastTable X FJ shJ 0 0 (jqI (q_X7_leastTable M p most q n)) 40 [(0, jR 28), (1, jI n), (2, jI t_2), (3, jI t_4), (4, jI v4), (5, jI v5)] ([]) M := by
              intro n40
              induction n40 with
              | zero => intro v5  _ hz; exact absurd hz (Nat.not_lt_zero _)
              | succ n40 ih40 =>
                intro v5  hinv hm
                obtain ⟨h5, hn2⟩ := hinv
                refine j_iload 5 dX7_leastTable_40 rfl ?_
                refine j_iload_n 3 dX7_leastTable_42 rfl rfl ?_
                refine j_icmp_ge (tgt := 119) dX7_leastTable_43 (by decide) (fun c43_8 => ?_) (fun c43_8 => ?_)
                · skip
                  obtain ⟨v4_9, ev4_9⟩ : ∃ y : Int, y = v4 + 1 := ⟨_, rfl⟩
                  refine j_iinc (y := v4_9) (ls' := [(0, jR 28), (1, jI n), (2, jI t_2), (3, jI t_4), (4, jI v4_9), (5, jI v5)]) 4 dX7_leastTable_119 rfl ev4_9 (by omega) (by decide) rfl ?_
                  refine j_goto (tgt := 31) dX7_leastTable_122 (by decide) ?_
                  refine j_sub (ls' := [(0, jR 28), (1, jI n), (2, jI t_2), (3, jI t_4), (4, jI v4_9)]) [0, 1, 2, 3, 4] rfl ?_
                  exact ih31 v4_9 ⟨by omega, by rw [ev4_9]; exact zNo_out hn2 (by omega)⟩ (by omega)
                · skip
                  have hc := zAt hP (by omega) (k := v4) (by omega) (by omega)
                  have hb := zAt hP (by omega) (k := v5) (by omega) (by omega)
                  refine j_aload_n 0 dX7_leastTable_46 rfl rfl ?_
                  refine j_aload_n 0 dX7_leastTable_47 rfl rfl ?_
                  refine j_getr f_X7_18 r_28_5 dX7_leastTable_48 ?_
                  refine j_iload 4 dX7_leastTable_51 rfl ?_
                  refine j_iald a_31 dX7_leastTable_53 (by omega) (by omega) ?_
                  refine j_aload_n 0 dX7_leastTable_54 rfl rfl ?_
                  refine j_getr f_X7_18 r_28_5 dX7_leastTable_55 ?_
                  refine j_iload 5 dX7_leastTable_58 rfl ?_
                  refine j_iald a_31 dX7_leastTable_60 (by omega) (by omega) ?_
                  refine j_callVi l_X7_60 ⟨Nat.le_of_ble_eq_true rfl, Nat.le_of_ble_eq_true rfl⟩ ⟨rfl, rfl⟩ dX7_leastTable_61 ob_28 (c_X7_wanted M ((M 31 v4)) ((M 31 v5)) ⟨hP.1.1.1, hP.1.2.1.1, hP.1.2.2.1, ⟨by omega, by omega⟩, ⟨by omega, by omega⟩⟩) rfl rfl (Nat.le_of_ble_eq_true rfl) (fun r_10 M_11 h_12 => ?_)
                  obtain ⟨er_10, nh_12⟩ := h_12
                  refine j_eqM nh_12 ?_
                  clear nh_12
                  refine j_istore (ls' := [(0, jR 28), (1, jI n), (2, jI t_2), (3, jI t_4), (4, jI v4), (5, jI v5), (6, jI r_10)]) dX7_leastTable_64 (by decide) rfl ?_
                  have ht := zTab h_cneeds (by omega) rfl (by omega) hP hc.1 hb.1 er_10
                  have ez := er_10
                  refine j_iload 6 dX7_leastTable_66 rfl ?_
                  refine j_bipush dX7_leastTable_68 (by decide) ?_
                  refine j_icmp_eq (tgt := 113) dX7_leastTable_70 (by decide) (fun c70_13 => ?_) (fun c70_13 => ?_)
                  · skip
                    have z0 : zS2 (zT (M 29) (M 30) p most q) ((2 : Int) ^ p.toNat) (M 31 v4) (M 31 v5) ≤ 0 := Int.le_of_eq (ht.2 c70_13)
                    obtain ⟨v5_14, ev5_14⟩ : ∃ y : Int, y = v5 + 1 := ⟨_, rfl⟩
                    refine j_iinc (y := v5_14) (ls' := [(0, jR 28), (1, jI n), (2, jI t_2), (3, jI t_4), (4, jI v4), (5, jI v5_14), (6, jI r_10)]) 5 dX7_leastTable_113 rfl ev5_14 (by omega) (by decide) rfl ?_
                    refine j_goto (tgt := 40) dX7_leastTable_116 (by decide) ?_
                    refine j_sub (ls' := [(0, jR 28), (1, jI n), (2, jI t_2), (3, jI t_4), (4, jI v4), (5, jI v5_14)]) [0, 1, 2, 3, 4, 5] rfl ?_
                    exact ih40 v5_14 ⟨by omega, by rw [ev5_14]; exact zNo_step hP hB.1.2 hB.2.2 hn2 z0⟩ (by omega)
                  · skip
                    have z1 := ht.1 c70_13
                    have z9 := c70_13
                    refine j_aload_n 0 dX7_leastTable_73 rfl rfl ?_
                    refine j_getr f_X7_21 r_28_7 dX7_leastTable_74 ?_
                    refine j_iload 6 dX7_leastTable_77 rfl ?_
                    refine j_iald a_32 dX7_leastTable_79 (by omega) (by omega) ?_
                    refine j_if_le (tgt := 113) dX7_leastTable_80 (by decide) (fun c80_15 => ?_) (fun c80_15 => ?_)
                    · skip
                      have z0 : zS2 (zT (M 29) (M 30) p most q) ((2 : Int) ^ p.toNat) (M 31 v4) (M 31 v5) ≤ 0 := by omega
                      obtain ⟨v5_16, ev5_16⟩ : ∃ y : Int, y = v5 + 1 := ⟨_, rfl⟩
                      refine j_iinc (y := v5_16) (ls' := [(0, jR 28), (1, jI n), (2, jI t_2), (3, jI t_4), (4, jI v4), (5, jI v5_16), (6, jI r_10)]) 5 dX7_leastTable_113 rfl ev5_16 (by omega) (by decide) rfl ?_
                      refine j_goto (tgt := 40) dX7_leastTable_116 (by decide) ?_
                      refine j_sub (ls' := [(0, jR 28), (1, jI n), (2, jI t_2), (3, jI t_4), (4, jI v4), (5, jI v5_16)]) [0, 1, 2, 3, 4, 5] rfl ?_
                      exact ih40 v5_16 ⟨by omega, by rw [ev5_16]; exact zNo_step hP hB.1.2 hB.2.2 hn2 z0⟩ (by omega)
                    · skip
                      have z2 := zTab_first h_cneeds (by omega) rfl (by omega) hP hc.1 hb.1 ez z9 (by omega)
                      refine j_aload_n 0 dX7_leastTable_83 rfl rfl ?_
                      refine j_getr f_X7_18 r_28_5 dX7_leastTable_84 ?_
                      refine j_iload 4 dX7_leastTable_87 rfl ?_
                      refine j_iald a_31 dX7_leastTable_89 (by omega) (by omega) ?_
                      refine j_bipush dX7_leastTable_90 (by decide) ?_
                      refine j_ishl dX7_leastTable_92 ?_
                      refine j_aload_n 0 dX7_leastTable_93 rfl rfl ?_
                      refine j_getr f_X7_18 r_28_5 dX7_leastTable_94 ?_
                      refine j_iload 5 dX7_leastTable_97 rfl ?_
                      refine j_iald a_31 dX7_leastTable_99 (by omega) (by omega) ?_
                      refine j_bipush dX7_leastTable_100 (by decide) ?_
                      refine j_ishl dX7_leastTable_102 ?_
                      refine j_ior dX7_leastTable_103 ?_
                      refine j_aload_n 0 dX7_leastTable_104 rfl rfl ?_
                      refine j_getr f_X7_24 r_28_8 dX7_leastTable_105 ?_
                      refine j_iload 6 dX7_leastTable_108 rfl ?_
                      refine j_iald a_33 dX7_leastTable_110 (by omega) (by omega) ?_
                      refine j_ior dX7_leastTable_111 ?_
                      refine j_iret rfl rfl rfl rfl dX7_leastTable_112 ?_
                      exact ⟨zFound hP ⟨by omega, by omega⟩ hB.1.2 hB.2.2 hn2 ⟨h4.1, by omega⟩ ⟨h5.1, by omega⟩ hB.2.1 hB.1.1 z2, rfl⟩
            exact lp40_7 _ 0 ⟨by omega, by exact zNo_in hn⟩ (Nat.lt_succ_self _)
      exact lp31_5 _ 0 ⟨by omega, by intro a b c _ _ _ _ c0 _ _; exact (zIdx_in c0).1⟩ (Nat.lt_succ_self _)
    refine j_icmp_le (tgt := 26) dX7_leastTable_16 (by decide) (fun c16_17 => ?_) (fun c16_17 => ?_)
    · skip
      refine j_iconst dX7_leastTable_26 (by decide) ?_
      exact hJ_3 _ (Or.inl ⟨c16_17, rfl⟩)
    · skip
      refine j_aload_n 0 dX7_leastTable_19 rfl rfl ?_
      refine j_geti (k' := 6) f_X7_48 o_28_6 dX7_leastTable_20 rfl ?_
      refine j_goto (tgt := 27) dX7_leastTable_23 (by decide) ?_
      exact hJ_3 _ (Or.inr (⟨c16_17, rfl⟩))
  refine j_icmp_le (tgt := 12) dX7_leastTable_2 (by decide) (fun c2_18 => ?_) (fun c2_18 => ?_)
  · skip
    refine j_iconst dX7_leastTable_12 (by decide) ?_
    exact hJ_1 _ (Or.inl ⟨c2_18, rfl⟩)
  · skip
    refine j_aload_n 0 dX7_leastTable_5 rfl rfl ?_
    refine j_geti (k' := 6) f_X7_48 o_28_6 dX7_leastTable_6 rfl ?_
    refine j_goto (tgt := 13) dX7_leastTable_9 (by decide) ?_
    exact hJ_1 _ (Or.inr (⟨c2_18, rfl⟩))
abbrev q_X8_can (M : jM)  (p n most q w : Int) : Int → jM → Prop := fun r N => ((¬ ((1 ≤ p ∧ p ≤ 6) ∧ (1 ≤ n ∧ n ≤ 3) ∧ (0 ≤ most ∧ most ≤ 1800) ∧ (1 ≤ q ∧ q ≤ 6) ∧ 0 ≤ w ∧ w ≤ 1) ∧ r = -1) ∨ (((1 ≤ p ∧ p ≤ 6) ∧ (1 ≤ n ∧ n ≤ 3) ∧ (0 ≤ most ∧ most ≤ 1800) ∧ (1 ≤ q ∧ q ≤ 6) ∧ 0 ≤ w ∧ w ≤ 1) ∧ (w = 0 → r = zS3 (zT (M 29) (M 30) p most q) ((2 : Int) ^ p.toNat) (if 1 < n then ((2 : Int) ^ p.toNat) else 1) (if 2 < n then ((2 : Int) ^ p.toNat) else 1)) ∧ (w = 1 → zLst (zT (M 29) (M 30) p most q) ((2 : Int) ^ p.toNat) (if 1 < n then ((2 : Int) ^ p.toNat) else 1) (if 2 < n then ((2 : Int) ^ p.toNat) else 1) 262144 r))) ∧ (∀ c, c ≠ 28 → c ≠ 31 → c ≠ 32 → c ≠ 33 → N c = M c)
set_option maxHeartbeats 4000000 in
set_option maxRecDepth 20000 in
theorem c_X8_can {X : jX} (M : jM)  (p n most q w : Int) (h_cneeds : ∀ i, 0 ≤ M 30 i ∧ M 30 i ≤ 3) (h_cminutes : ∀ i, 0 ≤ M 29 i ∧ M 29 i ≤ 300) : jC yX8_can D_X8_can X FJ shJ [jR 0, jI p, jI n, jI most, jI q, jI w] M (jqI (q_X8_can M p n most q w)) := by
  refine jC_of (by decide) rfl (fun ad => Nat.le_of_ble_eq_true rfl) (by decide) ?_
  show jG D_X8_can X FJ shJ 0 0 (jqI (q_X8_can M p n most q w)) 0 [(0, jR 0), (1, jI p), (2, jI n), (3, jI most), (4, jI q), (5, jI w)] [] M
  refine j_iload_n 1 dX8_can_0 rfl rfl ?_
  refine j_iconst dX8_can_1 (by decide) ?_
  refine j_bipush dX8_can_2 (by decide) ?_
  refine j_callSi l_X8_74 ⟨Nat.le_of_ble_eq_true rfl, Nat.le_of_ble_eq_true rfl⟩ ⟨rfl, rfl⟩ dX8_can_4 (c_X8_within M p 1 6) rfl rfl (Nat.le_of_ble_eq_true rfl) (fun r_1 M_2 h_3 => ?_)
  obtain ⟨er_1, nh_3⟩ := h_3
  refine j_eqM nh_3 ?_
  clear nh_3
  refine j_if_eq (tgt := 30) dX8_can_7 (by decide) (fun c7_4 => ?_) (fun c7_4 => ?_)
  · skip
    refine j_iconst dX8_can_30 (by decide) ?_
    refine j_iret rfl rfl rfl rfl dX8_can_31 ?_
    exact ⟨Or.inl ⟨by omega, rfl⟩, fun _ _ _ _ _ => rfl⟩
  · skip
    refine j_iload_n 2 dX8_can_10 rfl rfl ?_
    refine j_iconst dX8_can_11 (by decide) ?_
    refine j_iconst dX8_can_12 (by decide) ?_
    refine j_callSi l_X8_74 ⟨Nat.le_of_ble_eq_true rfl, Nat.le_of_ble_eq_true rfl⟩ ⟨rfl, rfl⟩ dX8_can_13 (c_X8_within M n 1 3) rfl rfl (Nat.le_of_ble_eq_true rfl) (fun r_5 M_6 h_7 => ?_)
    obtain ⟨er_5, nh_7⟩ := h_7
    refine j_eqM nh_7 ?_
    clear nh_7
    refine j_if_eq (tgt := 30) dX8_can_16 (by decide) (fun c16_8 => ?_) (fun c16_8 => ?_)
    · skip
      refine j_iconst dX8_can_30 (by decide) ?_
      refine j_iret rfl rfl rfl rfl dX8_can_31 ?_
      exact ⟨Or.inl ⟨by omega, rfl⟩, fun _ _ _ _ _ => rfl⟩
    · skip
      refine j_iload_n 3 dX8_can_19 rfl rfl ?_
      refine j_iconst dX8_can_20 (by decide) ?_
      refine j_sipush dX8_can_21 (by decide) ?_
      refine j_callSi l_X8_74 ⟨Nat.le_of_ble_eq_true rfl, Nat.le_of_ble_eq_true rfl⟩ ⟨rfl, rfl⟩ dX8_can_24 (c_X8_within M most 0 1800) rfl rfl (Nat.le_of_ble_eq_true rfl) (fun r_9 M_10 h_11 => ?_)
      obtain ⟨er_9, nh_11⟩ := h_11
      refine j_eqM nh_11 ?_
      clear nh_11
      refine j_if_ne (tgt := 32) dX8_can_27 (by decide) (fun c27_12 => ?_) (fun c27_12 => ?_)
      · skip
        refine j_iload 4 dX8_can_32 rfl ?_
        refine j_iconst dX8_can_34 (by decide) ?_
        refine j_bipush dX8_can_35 (by decide) ?_
        refine j_callSi l_X8_74 ⟨Nat.le_of_ble_eq_true rfl, Nat.le_of_ble_eq_true rfl⟩ ⟨rfl, rfl⟩ dX8_can_37 (c_X8_within M q 1 6) rfl rfl (Nat.le_of_ble_eq_true rfl) (fun r_13 M_14 h_15 => ?_)
        obtain ⟨er_13, nh_15⟩ := h_15
        refine j_eqM nh_15 ?_
        clear nh_15
        refine j_if_eq (tgt := 53) dX8_can_40 (by decide) (fun c40_16 => ?_) (fun c40_16 => ?_)
        · skip
          refine j_iconst dX8_can_53 (by decide) ?_
          refine j_iret rfl rfl rfl rfl dX8_can_54 ?_
          exact ⟨Or.inl ⟨by omega, rfl⟩, fun _ _ _ _ _ => rfl⟩
        · skip
          refine j_iload 5 dX8_can_43 rfl ?_
          refine j_iconst dX8_can_45 (by decide) ?_
          refine j_iconst dX8_can_46 (by decide) ?_
          refine j_callSi l_X8_74 ⟨Nat.le_of_ble_eq_true rfl, Nat.le_of_ble_eq_true rfl⟩ ⟨rfl, rfl⟩ dX8_can_47 (c_X8_within M w 0 1) rfl rfl (Nat.le_of_ble_eq_true rfl) (fun r_17 M_18 h_19 => ?_)
          obtain ⟨er_17, nh_19⟩ := h_19
          refine j_eqM nh_19 ?_
          clear nh_19
          refine j_if_ne (tgt := 55) dX8_can_50 (by decide) (fun c50_20 => ?_) (fun c50_20 => ?_)
          · skip
            refine j_aload_n 0 dX8_can_55 rfl rfl ?_
            refine j_getr f_X8_35 r_0_4 dX8_can_56 ?_
            refine j_iload_n 1 dX8_can_59 rfl rfl ?_
            refine j_iload_n 3 dX8_can_60 rfl rfl ?_
            refine j_iload 4 dX8_can_61 rfl ?_
            refine j_callVv l_X8_219 ⟨Nat.le_of_ble_eq_true rfl, Nat.le_of_ble_eq_true rfl⟩ ⟨rfl, rfl⟩ dX8_can_63 ob_28 (c_X7_prepare M p most q h_cneeds h_cminutes (by first | assumption | omega)) rfl rfl (Nat.le_of_ble_eq_true rfl) (fun M_22 h_23 => ?_)
            obtain ⟨hprep, frh_23⟩ := h_23
            refine j_iload 5 dX8_can_66 rfl ?_
            refine j_if_ne (tgt := 82) dX8_can_68 (by decide) (fun c68_24 => ?_) (fun c68_24 => ?_)
            · skip
              refine j_aload_n 0 dX8_can_82 rfl rfl ?_
              refine j_getr f_X8_35 r_0_4 dX8_can_83 ?_
              refine j_iload_n 2 dX8_can_86 rfl rfl ?_
              refine j_callVi l_X8_225 ⟨Nat.le_of_ble_eq_true rfl, Nat.le_of_ble_eq_true rfl⟩ ⟨rfl, rfl⟩ dX8_can_87 ob_28 (c_X7_leastTable M_22 p most q n (by rw [(frh_23 30 (by decide) (by decide) (by decide) (by decide))]; exact h_cneeds) (by omega) (by rw [frh_23 29 (by decide) (by decide) (by decide) (by decide), frh_23 30 (by decide) (by decide) (by decide) (by decide)]; exact hprep)) rfl rfl (Nat.le_of_ble_eq_true rfl) (fun r_25 M_26 h_27 => ?_)
              obtain ⟨er_25, nh_27⟩ := h_27
              refine j_eqM nh_27 ?_
              clear nh_27
              simp only [(frh_23 29 (by decide) (by decide) (by decide) (by decide)), (frh_23 30 (by decide) (by decide) (by decide) (by decide))] at er_25
              refine j_iret rfl rfl rfl rfl dX8_can_90 ?_
              refine ⟨Or.inr ⟨by omega, fun hw => ?_, fun hw => ?_⟩, frh_23⟩
              all_goals first | (exfalso; omega) | exact er_25
            · skip
              refine j_aload_n 0 dX8_can_71 rfl rfl ?_
              refine j_getr f_X8_35 r_0_4 dX8_can_72 ?_
              refine j_iload_n 2 dX8_can_75 rfl rfl ?_
              refine j_callVi l_X8_222 ⟨Nat.le_of_ble_eq_true rfl, Nat.le_of_ble_eq_true rfl⟩ ⟨rfl, rfl⟩ dX8_can_76 ob_28 (c_X7_tables M_22 p most q n (by rw [(frh_23 30 (by decide) (by decide) (by decide) (by decide))]; exact h_cneeds) (by omega) (by rw [frh_23 29 (by decide) (by decide) (by decide) (by decide), frh_23 30 (by decide) (by decide) (by decide) (by decide)]; exact hprep)) rfl rfl (Nat.le_of_ble_eq_true rfl) (fun r_28 M_29 h_30 => ?_)
              obtain ⟨er_28, nh_30⟩ := h_30
              refine j_eqM nh_30 ?_
              clear nh_30
              simp only [(frh_23 29 (by decide) (by decide) (by decide) (by decide)), (frh_23 30 (by decide) (by decide) (by decide) (by decide))] at er_28
              refine j_goto (tgt := 90) dX8_can_79 (by decide) ?_
              refine j_iret rfl rfl rfl rfl dX8_can_90 ?_
              refine ⟨Or.inr ⟨by omega, fun hw => ?_, fun hw => ?_⟩, frh_23⟩
              all_goals first | (exfalso; omega) | exact er_28
          · skip
            refine j_iconst dX8_can_53 (by decide) ?_
            refine j_iret rfl rfl rfl rfl dX8_can_54 ?_
            exact ⟨Or.inl ⟨by omega, rfl⟩, fun _ _ _ _ _ => rfl⟩
      · skip
        refine j_iconst dX8_can_30 (by decide) ?_
        refine j_iret rfl rfl rfl rfl dX8_can_31 ?_
        exact ⟨Or.inl ⟨by omega, rfl⟩, fun _ _ _ _ _ => rfl⟩
abbrev q_X9_can (M : jM)  (p n most q w : Int) : Int → jM → Prop := fun r N => ((¬ ((1 ≤ p ∧ p ≤ 6) ∧ (1 ≤ n ∧ n ≤ 3) ∧ (0 ≤ most ∧ most ≤ 1800) ∧ (1 ≤ q ∧ q ≤ 6) ∧ 0 ≤ w ∧ w ≤ 1) ∧ r = -1) ∨ (((1 ≤ p ∧ p ≤ 6) ∧ (1 ≤ n ∧ n ≤ 3) ∧ (0 ≤ most ∧ most ≤ 1800) ∧ (1 ≤ q ∧ q ≤ 6) ∧ 0 ≤ w ∧ w ≤ 1) ∧ (w = 0 → r = zS3 (zT (M 97) (M 98) p most q) ((2 : Int) ^ p.toNat) (if 1 < n then ((2 : Int) ^ p.toNat) else 1) (if 2 < n then ((2 : Int) ^ p.toNat) else 1)) ∧ (w = 1 → zLst (zT (M 97) (M 98) p most q) ((2 : Int) ^ p.toNat) (if 1 < n then ((2 : Int) ^ p.toNat) else 1) (if 2 < n then ((2 : Int) ^ p.toNat) else 1) 262144 r))) ∧ (N = jup M 74 0 0)
set_option maxHeartbeats 4000000 in
set_option maxRecDepth 20000 in
theorem c_X9_can {X : jX} (M : jM)  (p n most q w : Int) (h_rneeds : ∀ i, 0 ≤ M 98 i ∧ M 98 i ≤ 3) (h_rminutes : ∀ i, 0 ≤ M 97 i ∧ M 97 i ≤ 300) : jC yX9_can D_X9_can X FJ shJ [jR 74, jI p, jI n, jI most, jI q, jI w] M (jqI (q_X9_can M p n most q w)) := by
  refine jC_of (by decide) rfl (fun ad => Nat.le_of_ble_eq_true rfl) (by decide) ?_
  show jG D_X9_can X FJ shJ 0 0 (jqI (q_X9_can M p n most q w)) 0 [(0, jR 74), (1, jI p), (2, jI n), (3, jI most), (4, jI q), (5, jI w)] [] M
  refine j_aload_n 0 dX9_can_0 rfl rfl ?_
  refine j_iconst dX9_can_1 (by decide) ?_
  refine j_puti (k' := 0) f_X9_124 o_74_0 dX9_can_2 rfl ?_
  refine j_nmM (fun M_1 eM_1 => ?_)
  refine j_iload_n 1 dX9_can_5 rfl rfl ?_
  refine j_iconst dX9_can_6 (by decide) ?_
  refine j_bipush dX9_can_7 (by decide) ?_
  refine j_callSi l_X9_137 ⟨Nat.le_of_ble_eq_true rfl, Nat.le_of_ble_eq_true rfl⟩ ⟨rfl, rfl⟩ dX9_can_9 (c_X9_in M_1 p 1 6) rfl rfl (Nat.le_of_ble_eq_true rfl) (fun r_2 M_3 h_4 => ?_)
  obtain ⟨er_2, nh_4⟩ := h_4
  refine j_eqM nh_4 ?_
  clear nh_4
  refine j_if_eq (tgt := 56) dX9_can_12 (by decide) (fun c12_5 => ?_) (fun c12_5 => ?_)
  · skip
    refine j_iconst dX9_can_56 (by decide) ?_
    refine j_iret rfl rfl rfl rfl dX9_can_57 ?_
    exact ⟨Or.inl ⟨by omega, rfl⟩, eM_1⟩
  · skip
    refine j_iload_n 2 dX9_can_15 rfl rfl ?_
    refine j_iconst dX9_can_16 (by decide) ?_
    refine j_iconst dX9_can_17 (by decide) ?_
    refine j_callSi l_X9_137 ⟨Nat.le_of_ble_eq_true rfl, Nat.le_of_ble_eq_true rfl⟩ ⟨rfl, rfl⟩ dX9_can_18 (c_X9_in M_1 n 1 3) rfl rfl (Nat.le_of_ble_eq_true rfl) (fun r_6 M_7 h_8 => ?_)
    obtain ⟨er_6, nh_8⟩ := h_8
    refine j_eqM nh_8 ?_
    clear nh_8
    refine j_if_eq (tgt := 56) dX9_can_21 (by decide) (fun c21_9 => ?_) (fun c21_9 => ?_)
    · skip
      refine j_iconst dX9_can_56 (by decide) ?_
      refine j_iret rfl rfl rfl rfl dX9_can_57 ?_
      exact ⟨Or.inl ⟨by omega, rfl⟩, eM_1⟩
    · skip
      refine j_iload_n 3 dX9_can_24 rfl rfl ?_
      refine j_iconst dX9_can_25 (by decide) ?_
      refine j_sipush dX9_can_26 (by decide) ?_
      refine j_callSi l_X9_137 ⟨Nat.le_of_ble_eq_true rfl, Nat.le_of_ble_eq_true rfl⟩ ⟨rfl, rfl⟩ dX9_can_29 (c_X9_in M_1 most 0 1800) rfl rfl (Nat.le_of_ble_eq_true rfl) (fun r_10 M_11 h_12 => ?_)
      obtain ⟨er_10, nh_12⟩ := h_12
      refine j_eqM nh_12 ?_
      clear nh_12
      refine j_if_eq (tgt := 56) dX9_can_32 (by decide) (fun c32_13 => ?_) (fun c32_13 => ?_)
      · skip
        refine j_iconst dX9_can_56 (by decide) ?_
        refine j_iret rfl rfl rfl rfl dX9_can_57 ?_
        exact ⟨Or.inl ⟨by omega, rfl⟩, eM_1⟩
      · skip
        refine j_iload 4 dX9_can_35 rfl ?_
        refine j_iconst dX9_can_37 (by decide) ?_
        refine j_bipush dX9_can_38 (by decide) ?_
        refine j_callSi l_X9_137 ⟨Nat.le_of_ble_eq_true rfl, Nat.le_of_ble_eq_true rfl⟩ ⟨rfl, rfl⟩ dX9_can_40 (c_X9_in M_1 q 1 6) rfl rfl (Nat.le_of_ble_eq_true rfl) (fun r_14 M_15 h_16 => ?_)
        obtain ⟨er_14, nh_16⟩ := h_16
        refine j_eqM nh_16 ?_
        clear nh_16
        refine j_if_eq (tgt := 56) dX9_can_43 (by decide) (fun c43_17 => ?_) (fun c43_17 => ?_)
        · skip
          refine j_iconst dX9_can_56 (by decide) ?_
          refine j_iret rfl rfl rfl rfl dX9_can_57 ?_
          exact ⟨Or.inl ⟨by omega, rfl⟩, eM_1⟩
        · skip
          refine j_iload 5 dX9_can_46 rfl ?_
          refine j_iconst dX9_can_48 (by decide) ?_
          refine j_iconst dX9_can_49 (by decide) ?_
          refine j_callSi l_X9_137 ⟨Nat.le_of_ble_eq_true rfl, Nat.le_of_ble_eq_true rfl⟩ ⟨rfl, rfl⟩ dX9_can_50 (c_X9_in M_1 w 0 1) rfl rfl (Nat.le_of_ble_eq_true rfl) (fun r_18 M_19 h_20 => ?_)
          obtain ⟨er_18, nh_20⟩ := h_20
          refine j_eqM nh_20 ?_
          clear nh_20
          refine j_if_ne (tgt := 58) dX9_can_53 (by decide) (fun c53_21 => ?_) (fun c53_21 => ?_)
          · skip
            have hp2 := p2n (n := p) (by omega)
            have hp1 : (0 : Int) < 2 ^ p.toNat := Int.pow_pos (by decide)
            have hB : (0 ≤ (if 1 < n then ((2 : Int) ^ p.toNat) else 1) ∧ (if 1 < n then ((2 : Int) ^ p.toNat) else 1) ≤ ((2 : Int) ^ p.toNat)) ∧ (0 ≤ (if 2 < n then ((2 : Int) ^ p.toNat) else 1) ∧ (if 2 < n then ((2 : Int) ^ p.toNat) else 1) ≤ ((2 : Int) ^ p.toNat)) := by constructor <;> split <;> omega
            refine j_iconst dX9_can_58 (by decide) ?_
            refine j_istore (ls' := [(0, jR 74), (1, jI p), (2, jI n), (3, jI most), (4, jI q), (5, jI w), (6, jI 0)]) dX9_can_59 (by decide) rfl ?_
            refine j_bipush dX9_can_61 (by decide) ?_
            refine j_istore (ls' := [(0, jR 74), (1, jI p), (2, jI n), (3, jI most), (4, jI q), (5, jI w), (6, jI 0), (7, jI (-9))]) dX9_can_63 (by decide) rfl ?_
            refine j_iconst dX9_can_65 (by decide) ?_
            refine j_iload_n 1 dX9_can_66 rfl rfl ?_
            refine j_ishl dX9_can_67 ?_
            refine j_nm (fun v8_22 ev8_22 => ?_)
            refine j_istore (ls' := [(0, jR 74), (1, jI p), (2, jI n), (3, jI most), (4, jI q), (5, jI w), (6, jI 0), (7, jI (-9)), (8, jI v8_22)]) dX9_can_68 (by decide) rfl ?_
            have e8 : v8_22 = ((2 : Int) ^ p.toNat) := by omega
            refine j_iconst dX9_can_70 (by decide) ?_
            refine j_istore (ls' := [(0, jR 74), (1, jI p), (2, jI n), (3, jI most), (4, jI q), (5, jI w), (6, jI 0), (7, jI (-9)), (8, jI v8_22), (9, jI 0)]) dX9_can_71 (by decide) rfl ?_
            have lp73_23 : ∀ n73 : Nat, ∀ (v6 v7 v9 : Int), (0 ≤ v9 ∧ v9 ≤ (if 2 < n then ((2 : Int) ^ p.toNat) else 1)) ∧ (v6 = zP (fun c => zP (fun b => zS2 (zT (M 97) (M 98) p most q) ((2 : Int) ^ p.toNat) c b) (if 1 < n then ((2 : Int) ^ p.toNat) else 1).toNat) v9.toNat) ∧ (0 ≤ v6 ∧ v6 ≤ 4096 * v9) ∧ (zLst (zT (M 97) (M 98) p most q) ((2 : Int) ^ p.toNat) (if 1 < n then ((2 : Int) ^ p.toNat) else 1) (if 2 < n then ((2 : Int) ^ p.toNat) else 1) (4096 * v9) v7) ∧ (-9 ≤ v7 ∧ v7 < 262144) → ((if 2 < n then ((2 : Int) ^ p.toNat) else 1) - v9).toNat < n73 → jG D_X9_can X FJ shJ 0 0 (jqI (q_X9_can M p n most q w)) 73 [(0, jR 74), (1, jI p), (2, jI n), (3, jI most), (4, jI q), (5, jI w), (6, jI v6), (7, jI v7), (8, jI v8_22), (9, jI v9)] ([]) M_1 := by
              intro n73
              induction n73 with
              | zero => intro v6 v7 v9  _ hz; exact absurd hz (Nat.not_lt_zero _)
              | succ n73 ih73 =>
                intro v6 v7 v9  hinv hm
                obtain ⟨h9, hm1, hbd, hf, hf0⟩ := hinv
                refine j_iload 9 dX9_can_73 rfl ?_
                refine j_iload_n 2 dX9_can_75 rfl rfl ?_
                refine j_iconst dX9_can_76 (by decide) ?_
                have hJ_24 : ∀ zz : Int, (n ≤ 2 ∧ zz = 1) ∨ (¬ (n ≤ 2) ∧ zz = v8_22) → jG D_X9_can X FJ shJ 0 0 (jqI (q_X9_can M p n most q w)) 86 [(0, jR 74), (1, jI p), (2, jI n), (3, jI most), (4, jI q), (5, jI w), (6, jI v6), (7, jI v7), (8, jI v8_22), (9, jI v9)] (jI zz :: jI v9 :: []) M_1 := by
                  intro t_25 et_25
                  have eC : t_25 = (if 2 < n then ((2 : Int) ^ p.toNat) else 1) := by rcases et_25 with ⟨a, b⟩ | ⟨a, b⟩; (· rw [b, if_neg (by omega)]); (· rw [b, if_pos (by omega)]; omega)
                  refine j_icmp_ge (tgt := 279) dX9_can_86 (by decide) (fun c86_26 => ?_) (fun c86_26 => ?_)
                  · skip
                    refine j_iload 5 dX9_can_279 rfl ?_
                    have hJ_27 : ∀ zz : Int, (¬ w = 0 ∧ zz = v7) ∨ (w = 0 ∧ zz = v6) → jG D_X9_can X FJ shJ 0 0 (jqI (q_X9_can M p n most q w)) 291 [(0, jR 74), (1, jI p), (2, jI n), (3, jI most), (4, jI q), (5, jI w), (6, jI v6), (7, jI v7), (8, jI v8_22), (9, jI v9)] (jI zz :: []) M_1 := by
                      intro t_28 et_28
                      refine j_iret rfl rfl rfl rfl dX9_can_291 ?_
                      refine ⟨Or.inr ⟨by omega, fun hw => ?_, fun hw => ?_⟩, eM_1⟩
                      all_goals rw [show v9 = (if 2 < n then ((2 : Int) ^ p.toNat) else 1) by omega] at hm1 hf
                      · rw [show t_28 = v6 by omega]; exact hm1
                      · rw [show t_28 = v7 by omega]; exact zLst_to (by omega) (fun a b c a0 a1 b0 b1 c0 c1 z => by omega) hf
                    refine j_if_ne (tgt := 289) dX9_can_281 (by decide) (fun c281_29 => ?_) (fun c281_29 => ?_)
                    · skip
                      refine j_iload 7 dX9_can_289 rfl ?_
                      exact hJ_27 _ (Or.inl ⟨c281_29, rfl⟩)
                    · skip
                      refine j_iload 6 dX9_can_284 rfl ?_
                      refine j_goto (tgt := 291) dX9_can_286 (by decide) ?_
                      exact hJ_27 _ (Or.inr (⟨c281_29, rfl⟩))
                  · skip
                    refine j_iconst dX9_can_89 (by decide) ?_
                    refine j_istore (ls' := [(0, jR 74), (1, jI p), (2, jI n), (3, jI most), (4, jI q), (5, jI w), (6, jI v6), (7, jI v7), (8, jI v8_22), (9, jI v9), (10, jI 0)]) dX9_can_90 (by decide) rfl ?_
                    have lp92_30 : ∀ n92 : Nat, ∀ (v6 v7 v10 : Int), (0 ≤ v10 ∧ v10 ≤ (if 1 < n then ((2 : Int) ^ p.toNat) else 1)) ∧ (v6 = zP (fun c => zP (fun b => zS2 (zT (M 97) (M 98) p most q) ((2 : Int) ^ p.toNat) c b) (if 1 < n then ((2 : Int) ^ p.toNat) else 1).toNat) v9.toNat + zP (fun b => zS2 (zT (M 97) (M 98) p most q) ((2 : Int) ^ p.toNat) v9 b) v10.toNat) ∧ (0 ≤ v6 ∧ v6 ≤ 4096 * v9 + 64 * v10) ∧ (zLst (zT (M 97) (M 98) p most q) ((2 : Int) ^ p.toNat) (if 1 < n then ((2 : Int) ^ p.toNat) else 1) (if 2 < n then ((2 : Int) ^ p.toNat) else 1) (64 * v10 + 4096 * v9) v7) ∧ (-9 ≤ v7 ∧ v7 < 262144) → ((if 1 < n then ((2 : Int) ^ p.toNat) else 1) - v10).toNat < n92 → jG D_X9_can X FJ shJ 0 0 (jqI (q_X9_can M p n most q w)) 92 [(0, jR 74), (1, jI p), (2, jI n), (3, jI most), (4, jI q), (5, jI w), (6, jI v6), (7, jI v7), (8, jI v8_22), (9, jI v9), (10, jI v10)] ([]) M_1 := by
                      intro n92
                      induction n92 with
                      | zero => intro v6 v7 v10  _ hz; exact absurd hz (Nat.not_lt_zero _)
                      | succ n92 ih92 =>
                        intro v6 v7 v10  hinv hm
                        obtain ⟨h10, hm2, hbd2, hf2, hf02⟩ := hinv
                        refine j_iload 10 dX9_can_92 rfl ?_
                        refine j_iload_n 2 dX9_can_94 rfl rfl ?_
                        refine j_iconst dX9_can_95 (by decide) ?_
                        have hJ_31 : ∀ zz : Int, (n ≤ 1 ∧ zz = 1) ∨ (¬ (n ≤ 1) ∧ zz = v8_22) → jG D_X9_can X FJ shJ 0 0 (jqI (q_X9_can M p n most q w)) 105 [(0, jR 74), (1, jI p), (2, jI n), (3, jI most), (4, jI q), (5, jI w), (6, jI v6), (7, jI v7), (8, jI v8_22), (9, jI v9), (10, jI v10)] (jI zz :: jI v10 :: []) M_1 := by
                          intro t_32 et_32
                          have eB : t_32 = (if 1 < n then ((2 : Int) ^ p.toNat) else 1) := by rcases et_32 with ⟨a, b⟩ | ⟨a, b⟩; (· rw [b, if_neg (by omega)]); (· rw [b, if_pos (by omega)]; omega)
                          refine j_icmp_ge (tgt := 273) dX9_can_105 (by decide) (fun c105_33 => ?_) (fun c105_33 => ?_)
                          · skip
                            obtain ⟨v9_34, ev9_34⟩ : ∃ y : Int, y = v9 + 1 := ⟨_, rfl⟩
                            refine j_iinc (y := v9_34) (ls' := [(0, jR 74), (1, jI p), (2, jI n), (3, jI most), (4, jI q), (5, jI w), (6, jI v6), (7, jI v7), (8, jI v8_22), (9, jI v9_34), (10, jI v10)]) 9 dX9_can_273 rfl ev9_34 (by omega) (by decide) rfl ?_
                            refine j_goto (tgt := 73) dX9_can_276 (by decide) ?_
                            refine j_sub (ls' := [(0, jR 74), (1, jI p), (2, jI n), (3, jI most), (4, jI q), (5, jI w), (6, jI v6), (7, jI v7), (8, jI v8_22), (9, jI v9_34)]) [0, 1, 2, 3, 4, 5, 6, 7, 8, 9] rfl ?_
                            exact ih73 v6 v7 v9_34 ⟨by omega, by have y : zP (fun c => zP (fun b => zS2 (zT (M 97) (M 98) p most q) ((2 : Int) ^ p.toNat) c b) (if 1 < n then ((2 : Int) ^ p.toNat) else 1).toNat) (v9 + 1).toNat = zP (fun c => zP (fun b => zS2 (zT (M 97) (M 98) p most q) ((2 : Int) ^ p.toNat) c b) (if 1 < n then ((2 : Int) ^ p.toNat) else 1).toNat) v9.toNat + zP (fun b => zS2 (zT (M 97) (M 98) p most q) ((2 : Int) ^ p.toNat) v9 b) (if 1 < n then ((2 : Int) ^ p.toNat) else 1).toNat := zP_s h9.1; rw [ev9_34, y]; rw [show v10 = (if 1 < n then ((2 : Int) ^ p.toNat) else 1) by omega] at hm2; exact hm2, by omega, by rw [ev9_34]; exact zLst_to (by omega) (fun a b c a0 a1 b0 b1 c0 c1 z => by omega) hf2, by omega⟩ (by omega)
                          · skip
                            refine j_iconst dX9_can_108 (by decide) ?_
                            refine j_istore (ls' := [(0, jR 74), (1, jI p), (2, jI n), (3, jI most), (4, jI q), (5, jI w), (6, jI v6), (7, jI v7), (8, jI v8_22), (9, jI v9), (10, jI v10), (11, jI 0)]) dX9_can_109 (by decide) rfl ?_
                            have lp111_35 : ∀ n111 : Nat, ∀ (v6 v7 v11 : Int), (0 ≤ v11 ∧ v11 ≤ ((2 : Int) ^ p.toNat)) ∧ (v6 = zP (fun c => zP (fun b => zS2 (zT (M 97) (M 98) p most q) ((2 : Int) ^ p.toNat) c b) (if 1 < n then ((2 : Int) ^ p.toNat) else 1).toNat) v9.toNat + zP (fun b => zS2 (zT (M 97) (M 98) p most q) ((2 : Int) ^ p.toNat) v9 b) v10.toNat + zP (fun a => zI (zT (M 97) (M 98) p most q a v10 v9)) v11.toNat) ∧ (0 ≤ v6 ∧ v6 ≤ 4096 * v9 + 64 * v10 + v11) ∧ (zLst (zT (M 97) (M 98) p most q) ((2 : Int) ^ p.toNat) (if 1 < n then ((2 : Int) ^ p.toNat) else 1) (if 2 < n then ((2 : Int) ^ p.toNat) else 1) (v11 + 64 * v10 + 4096 * v9) v7) ∧ (-9 ≤ v7 ∧ v7 < 262144) → (((2 : Int) ^ p.toNat) - v11).toNat < n111 → jG D_X9_can X FJ shJ 0 0 (jqI (q_X9_can M p n most q w)) 111 [(0, jR 74), (1, jI p), (2, jI n), (3, jI most), (4, jI q), (5, jI w), (6, jI v6), (7, jI v7), (8, jI v8_22), (9, jI v9), (10, jI v10), (11, jI v11)] ([]) M_1 := by
                              intro n111
                              induction n111 with
                              | zero => intro v6 v7 v11  _ hz; exact absurd hz (Nat.not_lt_zero _)
                              | succ n111 ih111 =>
                                intro v6 v7 v11  hinv hm
                                obtain ⟨h11, hm3, hbd3, hf3, hf03⟩ := hinv
                                refine j_iload 11 dX9_can_111 rfl ?_
                                refine j_iload 8 dX9_can_113 rfl ?_
                                refine j_icmp_ge (tgt := 267) dX9_can_115 (by decide) (fun c115_36 => ?_) (fun c115_36 => ?_)
                                · skip
                                  obtain ⟨v10_37, ev10_37⟩ : ∃ y : Int, y = v10 + 1 := ⟨_, rfl⟩
                                  refine j_iinc (y := v10_37) (ls' := [(0, jR 74), (1, jI p), (2, jI n), (3, jI most), (4, jI q), (5, jI w), (6, jI v6), (7, jI v7), (8, jI v8_22), (9, jI v9), (10, jI v10_37), (11, jI v11)]) 10 dX9_can_267 rfl ev10_37 (by omega) (by decide) rfl ?_
                                  refine j_goto (tgt := 92) dX9_can_270 (by decide) ?_
                                  refine j_sub (ls' := [(0, jR 74), (1, jI p), (2, jI n), (3, jI most), (4, jI q), (5, jI w), (6, jI v6), (7, jI v7), (8, jI v8_22), (9, jI v9), (10, jI v10_37)]) [0, 1, 2, 3, 4, 5, 6, 7, 8, 9, 10] rfl ?_
                                  exact ih92 v6 v7 v10_37 ⟨by omega, by have y : zP (fun b => zS2 (zT (M 97) (M 98) p most q) ((2 : Int) ^ p.toNat) v9 b) (v10 + 1).toNat = zP (fun b => zS2 (zT (M 97) (M 98) p most q) ((2 : Int) ^ p.toNat) v9 b) v10.toNat + zS2 (zT (M 97) (M 98) p most q) ((2 : Int) ^ p.toNat) v9 v10 := zP_s h10.1; rw [ev10_37, y]; rw [show v11 = ((2 : Int) ^ p.toNat) by omega] at hm3; show _ = _ + (_ + zP (fun a => zI (zT (M 97) (M 98) p most q a v10 v9)) ((2 : Int) ^ p.toNat).toNat); omega, by omega, by rw [ev10_37]; exact zLst_to (by omega) (fun a b c a0 a1 b0 b1 c0 c1 z => by omega) hf3, by omega⟩ (by omega)
                                · skip
                                  refine j_aload_n 0 dX9_can_118 rfl rfl ?_
                                  refine j_iload 11 dX9_can_119 rfl ?_
                                  refine j_iload_n 1 dX9_can_121 rfl rfl ?_
                                  refine j_iload_n 3 dX9_can_122 rfl rfl ?_
                                  refine j_iload 4 dX9_can_123 rfl ?_
                                  refine j_callVi l_X9_318 ⟨Nat.le_of_ble_eq_true rfl, Nat.le_of_ble_eq_true rfl⟩ ⟨rfl, rfl⟩ dX9_can_125 ob_74 (c_X9_isRow M_1 v11 p most q (by rw [((congrFun eM_1 97).trans (jup_cell (by decide)))]; exact h_rminutes) (by first | assumption | omega)) rfl rfl (Nat.le_of_ble_eq_true rfl) (fun r_38 M_39 h_40 => ?_)
                                  obtain ⟨er_38, nh_40⟩ := h_40
                                  refine j_eqM nh_40 ?_
                                  clear nh_40
                                  simp only [((congrFun eM_1 97).trans (jup_cell (by decide)))] at er_38
                                  refine j_if_eq (tgt := 161) dX9_can_128 (by decide) (fun c128_41 => ?_) (fun c128_41 => ?_)
                                  · skip
                                    refine j_iconst dX9_can_161 (by decide) ?_
                                    refine j_istore (ls' := [(0, jR 74), (1, jI p), (2, jI n), (3, jI most), (4, jI q), (5, jI w), (6, jI v6), (7, jI v7), (8, jI v8_22), (9, jI v9), (10, jI v10), (11, jI v11), (12, jI 0)]) dX9_can_162 (by decide) rfl ?_
                                    refine j_iconst dX9_can_164 (by decide) ?_
                                    refine j_istore (ls' := [(0, jR 74), (1, jI p), (2, jI n), (3, jI most), (4, jI q), (5, jI w), (6, jI v6), (7, jI v7), (8, jI v8_22), (9, jI v9), (10, jI v10), (11, jI v11), (12, jI 0), (13, jI 0)]) dX9_can_165 (by decide) rfl ?_
                                    have lp167_42 : ∀ n167 : Nat, ∀ (v12 v13 : Int), (0 ≤ v13 ∧ v13 ≤ p) ∧ ((v12 = 1 ∧ zOk (M 97) p most q v11 ∧ zOk (M 97) p most q v10 ∧ zOk (M 97) p most q v9 ∧ zNd (M 98) v11 v10 v9 v13.toNat = true) ∨ (v12 = 0 ∧ ¬ zT (M 97) (M 98) p most q v11 v10 v9 = true)) → (p - v13).toNat < n167 → jG D_X9_can X FJ shJ 0 0 (jqI (q_X9_can M p n most q w)) 167 [(0, jR 74), (1, jI p), (2, jI n), (3, jI most), (4, jI q), (5, jI w), (6, jI v6), (7, jI v7), (8, jI v8_22), (9, jI v9), (10, jI v10), (11, jI v11), (12, jI v12), (13, jI v13)] ([]) M_1 := by
                                      intro n167
                                      induction n167 with
                                      | zero => intro v12 v13  _ hz; exact absurd hz (Nat.not_lt_zero _)
                                      | succ n167 ih167 =>
                                        intro v12 v13  hinv hm
                                        obtain ⟨x1, x2⟩ := hinv
                                        refine j_iload 13 dX9_can_167 rfl ?_
                                        refine j_iload_n 1 dX9_can_169 rfl rfl ?_
                                        refine j_icmp_ge (tgt := 224) dX9_can_170 (by decide) (fun c170_43 => ?_) (fun c170_43 => ?_)
                                        · skip
                                          refine j_iload 12 dX9_can_224 rfl ?_
                                          refine j_if_eq (tgt := 261) dX9_can_226 (by decide) (fun c226_44 => ?_) (fun c226_44 => ?_)
                                          · skip
                                            have hT : ¬ zT (M 97) (M 98) p most q v11 v10 v9 = true := by rcases x2 with z | z; (· omega); (· exact z.2)
                                            obtain ⟨v11_45, ev11_45⟩ : ∃ y : Int, y = v11 + 1 := ⟨_, rfl⟩
                                            refine j_iinc (y := v11_45) (ls' := [(0, jR 74), (1, jI p), (2, jI n), (3, jI most), (4, jI q), (5, jI w), (6, jI v6), (7, jI v7), (8, jI v8_22), (9, jI v9), (10, jI v10), (11, jI v11_45), (12, jI v12), (13, jI v13)]) 11 dX9_can_261 rfl ev11_45 (by omega) (by decide) rfl ?_
                                            refine j_goto (tgt := 111) dX9_can_264 (by decide) ?_
                                            refine j_sub (ls' := [(0, jR 74), (1, jI p), (2, jI n), (3, jI most), (4, jI q), (5, jI w), (6, jI v6), (7, jI v7), (8, jI v8_22), (9, jI v9), (10, jI v10), (11, jI v11_45)]) [0, 1, 2, 3, 4, 5, 6, 7, 8, 9, 10, 11] rfl ?_
                                            exact ih111 v6 v7 v11_45 ⟨by omega, by have y : zP (fun a => zI (zT (M 97) (M 98) p most q a v10 v9)) (v11 + 1).toNat = zP (fun a => zI (zT (M 97) (M 98) p most q a v10 v9)) v11.toNat + zI (zT (M 97) (M 98) p most q v11 v10 v9) := zP_s h11.1; rw [ev11_45, y]; first | (rw [show zI (zT (M 97) (M 98) p most q v11 v10 v9) = 1 from if_pos hT]; omega) | (rw [show zI (zT (M 97) (M 98) p most q v11 v10 v9) = 0 from if_neg hT]; omega), by omega, by rw [ev11_45]; exact zLst_step (by omega) (by omega) ⟨h11.1, by omega⟩ ⟨h10.1, by omega⟩ ⟨h9.1, by omega⟩ hf3 (by first | (left; exact ⟨hT, by omega⟩) | (right; exact ⟨hT, rfl⟩)), by omega⟩ (by omega)
                                          · skip
                                            have hT : zT (M 97) (M 98) p most q v11 v10 v9 = true := by rcases x2 with z | z; (· have e13 : v13 = p := (by omega); rw [e13] at z; exact zT_iff.2 z.2); (· omega)
                                            obtain ⟨v6_46, ev6_46⟩ : ∃ y : Int, y = v6 + 1 := ⟨_, rfl⟩
                                            refine j_iinc (y := v6_46) (ls' := [(0, jR 74), (1, jI p), (2, jI n), (3, jI most), (4, jI q), (5, jI w), (6, jI v6_46), (7, jI v7), (8, jI v8_22), (9, jI v9), (10, jI v10), (11, jI v11), (12, jI v12), (13, jI v13)]) 6 dX9_can_229 rfl ev6_46 (by omega) (by decide) rfl ?_
                                            refine j_iload 7 dX9_can_232 rfl ?_
                                            refine j_bipush dX9_can_234 (by decide) ?_
                                            have hJ_47 : ∀ zz : Int, (¬ v7 = (-9) ∧ zz = v7) ∨ (v7 = (-9) ∧ zz = ((v11 + (64 * v10)) + (4096 * v9))) → jG D_X9_can X FJ shJ 0 0 (jqI (q_X9_can M p n most q w)) 259 [(0, jR 74), (1, jI p), (2, jI n), (3, jI most), (4, jI q), (5, jI w), (6, jI v6_46), (7, jI v7), (8, jI v8_22), (9, jI v9), (10, jI v10), (11, jI v11), (12, jI v12), (13, jI v13)] (jI zz :: []) M_1 := by
                                              intro t_48 et_48
                                              refine j_istore (ls' := [(0, jR 74), (1, jI p), (2, jI n), (3, jI most), (4, jI q), (5, jI w), (6, jI v6_46), (7, jI t_48), (8, jI v8_22), (9, jI v9), (10, jI v10), (11, jI v11), (12, jI v12), (13, jI v13)]) dX9_can_259 (by decide) rfl ?_
                                              obtain ⟨v11_49, ev11_49⟩ : ∃ y : Int, y = v11 + 1 := ⟨_, rfl⟩
                                              refine j_iinc (y := v11_49) (ls' := [(0, jR 74), (1, jI p), (2, jI n), (3, jI most), (4, jI q), (5, jI w), (6, jI v6_46), (7, jI t_48), (8, jI v8_22), (9, jI v9), (10, jI v10), (11, jI v11_49), (12, jI v12), (13, jI v13)]) 11 dX9_can_261 rfl ev11_49 (by omega) (by decide) rfl ?_
                                              refine j_goto (tgt := 111) dX9_can_264 (by decide) ?_
                                              refine j_sub (ls' := [(0, jR 74), (1, jI p), (2, jI n), (3, jI most), (4, jI q), (5, jI w), (6, jI v6_46), (7, jI t_48), (8, jI v8_22), (9, jI v9), (10, jI v10), (11, jI v11_49)]) [0, 1, 2, 3, 4, 5, 6, 7, 8, 9, 10, 11] rfl ?_
                                              exact ih111 v6_46 t_48 v11_49 ⟨by omega, by have y : zP (fun a => zI (zT (M 97) (M 98) p most q a v10 v9)) (v11 + 1).toNat = zP (fun a => zI (zT (M 97) (M 98) p most q a v10 v9)) v11.toNat + zI (zT (M 97) (M 98) p most q v11 v10 v9) := zP_s h11.1; rw [ev11_49, y]; first | (rw [show zI (zT (M 97) (M 98) p most q v11 v10 v9) = 1 from if_pos hT]; omega) | (rw [show zI (zT (M 97) (M 98) p most q v11 v10 v9) = 0 from if_neg hT]; omega), by omega, by rw [ev11_49]; exact zLst_step (by omega) (by omega) ⟨h11.1, by omega⟩ ⟨h10.1, by omega⟩ ⟨h9.1, by omega⟩ hf3 (by first | (left; exact ⟨hT, by omega⟩) | (right; exact ⟨hT, rfl⟩)), by omega⟩ (by omega)
                                            refine j_icmp_ne (tgt := 257) dX9_can_236 (by decide) (fun c236_50 => ?_) (fun c236_50 => ?_)
                                            · skip
                                              refine j_iload 7 dX9_can_257 rfl ?_
                                              exact hJ_47 _ (Or.inl ⟨c236_50, rfl⟩)
                                            · skip
                                              refine j_iload 11 dX9_can_239 rfl ?_
                                              refine j_bipush dX9_can_241 (by decide) ?_
                                              refine j_iload 10 dX9_can_243 rfl ?_
                                              refine j_imul dX9_can_245 (by omega) ?_
                                              refine j_iadd dX9_can_246 (by omega) ?_
                                              refine j_sipush dX9_can_247 (by decide) ?_
                                              refine j_iload 9 dX9_can_250 rfl ?_
                                              refine j_imul dX9_can_252 (by omega) ?_
                                              refine j_iadd dX9_can_253 (by omega) ?_
                                              refine j_goto (tgt := 259) dX9_can_254 (by decide) ?_
                                              exact hJ_47 _ (Or.inr (⟨c236_50, rfl⟩))
                                        · skip
                                          refine j_iload 12 dX9_can_173 rfl ?_
                                          refine j_if_eq (tgt := 224) dX9_can_175 (by decide) (fun c175_51 => ?_) (fun c175_51 => ?_)
                                          · skip
                                            refine j_iload 12 dX9_can_224 rfl ?_
                                            refine j_if_eq (tgt := 261) dX9_can_226 (by decide) (fun c226_52 => ?_) (fun c226_52 => ?_)
                                            · skip
                                              have hT : ¬ zT (M 97) (M 98) p most q v11 v10 v9 = true := by rcases x2 with z | z; (· omega); (· exact z.2)
                                              obtain ⟨v11_53, ev11_53⟩ : ∃ y : Int, y = v11 + 1 := ⟨_, rfl⟩
                                              refine j_iinc (y := v11_53) (ls' := [(0, jR 74), (1, jI p), (2, jI n), (3, jI most), (4, jI q), (5, jI w), (6, jI v6), (7, jI v7), (8, jI v8_22), (9, jI v9), (10, jI v10), (11, jI v11_53), (12, jI v12), (13, jI v13)]) 11 dX9_can_261 rfl ev11_53 (by omega) (by decide) rfl ?_
                                              refine j_goto (tgt := 111) dX9_can_264 (by decide) ?_
                                              refine j_sub (ls' := [(0, jR 74), (1, jI p), (2, jI n), (3, jI most), (4, jI q), (5, jI w), (6, jI v6), (7, jI v7), (8, jI v8_22), (9, jI v9), (10, jI v10), (11, jI v11_53)]) [0, 1, 2, 3, 4, 5, 6, 7, 8, 9, 10, 11] rfl ?_
                                              exact ih111 v6 v7 v11_53 ⟨by omega, by have y : zP (fun a => zI (zT (M 97) (M 98) p most q a v10 v9)) (v11 + 1).toNat = zP (fun a => zI (zT (M 97) (M 98) p most q a v10 v9)) v11.toNat + zI (zT (M 97) (M 98) p most q v11 v10 v9) := zP_s h11.1; rw [ev11_53, y]; first | (rw [show zI (zT (M 97) (M 98) p most q v11 v10 v9) = 1 from if_pos hT]; omega) | (rw [show zI (zT (M 97) (M 98) p most q v11 v10 v9) = 0 from if_neg hT]; omega), by omega, by rw [ev11_53]; exact zLst_step (by omega) (by omega) ⟨h11.1, by omega⟩ ⟨h10.1, by omega⟩ ⟨h9.1, by omega⟩ hf3 (by first | (left; exact ⟨hT, by omega⟩) | (right; exact ⟨hT, rfl⟩)), by omega⟩ (by omega)
                                            · skip
                                              have hT : zT (M 97) (M 98) p most q v11 v10 v9 = true := by rcases x2 with z | z; (· have e13 : v13 = p := (by omega); rw [e13] at z; exact zT_iff.2 z.2); (· omega)
                                              obtain ⟨v6_54, ev6_54⟩ : ∃ y : Int, y = v6 + 1 := ⟨_, rfl⟩
                                              refine j_iinc (y := v6_54) (ls' := [(0, jR 74), (1, jI p), (2, jI n), (3, jI most), (4, jI q), (5, jI w), (6, jI v6_54), (7, jI v7), (8, jI v8_22), (9, jI v9), (10, jI v10), (11, jI v11), (12, jI v12), (13, jI v13)]) 6 dX9_can_229 rfl ev6_54 (by omega) (by decide) rfl ?_
                                              refine j_iload 7 dX9_can_232 rfl ?_
                                              refine j_bipush dX9_can_234 (by decide) ?_
                                              have hJ_55 : ∀ zz : Int, (¬ v7 = (-9) ∧ zz = v7) ∨ (v7 = (-9) ∧ zz = ((v11 + (64 * v10)) + (4096 * v9))) → jG D_X9_can X FJ shJ 0 0 (jqI (q_X9_can M p n most q w)) 259 [(0, jR 74), (1, jI p), (2, jI n), (3, jI most), (4, jI q), (5, jI w), (6, jI v6_54), (7, jI v7), (8, jI v8_22), (9, jI v9), (10, jI v10), (11, jI v11), (12, jI v12), (13, jI v13)] (jI zz :: []) M_1 := by
                                                intro t_56 et_56
                                                refine j_istore (ls' := [(0, jR 74), (1, jI p), (2, jI n), (3, jI most), (4, jI q), (5, jI w), (6, jI v6_54), (7, jI t_56), (8, jI v8_22), (9, jI v9), (10, jI v10), (11, jI v11), (12, jI v12), (13, jI v13)]) dX9_can_259 (by decide) rfl ?_
                                                obtain ⟨v11_57, ev11_57⟩ : ∃ y : Int, y = v11 + 1 := ⟨_, rfl⟩
                                                refine j_iinc (y := v11_57) (ls' := [(0, jR 74), (1, jI p), (2, jI n), (3, jI most), (4, jI q), (5, jI w), (6, jI v6_54), (7, jI t_56), (8, jI v8_22), (9, jI v9), (10, jI v10), (11, jI v11_57), (12, jI v12), (13, jI v13)]) 11 dX9_can_261 rfl ev11_57 (by omega) (by decide) rfl ?_
                                                refine j_goto (tgt := 111) dX9_can_264 (by decide) ?_
                                                refine j_sub (ls' := [(0, jR 74), (1, jI p), (2, jI n), (3, jI most), (4, jI q), (5, jI w), (6, jI v6_54), (7, jI t_56), (8, jI v8_22), (9, jI v9), (10, jI v10), (11, jI v11_57)]) [0, 1, 2, 3, 4, 5, 6, 7, 8, 9, 10, 11] rfl ?_
                                                exact ih111 v6_54 t_56 v11_57 ⟨by omega, by have y : zP (fun a => zI (zT (M 97) (M 98) p most q a v10 v9)) (v11 + 1).toNat = zP (fun a => zI (zT (M 97) (M 98) p most q a v10 v9)) v11.toNat + zI (zT (M 97) (M 98) p most q v11 v10 v9) := zP_s h11.1; rw [ev11_57, y]; first | (rw [show zI (zT (M 97) (M 98) p most q v11 v10 v9) = 1 from if_pos hT]; omega) | (rw [show zI (zT (M 97) (M 98) p most q v11 v10 v9) = 0 from if_neg hT]; omega), by omega, by rw [ev11_57]; exact zLst_step (by omega) (by omega) ⟨h11.1, by omega⟩ ⟨h10.1, by omega⟩ ⟨h9.1, by omega⟩ hf3 (by first | (left; exact ⟨hT, by omega⟩) | (right; exact ⟨hT, rfl⟩)), by omega⟩ (by omega)
                                              refine j_icmp_ne (tgt := 257) dX9_can_236 (by decide) (fun c236_58 => ?_) (fun c236_58 => ?_)
                                              · skip
                                                refine j_iload 7 dX9_can_257 rfl ?_
                                                exact hJ_55 _ (Or.inl ⟨c236_58, rfl⟩)
                                              · skip
                                                refine j_iload 11 dX9_can_239 rfl ?_
                                                refine j_bipush dX9_can_241 (by decide) ?_
                                                refine j_iload 10 dX9_can_243 rfl ?_
                                                refine j_imul dX9_can_245 (by omega) ?_
                                                refine j_iadd dX9_can_246 (by omega) ?_
                                                refine j_sipush dX9_can_247 (by decide) ?_
                                                refine j_iload 9 dX9_can_250 rfl ?_
                                                refine j_imul dX9_can_252 (by omega) ?_
                                                refine j_iadd dX9_can_253 (by omega) ?_
                                                refine j_goto (tgt := 259) dX9_can_254 (by decide) ?_
                                                exact hJ_55 _ (Or.inr (⟨c236_58, rfl⟩))
                                          · skip
                                            have w1 : jand (jshr v11 v13) 1 = zBit v11 v13 := jbit ⟨by omega, by omega⟩ ⟨by omega, by omega⟩
                                            have w2 : jand (jshr v10 v13) 1 = zBit v10 v13 := jbit ⟨by omega, by omega⟩ ⟨by omega, by omega⟩
                                            have w3 : jand (jshr v9 v13) 1 = zBit v9 v13 := jbit ⟨by omega, by omega⟩ ⟨by omega, by omega⟩
                                            have w4 := zBit_in v11 v13
                                            have w5 := zBit_in v10 v13
                                            have w6 := zBit_in v9 v13
                                            refine j_iload 11 dX9_can_178 rfl ?_
                                            refine j_iload 13 dX9_can_180 rfl ?_
                                            refine j_ishr dX9_can_182 ?_
                                            refine j_iconst dX9_can_183 (by decide) ?_
                                            refine j_iand dX9_can_184 ?_
                                            refine j_iload 10 dX9_can_185 rfl ?_
                                            refine j_iload 13 dX9_can_187 rfl ?_
                                            refine j_ishr dX9_can_189 ?_
                                            refine j_iconst dX9_can_190 (by decide) ?_
                                            refine j_iand dX9_can_191 ?_
                                            refine j_iadd dX9_can_192 (by omega) ?_
                                            refine j_iload 9 dX9_can_193 rfl ?_
                                            refine j_iload 13 dX9_can_195 rfl ?_
                                            refine j_ishr dX9_can_197 ?_
                                            refine j_iconst dX9_can_198 (by decide) ?_
                                            refine j_iand dX9_can_199 ?_
                                            refine j_iadd dX9_can_200 (by omega) ?_
                                            refine j_aload_n 0 dX9_can_201 rfl rfl ?_
                                            refine j_getr f_X9_80 r_74_37 dX9_can_202 ?_
                                            refine j_iload 13 dX9_can_205 rfl ?_
                                            refine j_iald a_98 dX9_can_207 (by omega) (by omega) ?_
                                            refine j_eq (congrFun ((congrFun eM_1 98).trans (jup_cell (by decide))) v13) ?_
                                            have g_59 := h_rneeds v13
                                            have hJ_60 : ∀ zz : Int, ((((jand (jshr v11 v13) 1) + (jand (jshr v10 v13) 1)) + (jand (jshr v9 v13) 1)) < (M 98 v13) ∧ zz = 0) ∨ (¬ ((((jand (jshr v11 v13) 1) + (jand (jshr v10 v13) 1)) + (jand (jshr v9 v13) 1)) < (M 98 v13)) ∧ zz = 1) → jG D_X9_can X FJ shJ 0 0 (jqI (q_X9_can M p n most q w)) 216 [(0, jR 74), (1, jI p), (2, jI n), (3, jI most), (4, jI q), (5, jI w), (6, jI v6), (7, jI v7), (8, jI v8_22), (9, jI v9), (10, jI v10), (11, jI v11), (12, jI v12), (13, jI v13)] (jI zz :: []) M_1 := by
                                              intro t_61 et_61
                                              refine j_istore (ls' := [(0, jR 74), (1, jI p), (2, jI n), (3, jI most), (4, jI q), (5, jI w), (6, jI v6), (7, jI v7), (8, jI v8_22), (9, jI v9), (10, jI v10), (11, jI v11), (12, jI t_61), (13, jI v13)]) dX9_can_216 (by decide) rfl ?_
                                              obtain ⟨v13_62, ev13_62⟩ : ∃ y : Int, y = v13 + 1 := ⟨_, rfl⟩
                                              refine j_iinc (y := v13_62) (ls' := [(0, jR 74), (1, jI p), (2, jI n), (3, jI most), (4, jI q), (5, jI w), (6, jI v6), (7, jI v7), (8, jI v8_22), (9, jI v9), (10, jI v10), (11, jI v11), (12, jI t_61), (13, jI v13_62)]) 13 dX9_can_218 rfl ev13_62 (by omega) (by decide) rfl ?_
                                              refine j_goto (tgt := 167) dX9_can_221 (by decide) ?_
                                              exact ih167 t_61 v13_62 ⟨by omega, by rcases x2 with ⟨z1, z2, z3, z4, z5⟩ | z; (· rw [ev13_62, toNat_s x1.1]; rcases et_61 with ⟨y1, y2⟩ | ⟨y1, y2⟩; (· right; refine ⟨y2, fun z => ?_⟩; have z6 := zNd_mono (n := v13.toNat + 1) p.toNat (by omega) (zT_iff.1 z).2.2.2; unfold zNd at z6; rw [Bool.and_eq_true, decide_eq_true_iff, toNat_c x1.1] at z6; omega); (· left; refine ⟨y2, z2, z3, z4, ?_⟩; unfold zNd; rw [Bool.and_eq_true, decide_eq_true_iff, toNat_c x1.1]; exact ⟨z5, by omega⟩)); (· omega)⟩ (by omega)
                                            refine j_icmp_lt (tgt := 215) dX9_can_208 (by decide) (fun c208_63 => ?_) (fun c208_63 => ?_)
                                            · skip
                                              refine j_iconst dX9_can_215 (by decide) ?_
                                              exact hJ_60 _ (Or.inl ⟨c208_63, rfl⟩)
                                            · skip
                                              refine j_iconst dX9_can_211 (by decide) ?_
                                              refine j_goto (tgt := 216) dX9_can_212 (by decide) ?_
                                              exact hJ_60 _ (Or.inr (⟨c208_63, rfl⟩))
                                    exact lp167_42 _ 0 0 ⟨by omega, by first | exact Or.inl ⟨rfl, by unfold zOk; omega, by unfold zOk; omega, by unfold zOk; omega, rfl⟩ | exact Or.inr ⟨rfl, fun z => by (have z1 := (zT_iff.1 z).1; have z2 := (zT_iff.1 z).2.1; have z3 := (zT_iff.1 z).2.2.1; unfold zOk at z1 z2 z3; omega)⟩⟩ (Nat.lt_succ_self _)
                                  · skip
                                    refine j_aload_n 0 dX9_can_131 rfl rfl ?_
                                    refine j_iload 10 dX9_can_132 rfl ?_
                                    refine j_iload_n 1 dX9_can_134 rfl rfl ?_
                                    refine j_iload_n 3 dX9_can_135 rfl rfl ?_
                                    refine j_iload 4 dX9_can_136 rfl ?_
                                    refine j_callVi l_X9_318 ⟨Nat.le_of_ble_eq_true rfl, Nat.le_of_ble_eq_true rfl⟩ ⟨rfl, rfl⟩ dX9_can_138 ob_74 (c_X9_isRow M_1 v10 p most q (by rw [((congrFun eM_1 97).trans (jup_cell (by decide)))]; exact h_rminutes) (by first | assumption | omega)) rfl rfl (Nat.le_of_ble_eq_true rfl) (fun r_64 M_65 h_66 => ?_)
                                    obtain ⟨er_64, nh_66⟩ := h_66
                                    refine j_eqM nh_66 ?_
                                    clear nh_66
                                    simp only [((congrFun eM_1 97).trans (jup_cell (by decide)))] at er_64
                                    refine j_if_eq (tgt := 161) dX9_can_141 (by decide) (fun c141_67 => ?_) (fun c141_67 => ?_)
                                    · skip
                                      refine j_iconst dX9_can_161 (by decide) ?_
                                      refine j_istore (ls' := [(0, jR 74), (1, jI p), (2, jI n), (3, jI most), (4, jI q), (5, jI w), (6, jI v6), (7, jI v7), (8, jI v8_22), (9, jI v9), (10, jI v10), (11, jI v11), (12, jI 0)]) dX9_can_162 (by decide) rfl ?_
                                      refine j_iconst dX9_can_164 (by decide) ?_
                                      refine j_istore (ls' := [(0, jR 74), (1, jI p), (2, jI n), (3, jI most), (4, jI q), (5, jI w), (6, jI v6), (7, jI v7), (8, jI v8_22), (9, jI v9), (10, jI v10), (11, jI v11), (12, jI 0), (13, jI 0)]) dX9_can_165 (by decide) rfl ?_
                                      have lp167_68 : ∀ n167 : Nat, ∀ (v12 v13 : Int), (0 ≤ v13 ∧ v13 ≤ p) ∧ ((v12 = 1 ∧ zOk (M 97) p most q v11 ∧ zOk (M 97) p most q v10 ∧ zOk (M 97) p most q v9 ∧ zNd (M 98) v11 v10 v9 v13.toNat = true) ∨ (v12 = 0 ∧ ¬ zT (M 97) (M 98) p most q v11 v10 v9 = true)) → (p - v13).toNat < n167 → jG D_X9_can X FJ shJ 0 0 (jqI (q_X9_can M p n most q w)) 167 [(0, jR 74), (1, jI p), (2, jI n), (3, jI most), (4, jI q), (5, jI w), (6, jI v6), (7, jI v7), (8, jI v8_22), (9, jI v9), (10, jI v10), (11, jI v11), (12, jI v12), (13, jI v13)] ([]) M_1 := by
                                        intro n167
                                        induction n167 with
                                        | zero => intro v12 v13  _ hz; exact absurd hz (Nat.not_lt_zero _)
                                        | succ n167 ih167 =>
                                          intro v12 v13  hinv hm
                                          obtain ⟨x1, x2⟩ := hinv
                                          refine j_iload 13 dX9_can_167 rfl ?_
                                          refine j_iload_n 1 dX9_can_169 rfl rfl ?_
                                          refine j_icmp_ge (tgt := 224) dX9_can_170 (by decide) (fun c170_69 => ?_) (fun c170_69 => ?_)
                                          · skip
                                            refine j_iload 12 dX9_can_224 rfl ?_
                                            refine j_if_eq (tgt := 261) dX9_can_226 (by decide) (fun c226_70 => ?_) (fun c226_70 => ?_)
                                            · skip
                                              have hT : ¬ zT (M 97) (M 98) p most q v11 v10 v9 = true := by rcases x2 with z | z; (· omega); (· exact z.2)
                                              obtain ⟨v11_71, ev11_71⟩ : ∃ y : Int, y = v11 + 1 := ⟨_, rfl⟩
                                              refine j_iinc (y := v11_71) (ls' := [(0, jR 74), (1, jI p), (2, jI n), (3, jI most), (4, jI q), (5, jI w), (6, jI v6), (7, jI v7), (8, jI v8_22), (9, jI v9), (10, jI v10), (11, jI v11_71), (12, jI v12), (13, jI v13)]) 11 dX9_can_261 rfl ev11_71 (by omega) (by decide) rfl ?_
                                              refine j_goto (tgt := 111) dX9_can_264 (by decide) ?_
                                              refine j_sub (ls' := [(0, jR 74), (1, jI p), (2, jI n), (3, jI most), (4, jI q), (5, jI w), (6, jI v6), (7, jI v7), (8, jI v8_22), (9, jI v9), (10, jI v10), (11, jI v11_71)]) [0, 1, 2, 3, 4, 5, 6, 7, 8, 9, 10, 11] rfl ?_
                                              exact ih111 v6 v7 v11_71 ⟨by omega, by have y : zP (fun a => zI (zT (M 97) (M 98) p most q a v10 v9)) (v11 + 1).toNat = zP (fun a => zI (zT (M 97) (M 98) p most q a v10 v9)) v11.toNat + zI (zT (M 97) (M 98) p most q v11 v10 v9) := zP_s h11.1; rw [ev11_71, y]; first | (rw [show zI (zT (M 97) (M 98) p most q v11 v10 v9) = 1 from if_pos hT]; omega) | (rw [show zI (zT (M 97) (M 98) p most q v11 v10 v9) = 0 from if_neg hT]; omega), by omega, by rw [ev11_71]; exact zLst_step (by omega) (by omega) ⟨h11.1, by omega⟩ ⟨h10.1, by omega⟩ ⟨h9.1, by omega⟩ hf3 (by first | (left; exact ⟨hT, by omega⟩) | (right; exact ⟨hT, rfl⟩)), by omega⟩ (by omega)
                                            · skip
                                              have hT : zT (M 97) (M 98) p most q v11 v10 v9 = true := by rcases x2 with z | z; (· have e13 : v13 = p := (by omega); rw [e13] at z; exact zT_iff.2 z.2); (· omega)
                                              obtain ⟨v6_72, ev6_72⟩ : ∃ y : Int, y = v6 + 1 := ⟨_, rfl⟩
                                              refine j_iinc (y := v6_72) (ls' := [(0, jR 74), (1, jI p), (2, jI n), (3, jI most), (4, jI q), (5, jI w), (6, jI v6_72), (7, jI v7), (8, jI v8_22), (9, jI v9), (10, jI v10), (11, jI v11), (12, jI v12), (13, jI v13)]) 6 dX9_can_229 rfl ev6_72 (by omega) (by decide) rfl ?_
                                              refine j_iload 7 dX9_can_232 rfl ?_
                                              refine j_bipush dX9_can_234 (by decide) ?_
                                              have hJ_73 : ∀ zz : Int, (¬ v7 = (-9) ∧ zz = v7) ∨ (v7 = (-9) ∧ zz = ((v11 + (64 * v10)) + (4096 * v9))) → jG D_X9_can X FJ shJ 0 0 (jqI (q_X9_can M p n most q w)) 259 [(0, jR 74), (1, jI p), (2, jI n), (3, jI most), (4, jI q), (5, jI w), (6, jI v6_72), (7, jI v7), (8, jI v8_22), (9, jI v9), (10, jI v10), (11, jI v11), (12, jI v12), (13, jI v13)] (jI zz :: []) M_1 := by
                                                intro t_74 et_74
                                                refine j_istore (ls' := [(0, jR 74), (1, jI p), (2, jI n), (3, jI most), (4, jI q), (5, jI w), (6, jI v6_72), (7, jI t_74), (8, jI v8_22), (9, jI v9), (10, jI v10), (11, jI v11), (12, jI v12), (13, jI v13)]) dX9_can_259 (by decide) rfl ?_
                                                obtain ⟨v11_75, ev11_75⟩ : ∃ y : Int, y = v11 + 1 := ⟨_, rfl⟩
                                                refine j_iinc (y := v11_75) (ls' := [(0, jR 74), (1, jI p), (2, jI n), (3, jI most), (4, jI q), (5, jI w), (6, jI v6_72), (7, jI t_74), (8, jI v8_22), (9, jI v9), (10, jI v10), (11, jI v11_75), (12, jI v12), (13, jI v13)]) 11 dX9_can_261 rfl ev11_75 (by omega) (by decide) rfl ?_
                                                refine j_goto (tgt := 111) dX9_can_264 (by decide) ?_
                                                refine j_sub (ls' := [(0, jR 74), (1, jI p), (2, jI n), (3, jI most), (4, jI q), (5, jI w), (6, jI v6_72), (7, jI t_74), (8, jI v8_22), (9, jI v9), (10, jI v10), (11, jI v11_75)]) [0, 1, 2, 3, 4, 5, 6, 7, 8, 9, 10, 11] rfl ?_
                                                exact ih111 v6_72 t_74 v11_75 ⟨by omega, by have y : zP (fun a => zI (zT (M 97) (M 98) p most q a v10 v9)) (v11 + 1).toNat = zP (fun a => zI (zT (M 97) (M 98) p most q a v10 v9)) v11.toNat + zI (zT (M 97) (M 98) p most q v11 v10 v9) := zP_s h11.1; rw [ev11_75, y]; first | (rw [show zI (zT (M 97) (M 98) p most q v11 v10 v9) = 1 from if_pos hT]; omega) | (rw [show zI (zT (M 97) (M 98) p most q v11 v10 v9) = 0 from if_neg hT]; omega), by omega, by rw [ev11_75]; exact zLst_step (by omega) (by omega) ⟨h11.1, by omega⟩ ⟨h10.1, by omega⟩ ⟨h9.1, by omega⟩ hf3 (by first | (left; exact ⟨hT, by omega⟩) | (right; exact ⟨hT, rfl⟩)), by omega⟩ (by omega)
                                              refine j_icmp_ne (tgt := 257) dX9_can_236 (by decide) (fun c236_76 => ?_) (fun c236_76 => ?_)
                                              · skip
                                                refine j_iload 7 dX9_can_257 rfl ?_
                                                exact hJ_73 _ (Or.inl ⟨c236_76, rfl⟩)
                                              · skip
                                                refine j_iload 11 dX9_can_239 rfl ?_
                                                refine j_bipush dX9_can_241 (by decide) ?_
                                                refine j_iload 10 dX9_can_243 rfl ?_
                                                refine j_imul dX9_can_245 (by omega) ?_
                                                refine j_iadd dX9_can_246 (by omega) ?_
                                                refine j_sipush dX9_can_247 (by decide) ?_
                                                refine j_iload 9 dX9_can_250 rfl ?_
                                                refine j_imul dX9_can_252 (by omega) ?_
                                                refine j_iadd dX9_can_253 (by omega) ?_
                                                refine j_goto (tgt := 259) dX9_can_254 (by decide) ?_
                                                exact hJ_73 _ (Or.inr (⟨c236_76, rfl⟩))
                                          · skip
                                            refine j_iload 12 dX9_can_173 rfl ?_
                                            refine j_if_eq (tgt := 224) dX9_can_175 (by decide) (fun c175_77 => ?_) (fun c175_77 => ?_)
                                            · skip
                                              refine j_iload 12 dX9_can_224 rfl ?_
                                              refine j_if_eq (tgt := 261) dX9_can_226 (by decide) (fun c226_78 => ?_) (fun c226_78 => ?_)
                                              · skip
                                                have hT : ¬ zT (M 97) (M 98) p most q v11 v10 v9 = true := by rcases x2 with z | z; (· omega); (· exact z.2)
                                                obtain ⟨v11_79, ev11_79⟩ : ∃ y : Int, y = v11 + 1 := ⟨_, rfl⟩
                                                refine j_iinc (y := v11_79) (ls' := [(0, jR 74), (1, jI p), (2, jI n), (3, jI most), (4, jI q), (5, jI w), (6, jI v6), (7, jI v7), (8, jI v8_22), (9, jI v9), (10, jI v10), (11, jI v11_79), (12, jI v12), (13, jI v13)]) 11 dX9_can_261 rfl ev11_79 (by omega) (by decide) rfl ?_
                                                refine j_goto (tgt := 111) dX9_can_264 (by decide) ?_
                                                refine j_sub (ls' := [(0, jR 74), (1, jI p), (2, jI n), (3, jI most), (4, jI q), (5, jI w), (6, jI v6), (7, jI v7), (8, jI v8_22), (9, jI v9), (10, jI v10), (11, jI v11_79)]) [0, 1, 2, 3, 4, 5, 6, 7, 8, 9, 10, 11] rfl ?_
                                                exact ih111 v6 v7 v11_79 ⟨by omega, by have y : zP (fun a => zI (zT (M 97) (M 98) p most q a v10 v9)) (v11 + 1).toNat = zP (fun a => zI (zT (M 97) (M 98) p most q a v10 v9)) v11.toNat + zI (zT (M 97) (M 98) p most q v11 v10 v9) := zP_s h11.1; rw [ev11_79, y]; first | (rw [show zI (zT (M 97) (M 98) p most q v11 v10 v9) = 1 from if_pos hT]; omega) | (rw [show zI (zT (M 97) (M 98) p most q v11 v10 v9) = 0 from if_neg hT]; omega), by omega, by rw [ev11_79]; exact zLst_step (by omega) (by omega) ⟨h11.1, by omega⟩ ⟨h10.1, by omega⟩ ⟨h9.1, by omega⟩ hf3 (by first | (left; exact ⟨hT, by omega⟩) | (right; exact ⟨hT, rfl⟩)), by omega⟩ (by omega)
                                              · skip
                                                have hT : zT (M 97) (M 98) p most q v11 v10 v9 = true := by rcases x2 with z | z; (· have e13 : v13 = p := (by omega); rw [e13] at z; exact zT_iff.2 z.2); (· omega)
                                                obtain ⟨v6_80, ev6_80⟩ : ∃ y : Int, y = v6 + 1 := ⟨_, rfl⟩
                                                refine j_iinc (y := v6_80) (ls' := [(0, jR 74), (1, jI p), (2, jI n), (3, jI most), (4, jI q), (5, jI w), (6, jI v6_80), (7, jI v7), (8, jI v8_22), (9, jI v9), (10, jI v10), (11, jI v11), (12, jI v12), (13, jI v13)]) 6 dX9_can_229 rfl ev6_80 (by omega) (by decide) rfl ?_
                                                refine j_iload 7 dX9_can_232 rfl ?_
                                                refine j_bipush dX9_can_234 (by decide) ?_
                                                have hJ_81 : ∀ zz : Int, (¬ v7 = (-9) ∧ zz = v7) ∨ (v7 = (-9) ∧ zz = ((v11 + (64 * v10)) + (4096 * v9))) → jG D_X9_can X FJ shJ 0 0 (jqI (q_X9_can M p n most q w)) 259 [(0, jR 74), (1, jI p), (2, jI n), (3, jI most), (4, jI q), (5, jI w), (6, jI v6_80), (7, jI v7), (8, jI v8_22), (9, jI v9), (10, jI v10), (11, jI v11), (12, jI v12), (13, jI v13)] (jI zz :: []) M_1 := by
                                                  intro t_82 et_82
                                                  refine j_istore (ls' := [(0, jR 74), (1, jI p), (2, jI n), (3, jI most), (4, jI q), (5, jI w), (6, jI v6_80), (7, jI t_82), (8, jI v8_22), (9, jI v9), (10, jI v10), (11, jI v11), (12, jI v12), (13, jI v13)]) dX9_can_259 (by decide) rfl ?_
                                                  obtain ⟨v11_83, ev11_83⟩ : ∃ y : Int, y = v11 + 1 := ⟨_, rfl⟩
                                                  refine j_iinc (y := v11_83) (ls' := [(0, jR 74), (1, jI p), (2, jI n), (3, jI most), (4, jI q), (5, jI w), (6, jI v6_80), (7, jI t_82), (8, jI v8_22), (9, jI v9), (10, jI v10), (11, jI v11_83), (12, jI v12), (13, jI v13)]) 11 dX9_can_261 rfl ev11_83 (by omega) (by decide) rfl ?_
                                                  refine j_goto (tgt := 111) dX9_can_264 (by decide) ?_
                                                  refine j_sub (ls' := [(0, jR 74), (1, jI p), (2, jI n), (3, jI most), (4, jI q), (5, jI w), (6, jI v6_80), (7, jI t_82), (8, jI v8_22), (9, jI v9), (10, jI v10), (11, jI v11_83)]) [0, 1, 2, 3, 4, 5, 6, 7, 8, 9, 10, 11] rfl ?_
                                                  exact ih111 v6_80 t_82 v11_83 ⟨by omega, by have y : zP (fun a => zI (zT (M 97) (M 98) p most q a v10 v9)) (v11 + 1).toNat = zP (fun a => zI (zT (M 97) (M 98) p most q a v10 v9)) v11.toNat + zI (zT (M 97) (M 98) p most q v11 v10 v9) := zP_s h11.1; rw [ev11_83, y]; first | (rw [show zI (zT (M 97) (M 98) p most q v11 v10 v9) = 1 from if_pos hT]; omega) | (rw [show zI (zT (M 97) (M 98) p most q v11 v10 v9) = 0 from if_neg hT]; omega), by omega, by rw [ev11_83]; exact zLst_step (by omega) (by omega) ⟨h11.1, by omega⟩ ⟨h10.1, by omega⟩ ⟨h9.1, by omega⟩ hf3 (by first | (left; exact ⟨hT, by omega⟩) | (right; exact ⟨hT, rfl⟩)), by omega⟩ (by omega)
                                                refine j_icmp_ne (tgt := 257) dX9_can_236 (by decide) (fun c236_84 => ?_) (fun c236_84 => ?_)
                                                · skip
                                                  refine j_iload 7 dX9_can_257 rfl ?_
                                                  exact hJ_81 _ (Or.inl ⟨c236_84, rfl⟩)
                                                · skip
                                                  refine j_iload 11 dX9_can_239 rfl ?_
                                                  refine j_bipush dX9_can_241 (by decide) ?_
                                                  refine j_iload 10 dX9_can_243 rfl ?_
                                                  refine j_imul dX9_can_245 (by omega) ?_
                                                  refine j_iadd dX9_can_246 (by omega) ?_
                                                  refine j_sipush dX9_can_247 (by decide) ?_
                                                  refine j_iload 9 dX9_can_250 rfl ?_
                                                  refine j_imul dX9_can_252 (by omega) ?_
                                                  refine j_iadd dX9_can_253 (by omega) ?_
                                                  refine j_goto (tgt := 259) dX9_can_254 (by decide) ?_
                                                  exact hJ_81 _ (Or.inr (⟨c236_84, rfl⟩))
                                            · skip
                                              have w1 : jand (jshr v11 v13) 1 = zBit v11 v13 := jbit ⟨by omega, by omega⟩ ⟨by omega, by omega⟩
                                              have w2 : jand (jshr v10 v13) 1 = zBit v10 v13 := jbit ⟨by omega, by omega⟩ ⟨by omega, by omega⟩
                                              have w3 : jand (jshr v9 v13) 1 = zBit v9 v13 := jbit ⟨by omega, by omega⟩ ⟨by omega, by omega⟩
                                              have w4 := zBit_in v11 v13
                                              have w5 := zBit_in v10 v13
                                              have w6 := zBit_in v9 v13
                                              refine j_iload 11 dX9_can_178 rfl ?_
                                              refine j_iload 13 dX9_can_180 rfl ?_
                                              refine j_ishr dX9_can_182 ?_
                                              refine j_iconst dX9_can_183 (by decide) ?_
                                              refine j_iand dX9_can_184 ?_
                                              refine j_iload 10 dX9_can_185 rfl ?_
                                              refine j_iload 13 dX9_can_187 rfl ?_
                                              refine j_ishr dX9_can_189 ?_
                                              refine j_iconst dX9_can_190 (by decide) ?_
                                              refine j_iand dX9_can_191 ?_
                                              refine j_iadd dX9_can_192 (by omega) ?_
                                              refine j_iload 9 dX9_can_193 rfl ?_
                                              refine j_iload 13 dX9_can_195 rfl ?_
                                              refine j_ishr dX9_can_197 ?_
                                              refine j_iconst dX9_can_198 (by decide) ?_
                                              refine j_iand dX9_can_199 ?_
                                              refine j_iadd dX9_can_200 (by omega) ?_
                                              refine j_aload_n 0 dX9_can_201 rfl rfl ?_
                                              refine j_getr f_X9_80 r_74_37 dX9_can_202 ?_
                                              refine j_iload 13 dX9_can_205 rfl ?_
                                              refine j_iald a_98 dX9_can_207 (by omega) (by omega) ?_
                                              refine j_eq (congrFun ((congrFun eM_1 98).trans (jup_cell (by decide))) v13) ?_
                                              have g_85 := h_rneeds v13
                                              have hJ_86 : ∀ zz : Int, ((((jand (jshr v11 v13) 1) + (jand (jshr v10 v13) 1)) + (jand (jshr v9 v13) 1)) < (M 98 v13) ∧ zz = 0) ∨ (¬ ((((jand (jshr v11 v13) 1) + (jand (jshr v10 v13) 1)) + (jand (jshr v9 v13) 1)) < (M 98 v13)) ∧ zz = 1) → jG D_X9_can X FJ shJ 0 0 (jqI (q_X9_can M p n most q w)) 216 [(0, jR 74), (1, jI p), (2, jI n), (3, jI most), (4, jI q), (5, jI w), (6, jI v6), (7, jI v7), (8, jI v8_22), (9, jI v9), (10, jI v10), (11, jI v11), (12, jI v12), (13, jI v13)] (jI zz :: []) M_1 := by
                                                intro t_87 et_87
                                                refine j_istore (ls' := [(0, jR 74), (1, jI p), (2, jI n), (3, jI most), (4, jI q), (5, jI w), (6, jI v6), (7, jI v7), (8, jI v8_22), (9, jI v9), (10, jI v10), (11, jI v11), (12, jI t_87), (13, jI v13)]) dX9_can_216 (by decide) rfl ?_
                                                obtain ⟨v13_88, ev13_88⟩ : ∃ y : Int, y = v13 + 1 := ⟨_, rfl⟩
                                                refine j_iinc (y := v13_88) (ls' := [(0, jR 74), (1, jI p), (2, jI n), (3, jI most), (4, jI q), (5, jI w), (6, jI v6), (7, jI v7), (8, jI v8_22), (9, jI v9), (10, jI v10), (11, jI v11), (12, jI t_87), (13, jI v13_88)]) 13 dX9_can_218 rfl ev13_88 (by omega) (by decide) rfl ?_
                                                refine j_goto (tgt := 167) dX9_can_221 (by decide) ?_
                                                exact ih167 t_87 v13_88 ⟨by omega, by rcases x2 with ⟨z1, z2, z3, z4, z5⟩ | z; (· rw [ev13_88, toNat_s x1.1]; rcases et_87 with ⟨y1, y2⟩ | ⟨y1, y2⟩; (· right; refine ⟨y2, fun z => ?_⟩; have z6 := zNd_mono (n := v13.toNat + 1) p.toNat (by omega) (zT_iff.1 z).2.2.2; unfold zNd at z6; rw [Bool.and_eq_true, decide_eq_true_iff, toNat_c x1.1] at z6; omega); (· left; refine ⟨y2, z2, z3, z4, ?_⟩; unfold zNd; rw [Bool.and_eq_true, decide_eq_true_iff, toNat_c x1.1]; exact ⟨z5, by omega⟩)); (· omega)⟩ (by omega)
                                              refine j_icmp_lt (tgt := 215) dX9_can_208 (by decide) (fun c208_89 => ?_) (fun c208_89 => ?_)
                                              · skip
                                                refine j_iconst dX9_can_215 (by decide) ?_
                                                exact hJ_86 _ (Or.inl ⟨c208_89, rfl⟩)
                                              · skip
                                                refine j_iconst dX9_can_211 (by decide) ?_
                                                refine j_goto (tgt := 216) dX9_can_212 (by decide) ?_
                                                exact hJ_86 _ (Or.inr (⟨c208_89, rfl⟩))
                                      exact lp167_68 _ 0 0 ⟨by omega, by first | exact Or.inl ⟨rfl, by unfold zOk; omega, by unfold zOk; omega, by unfold zOk; omega, rfl⟩ | exact Or.inr ⟨rfl, fun z => by (have z1 := (zT_iff.1 z).1; have z2 := (zT_iff.1 z).2.1; have z3 := (zT_iff.1 z).2.2.1; unfold zOk at z1 z2 z3; omega)⟩⟩ (Nat.lt_succ_self _)
                                    · skip
                                      refine j_aload_n 0 dX9_can_144 rfl rfl ?_
                                      refine j_iload 9 dX9_can_145 rfl ?_
                                      refine j_iload_n 1 dX9_can_147 rfl rfl ?_
                                      refine j_iload_n 3 dX9_can_148 rfl rfl ?_
                                      refine j_iload 4 dX9_can_149 rfl ?_
                                      refine j_callVi l_X9_318 ⟨Nat.le_of_ble_eq_true rfl, Nat.le_of_ble_eq_true rfl⟩ ⟨rfl, rfl⟩ dX9_can_151 ob_74 (c_X9_isRow M_1 v9 p most q (by rw [((congrFun eM_1 97).trans (jup_cell (by decide)))]; exact h_rminutes) (by first | assumption | omega)) rfl rfl (Nat.le_of_ble_eq_true rfl) (fun r_90 M_91 h_92 => ?_)
                                      obtain ⟨er_90, nh_92⟩ := h_92
                                      refine j_eqM nh_92 ?_
                                      clear nh_92
                                      simp only [((congrFun eM_1 97).trans (jup_cell (by decide)))] at er_90
                                      refine j_if_eq (tgt := 161) dX9_can_154 (by decide) (fun c154_93 => ?_) (fun c154_93 => ?_)
                                      · skip
                                        refine j_iconst dX9_can_161 (by decide) ?_
                                        refine j_istore (ls' := [(0, jR 74), (1, jI p), (2, jI n), (3, jI most), (4, jI q), (5, jI w), (6, jI v6), (7, jI v7), (8, jI v8_22), (9, jI v9), (10, jI v10), (11, jI v11), (12, jI 0)]) dX9_can_162 (by decide) rfl ?_
                                        refine j_iconst dX9_can_164 (by decide) ?_
                                        refine j_istore (ls' := [(0, jR 74), (1, jI p), (2, jI n), (3, jI most), (4, jI q), (5, jI w), (6, jI v6), (7, jI v7), (8, jI v8_22), (9, jI v9), (10, jI v10), (11, jI v11), (12, jI 0), (13, jI 0)]) dX9_can_165 (by decide) rfl ?_
                                        have lp167_94 : ∀ n167 : Nat, ∀ (v12 v13 : Int), (0 ≤ v13 ∧ v13 ≤ p) ∧ ((v12 = 1 ∧ zOk (M 97) p most q v11 ∧ zOk (M 97) p most q v10 ∧ zOk (M 97) p most q v9 ∧ zNd (M 98) v11 v10 v9 v13.toNat = true) ∨ (v12 = 0 ∧ ¬ zT (M 97) (M 98) p most q v11 v10 v9 = true)) → (p - v13).toNat < n167 → jG D_X9_can X FJ shJ 0 0 (jqI (q_X9_can M p n most q w)) 167 [(0, jR 74), (1, jI p), (2, jI n), (3, jI most), (4, jI q), (5, jI w), (6, jI v6), (7, jI v7), (8, jI v8_22), (9, jI v9), (10, jI v10), (11, jI v11), (12, jI v12), (13, jI v13)] ([]) M_1 := by
                                          intro n167
                                          induction n167 with
                                          | zero => intro v12 v13  _ hz; exact absurd hz (Nat.not_lt_zero _)
                                          | succ n167 ih167 =>
                                            intro v12 v13  hinv hm
                                            obtain ⟨x1, x2⟩ := hinv
                                            refine j_iload 13 dX9_can_167 rfl ?_
                                            refine j_iload_n 1 dX9_can_169 rfl rfl ?_
                                            refine j_icmp_ge (tgt := 224) dX9_can_170 (by decide) (fun c170_95 => ?_) (fun c170_95 => ?_)
                                            · skip
                                              refine j_iload 12 dX9_can_224 rfl ?_
                                              refine j_if_eq (tgt := 261) dX9_can_226 (by decide) (fun c226_96 => ?_) (fun c226_96 => ?_)
                                              · skip
                                                have hT : ¬ zT (M 97) (M 98) p most q v11 v10 v9 = true := by rcases x2 with z | z; (· omega); (· exact z.2)
                                                obtain ⟨v11_97, ev11_97⟩ : ∃ y : Int, y = v11 + 1 := ⟨_, rfl⟩
                                                refine j_iinc (y := v11_97) (ls' := [(0, jR 74), (1, jI p), (2, jI n), (3, jI most), (4, jI q), (5, jI w), (6, jI v6), (7, jI v7), (8, jI v8_22), (9, jI v9), (10, jI v10), (11, jI v11_97), (12, jI v12), (13, jI v13)]) 11 dX9_can_261 rfl ev11_97 (by omega) (by decide) rfl ?_
                                                refine j_goto (tgt := 111) dX9_can_264 (by decide) ?_
                                                refine j_sub (ls' := [(0, jR 74), (1, jI p), (2, jI n), (3, jI most), (4, jI q), (5, jI w), (6, jI v6), (7, jI v7), (8, jI v8_22), (9, jI v9), (10, jI v10), (11, jI v11_97)]) [0, 1, 2, 3, 4, 5, 6, 7, 8, 9, 10, 11] rfl ?_
                                                exact ih111 v6 v7 v11_97 ⟨by omega, by have y : zP (fun a => zI (zT (M 97) (M 98) p most q a v10 v9)) (v11 + 1).toNat = zP (fun a => zI (zT (M 97) (M 98) p most q a v10 v9)) v11.toNat + zI (zT (M 97) (M 98) p most q v11 v10 v9) := zP_s h11.1; rw [ev11_97, y]; first | (rw [show zI (zT (M 97) (M 98) p most q v11 v10 v9) = 1 from if_pos hT]; omega) | (rw [show zI (zT (M 97) (M 98) p most q v11 v10 v9) = 0 from if_neg hT]; omega), by omega, by rw [ev11_97]; exact zLst_step (by omega) (by omega) ⟨h11.1, by omega⟩ ⟨h10.1, by omega⟩ ⟨h9.1, by omega⟩ hf3 (by first | (left; exact ⟨hT, by omega⟩) | (right; exact ⟨hT, rfl⟩)), by omega⟩ (by omega)
                                              · skip
                                                have hT : zT (M 97) (M 98) p most q v11 v10 v9 = true := by rcases x2 with z | z; (· have e13 : v13 = p := (by omega); rw [e13] at z; exact zT_iff.2 z.2); (· omega)
                                                obtain ⟨v6_98, ev6_98⟩ : ∃ y : Int, y = v6 + 1 := ⟨_, rfl⟩
                                                refine j_iinc (y := v6_98) (ls' := [(0, jR 74), (1, jI p), (2, jI n), (3, jI most), (4, jI q), (5, jI w), (6, jI v6_98), (7, jI v7), (8, jI v8_22), (9, jI v9), (10, jI v10), (11, jI v11), (12, jI v12), (13, jI v13)]) 6 dX9_can_229 rfl ev6_98 (by omega) (by decide) rfl ?_
                                                refine j_iload 7 dX9_can_232 rfl ?_
                                                refine j_bipush dX9_can_234 (by decide) ?_
                                                have hJ_99 : ∀ zz : Int, (¬ v7 = (-9) ∧ zz = v7) ∨ (v7 = (-9) ∧ zz = ((v11 + (64 * v10)) + (4096 * v9))) → jG D_X9_can X FJ shJ 0 0 (jqI (q_X9_can M p n most q w)) 259 [(0, jR 74), (1, jI p), (2, jI n), (3, jI most), (4, jI q), (5, jI w), (6, jI v6_98), (7, jI v7), (8, jI v8_22), (9, jI v9), (10, jI v10), (11, jI v11), (12, jI v12), (13, jI v13)] (jI zz :: []) M_1 := by
                                                  intro t_100 et_100
                                                  refine j_istore (ls' := [(0, jR 74), (1, jI p), (2, jI n), (3, jI most), (4, jI q), (5, jI w), (6, jI v6_98), (7, jI t_100), (8, jI v8_22), (9, jI v9), (10, jI v10), (11, jI v11), (12, jI v12), (13, jI v13)]) dX9_can_259 (by decide) rfl ?_
                                                  obtain ⟨v11_101, ev11_101⟩ : ∃ y : Int, y = v11 + 1 := ⟨_, rfl⟩
                                                  refine j_iinc (y := v11_101) (ls' := [(0, jR 74), (1, jI p), (2, jI n), (3, jI most), (4, jI q), (5, jI w), (6, jI v6_98), (7, jI t_100), (8, jI v8_22), (9, jI v9), (10, jI v10), (11, jI v11_101), (12, jI v12), (13, jI v13)]) 11 dX9_can_261 rfl ev11_101 (by omega) (by decide) rfl ?_
                                                  refine j_goto (tgt := 111) dX9_can_264 (by decide) ?_
                                                  refine j_sub (ls' := [(0, jR 74), (1, jI p), (2, jI n), (3, jI most), (4, jI q), (5, jI w), (6, jI v6_98), (7, jI t_100), (8, jI v8_22), (9, jI v9), (10, jI v10), (11, jI v11_101)]) [0, 1, 2, 3, 4, 5, 6, 7, 8, 9, 10, 11] rfl ?_
                                                  exact ih111 v6_98 t_100 v11_101 ⟨by omega, by have y : zP (fun a => zI (zT (M 97) (M 98) p most q a v10 v9)) (v11 + 1).toNat = zP (fun a => zI (zT (M 97) (M 98) p most q a v10 v9)) v11.toNat + zI (zT (M 97) (M 98) p most q v11 v10 v9) := zP_s h11.1; rw [ev11_101, y]; first | (rw [show zI (zT (M 97) (M 98) p most q v11 v10 v9) = 1 from if_pos hT]; omega) | (rw [show zI (zT (M 97) (M 98) p most q v11 v10 v9) = 0 from if_neg hT]; omega), by omega, by rw [ev11_101]; exact zLst_step (by omega) (by omega) ⟨h11.1, by omega⟩ ⟨h10.1, by omega⟩ ⟨h9.1, by omega⟩ hf3 (by first | (left; exact ⟨hT, by omega⟩) | (right; exact ⟨hT, rfl⟩)), by omega⟩ (by omega)
                                                refine j_icmp_ne (tgt := 257) dX9_can_236 (by decide) (fun c236_102 => ?_) (fun c236_102 => ?_)
                                                · skip
                                                  refine j_iload 7 dX9_can_257 rfl ?_
                                                  exact hJ_99 _ (Or.inl ⟨c236_102, rfl⟩)
                                                · skip
                                                  refine j_iload 11 dX9_can_239 rfl ?_
                                                  refine j_bipush dX9_can_241 (by decide) ?_
                                                  refine j_iload 10 dX9_can_243 rfl ?_
                                                  refine j_imul dX9_can_245 (by omega) ?_
                                                  refine j_iadd dX9_can_246 (by omega) ?_
                                                  refine j_sipush dX9_can_247 (by decide) ?_
                                                  refine j_iload 9 dX9_can_250 rfl ?_
                                                  refine j_imul dX9_can_252 (by omega) ?_
                                                  refine j_iadd dX9_can_253 (by omega) ?_
                                                  refine j_goto (tgt := 259) dX9_can_254 (by decide) ?_
                                                  exact hJ_99 _ (Or.inr (⟨c236_102, rfl⟩))
                                            · skip
                                              refine j_iload 12 dX9_can_173 rfl ?_
                                              refine j_if_eq (tgt := 224) dX9_can_175 (by decide) (fun c175_103 => ?_) (fun c175_103 => ?_)
                                              · skip
                                                refine j_iload 12 dX9_can_224 rfl ?_
                                                refine j_if_eq (tgt := 261) dX9_can_226 (by decide) (fun c226_104 => ?_) (fun c226_104 => ?_)
                                                · skip
                                                  have hT : ¬ zT (M 97) (M 98) p most q v11 v10 v9 = true := by rcases x2 with z | z; (· omega); (· exact z.2)
                                                  obtain ⟨v11_105, ev11_105⟩ : ∃ y : Int, y = v11 + 1 := ⟨_, rfl⟩
                                                  refine j_iinc (y := v11_105) (ls' := [(0, jR 74), (1, jI p), (2, jI n), (3, jI most), (4, jI q), (5, jI w), (6, jI v6), (7, jI v7), (8, jI v8_22), (9, jI v9), (10, jI v10), (11, jI v11_105), (12, jI v12), (13, jI v13)]) 11 dX9_can_261 rfl ev11_105 (by omega) (by decide) rfl ?_
                                                  refine j_goto (tgt := 111) dX9_can_264 (by decide) ?_
                                                  refine j_sub (ls' := [(0, jR 74), (1, jI p), (2, jI n), (3, jI most), (4, jI q), (5, jI w), (6, jI v6), (7, jI v7), (8, jI v8_22), (9, jI v9), (10, jI v10), (11, jI v11_105)]) [0, 1, 2, 3, 4, 5, 6, 7, 8, 9, 10, 11] rfl ?_
                                                  exact ih111 v6 v7 v11_105 ⟨by omega, by have y : zP (fun a => zI (zT (M 97) (M 98) p most q a v10 v9)) (v11 + 1).toNat = zP (fun a => zI (zT (M 97) (M 98) p most q a v10 v9)) v11.toNat + zI (zT (M 97) (M 98) p most q v11 v10 v9) := zP_s h11.1; rw [ev11_105, y]; first | (rw [show zI (zT (M 97) (M 98) p most q v11 v10 v9) = 1 from if_pos hT]; omega) | (rw [show zI (zT (M 97) (M 98) p most q v11 v10 v9) = 0 from if_neg hT]; omega), by omega, by rw [ev11_105]; exact zLst_step (by omega) (by omega) ⟨h11.1, by omega⟩ ⟨h10.1, by omega⟩ ⟨h9.1, by omega⟩ hf3 (by first | (left; exact ⟨hT, by omega⟩) | (right; exact ⟨hT, rfl⟩)), by omega⟩ (by omega)
                                                · skip
                                                  have hT : zT (M 97) (M 98) p most q v11 v10 v9 = true := by rcases x2 with z | z; (· have e13 : v13 = p := (by omega); rw [e13] at z; exact zT_iff.2 z.2); (· omega)
                                                  obtain ⟨v6_106, ev6_106⟩ : ∃ y : Int, y = v6 + 1 := ⟨_, rfl⟩
                                                  refine j_iinc (y := v6_106) (ls' := [(0, jR 74), (1, jI p), (2, jI n), (3, jI most), (4, jI q), (5, jI w), (6, jI v6_106), (7, jI v7), (8, jI v8_22), (9, jI v9), (10, jI v10), (11, jI v11), (12, jI v12), (13, jI v13)]) 6 dX9_can_229 rfl ev6_106 (by omega) (by decide) rfl ?_
                                                  refine j_iload 7 dX9_can_232 rfl ?_
                                                  refine j_bipush dX9_can_234 (by decide) ?_
                                                  have hJ_107 : ∀ zz : Int, (¬ v7 = (-9) ∧ zz = v7) ∨ (v7 = (-9) ∧ zz = ((v11 + (64 * v10)) + (4096 * v9))) → jG D_X9_can X FJ shJ 0 0 (jqI (q_X9_can M p n most q w)) 259 [(0, jR 74), (1, jI p), (2, jI n), (3, jI most), (4, jI q), (5, jI w), (6, jI v6_106), (7, jI v7), (8, jI v8_22), (9, jI v9), (10, jI v10), (11, jI v11), (12, jI v12), (13, jI v13)] (jI zz :: []) M_1 := by
                                                    intro t_108 et_108
                                                    refine j_istore (ls' := [(0, jR 74), (1, jI p), (2, jI n), (3, jI most), (4, jI q), (5, jI w), (6, jI v6_106), (7, jI t_108), (8, jI v8_22), (9, jI v9), (10, jI v10), (11, jI v11), (12, jI v12), (13, jI v13)]) dX9_can_259 (by decide) rfl ?_
                                                    obtain ⟨v11_109, ev11_109⟩ : ∃ y : Int, y = v11 + 1 := ⟨_, rfl⟩
                                                    refine j_iinc (y := v11_109) (ls' := [(0, jR 74), (1, jI p), (2, jI n), (3, jI most), (4, jI q), (5, jI w), (6, jI v6_106), (7, jI t_108), (8, jI v8_22), (9, jI v9), (10, jI v10), (11, jI v11_109), (12, jI v12), (13, jI v13)]) 11 dX9_can_261 rfl ev11_109 (by omega) (by decide) rfl ?_
                                                    refine j_goto (tgt := 111) dX9_can_264 (by decide) ?_
                                                    refine j_sub (ls' := [(0, jR 74), (1, jI p), (2, jI n), (3, jI most), (4, jI q), (5, jI w), (6, jI v6_106), (7, jI t_108), (8, jI v8_22), (9, jI v9), (10, jI v10), (11, jI v11_109)]) [0, 1, 2, 3, 4, 5, 6, 7, 8, 9, 10, 11] rfl ?_
                                                    exact ih111 v6_106 t_108 v11_109 ⟨by omega, by have y : zP (fun a => zI (zT (M 97) (M 98) p most q a v10 v9)) (v11 + 1).toNat = zP (fun a => zI (zT (M 97) (M 98) p most q a v10 v9)) v11.toNat + zI (zT (M 97) (M 98) p most q v11 v10 v9) := zP_s h11.1; rw [ev11_109, y]; first | (rw [show zI (zT (M 97) (M 98) p most q v11 v10 v9) = 1 from if_pos hT]; omega) | (rw [show zI (zT (M 97) (M 98) p most q v11 v10 v9) = 0 from if_neg hT]; omega), by omega, by rw [ev11_109]; exact zLst_step (by omega) (by omega) ⟨h11.1, by omega⟩ ⟨h10.1, by omega⟩ ⟨h9.1, by omega⟩ hf3 (by first | (left; exact ⟨hT, by omega⟩) | (right; exact ⟨hT, rfl⟩)), by omega⟩ (by omega)
                                                  refine j_icmp_ne (tgt := 257) dX9_can_236 (by decide) (fun c236_110 => ?_) (fun c236_110 => ?_)
                                                  · skip
                                                    refine j_iload 7 dX9_can_257 rfl ?_
                                                    exact hJ_107 _ (Or.inl ⟨c236_110, rfl⟩)
                                                  · skip
                                                    refine j_iload 11 dX9_can_239 rfl ?_
                                                    refine j_bipush dX9_can_241 (by decide) ?_
                                                    refine j_iload 10 dX9_can_243 rfl ?_
                                                    refine j_imul dX9_can_245 (by omega) ?_
                                                    refine j_iadd dX9_can_246 (by omega) ?_
                                                    refine j_sipush dX9_can_247 (by decide) ?_
                                                    refine j_iload 9 dX9_can_250 rfl ?_
                                                    refine j_imul dX9_can_252 (by omega) ?_
                                                    refine j_iadd dX9_can_253 (by omega) ?_
                                                    refine j_goto (tgt := 259) dX9_can_254 (by decide) ?_
                                                    exact hJ_107 _ (Or.inr (⟨c236_110, rfl⟩))
                                              · skip
                                                have w1 : jand (jshr v11 v13) 1 = zBit v11 v13 := jbit ⟨by omega, by omega⟩ ⟨by omega, by omega⟩
                                                have w2 : jand (jshr v10 v13) 1 = zBit v10 v13 := jbit ⟨by omega, by omega⟩ ⟨by omega, by omega⟩
                                                have w3 : jand (jshr v9 v13) 1 = zBit v9 v13 := jbit ⟨by omega, by omega⟩ ⟨by omega, by omega⟩
                                                have w4 := zBit_in v11 v13
                                                have w5 := zBit_in v10 v13
                                                have w6 := zBit_in v9 v13
                                                refine j_iload 11 dX9_can_178 rfl ?_
                                                refine j_iload 13 dX9_can_180 rfl ?_
                                                refine j_ishr dX9_can_182 ?_
                                                refine j_iconst dX9_can_183 (by decide) ?_
                                                refine j_iand dX9_can_184 ?_
                                                refine j_iload 10 dX9_can_185 rfl ?_
                                                refine j_iload 13 dX9_can_187 rfl ?_
                                                refine j_ishr dX9_can_189 ?_
                                                refine j_iconst dX9_can_190 (by decide) ?_
                                                refine j_iand dX9_can_191 ?_
                                                refine j_iadd dX9_can_192 (by omega) ?_
                                                refine j_iload 9 dX9_can_193 rfl ?_
                                                refine j_iload 13 dX9_can_195 rfl ?_
                                                refine j_ishr dX9_can_197 ?_
                                                refine j_iconst dX9_can_198 (by decide) ?_
                                                refine j_iand dX9_can_199 ?_
                                                refine j_iadd dX9_can_200 (by omega) ?_
                                                refine j_aload_n 0 dX9_can_201 rfl rfl ?_
                                                refine j_getr f_X9_80 r_74_37 dX9_can_202 ?_
                                                refine j_iload 13 dX9_can_205 rfl ?_
                                                refine j_iald a_98 dX9_can_207 (by omega) (by omega) ?_
                                                refine j_eq (congrFun ((congrFun eM_1 98).trans (jup_cell (by decide))) v13) ?_
                                                have g_111 := h_rneeds v13
                                                have hJ_112 : ∀ zz : Int, ((((jand (jshr v11 v13) 1) + (jand (jshr v10 v13) 1)) + (jand (jshr v9 v13) 1)) < (M 98 v13) ∧ zz = 0) ∨ (¬ ((((jand (jshr v11 v13) 1) + (jand (jshr v10 v13) 1)) + (jand (jshr v9 v13) 1)) < (M 98 v13)) ∧ zz = 1) → jG D_X9_can X FJ shJ 0 0 (jqI (q_X9_can M p n most q w)) 216 [(0, jR 74), (1, jI p), (2, jI n), (3, jI most), (4, jI q), (5, jI w), (6, jI v6), (7, jI v7), (8, jI v8_22), (9, jI v9), (10, jI v10), (11, jI v11), (12, jI v12), (13, jI v13)] (jI zz :: []) M_1 := by
                                                  intro t_113 et_113
                                                  refine j_istore (ls' := [(0, jR 74), (1, jI p), (2, jI n), (3, jI most), (4, jI q), (5, jI w), (6, jI v6), (7, jI v7), (8, jI v8_22), (9, jI v9), (10, jI v10), (11, jI v11), (12, jI t_113), (13, jI v13)]) dX9_can_216 (by decide) rfl ?_
                                                  obtain ⟨v13_114, ev13_114⟩ : ∃ y : Int, y = v13 + 1 := ⟨_, rfl⟩
                                                  refine j_iinc (y := v13_114) (ls' := [(0, jR 74), (1, jI p), (2, jI n), (3, jI most), (4, jI q), (5, jI w), (6, jI v6), (7, jI v7), (8, jI v8_22), (9, jI v9), (10, jI v10), (11, jI v11), (12, jI t_113), (13, jI v13_114)]) 13 dX9_can_218 rfl ev13_114 (by omega) (by decide) rfl ?_
                                                  refine j_goto (tgt := 167) dX9_can_221 (by decide) ?_
                                                  exact ih167 t_113 v13_114 ⟨by omega, by rcases x2 with ⟨z1, z2, z3, z4, z5⟩ | z; (· rw [ev13_114, toNat_s x1.1]; rcases et_113 with ⟨y1, y2⟩ | ⟨y1, y2⟩; (· right; refine ⟨y2, fun z => ?_⟩; have z6 := zNd_mono (n := v13.toNat + 1) p.toNat (by omega) (zT_iff.1 z).2.2.2; unfold zNd at z6; rw [Bool.and_eq_true, decide_eq_true_iff, toNat_c x1.1] at z6; omega); (· left; refine ⟨y2, z2, z3, z4, ?_⟩; unfold zNd; rw [Bool.and_eq_true, decide_eq_true_iff, toNat_c x1.1]; exact ⟨z5, by omega⟩)); (· omega)⟩ (by omega)
                                                refine j_icmp_lt (tgt := 215) dX9_can_208 (by decide) (fun c208_115 => ?_) (fun c208_115 => ?_)
                                                · skip
                                                  refine j_iconst dX9_can_215 (by decide) ?_
                                                  exact hJ_112 _ (Or.inl ⟨c208_115, rfl⟩)
                                                · skip
                                                  refine j_iconst dX9_can_211 (by decide) ?_
                                                  refine j_goto (tgt := 216) dX9_can_212 (by decide) ?_
                                                  exact hJ_112 _ (Or.inr (⟨c208_115, rfl⟩))
                                        exact lp167_94 _ 0 0 ⟨by omega, by first | exact Or.inl ⟨rfl, by unfold zOk; omega, by unfold zOk; omega, by unfold zOk; omega, rfl⟩ | exact Or.inr ⟨rfl, fun z => by (have z1 := (zT_iff.1 z).1; have z2 := (zT_iff.1 z).2.1; have z3 := (zT_iff.1 z).2.2.1; unfold zOk at z1 z2 z3; omega)⟩⟩ (Nat.lt_succ_self _)
                                      · skip
                                        refine j_iconst dX9_can_157 (by decide) ?_
                                        refine j_goto (tgt := 162) dX9_can_158 (by decide) ?_
                                        refine j_istore (ls' := [(0, jR 74), (1, jI p), (2, jI n), (3, jI most), (4, jI q), (5, jI w), (6, jI v6), (7, jI v7), (8, jI v8_22), (9, jI v9), (10, jI v10), (11, jI v11), (12, jI 1)]) dX9_can_162 (by decide) rfl ?_
                                        refine j_iconst dX9_can_164 (by decide) ?_
                                        refine j_istore (ls' := [(0, jR 74), (1, jI p), (2, jI n), (3, jI most), (4, jI q), (5, jI w), (6, jI v6), (7, jI v7), (8, jI v8_22), (9, jI v9), (10, jI v10), (11, jI v11), (12, jI 1), (13, jI 0)]) dX9_can_165 (by decide) rfl ?_
                                        have lp167_116 : ∀ n167 : Nat, ∀ (v12 v13 : Int), (0 ≤ v13 ∧ v13 ≤ p) ∧ ((v12 = 1 ∧ zOk (M 97) p most q v11 ∧ zOk (M 97) p most q v10 ∧ zOk (M 97) p most q v9 ∧ zNd (M 98) v11 v10 v9 v13.toNat = true) ∨ (v12 = 0 ∧ ¬ zT (M 97) (M 98) p most q v11 v10 v9 = true)) → (p - v13).toNat < n167 → jG D_X9_can X FJ shJ 0 0 (jqI (q_X9_can M p n most q w)) 167 [(0, jR 74), (1, jI p), (2, jI n), (3, jI most), (4, jI q), (5, jI w), (6, jI v6), (7, jI v7), (8, jI v8_22), (9, jI v9), (10, jI v10), (11, jI v11), (12, jI v12), (13, jI v13)] ([]) M_1 := by
                                          intro n167
                                          induction n167 with
                                          | zero => intro v12 v13  _ hz; exact absurd hz (Nat.not_lt_zero _)
                                          | succ n167 ih167 =>
                                            intro v12 v13  hinv hm
                                            obtain ⟨x1, x2⟩ := hinv
                                            refine j_iload 13 dX9_can_167 rfl ?_
                                            refine j_iload_n 1 dX9_can_169 rfl rfl ?_
                                            refine j_icmp_ge (tgt := 224) dX9_can_170 (by decide) (fun c170_117 => ?_) (fun c170_117 => ?_)
                                            · skip
                                              refine j_iload 12 dX9_can_224 rfl ?_
                                              refine j_if_eq (tgt := 261) dX9_can_226 (by decide) (fun c226_118 => ?_) (fun c226_118 => ?_)
                                              · skip
                                                have hT : ¬ zT (M 97) (M 98) p most q v11 v10 v9 = true := by rcases x2 with z | z; (· omega); (· exact z.2)
                                                obtain ⟨v11_119, ev11_119⟩ : ∃ y : Int, y = v11 + 1 := ⟨_, rfl⟩
                                                refine j_iinc (y := v11_119) (ls' := [(0, jR 74), (1, jI p), (2, jI n), (3, jI most), (4, jI q), (5, jI w), (6, jI v6), (7, jI v7), (8, jI v8_22), (9, jI v9), (10, jI v10), (11, jI v11_119), (12, jI v12), (13, jI v13)]) 11 dX9_can_261 rfl ev11_119 (by omega) (by decide) rfl ?_
                                                refine j_goto (tgt := 111) dX9_can_264 (by decide) ?_
                                                refine j_sub (ls' := [(0, jR 74), (1, jI p), (2, jI n), (3, jI most), (4, jI q), (5, jI w), (6, jI v6), (7, jI v7), (8, jI v8_22), (9, jI v9), (10, jI v10), (11, jI v11_119)]) [0, 1, 2, 3, 4, 5, 6, 7, 8, 9, 10, 11] rfl ?_
                                                exact ih111 v6 v7 v11_119 ⟨by omega, by have y : zP (fun a => zI (zT (M 97) (M 98) p most q a v10 v9)) (v11 + 1).toNat = zP (fun a => zI (zT (M 97) (M 98) p most q a v10 v9)) v11.toNat + zI (zT (M 97) (M 98) p most q v11 v10 v9) := zP_s h11.1; rw [ev11_119, y]; first | (rw [show zI (zT (M 97) (M 98) p most q v11 v10 v9) = 1 from if_pos hT]; omega) | (rw [show zI (zT (M 97) (M 98) p most q v11 v10 v9) = 0 from if_neg hT]; omega), by omega, by rw [ev11_119]; exact zLst_step (by omega) (by omega) ⟨h11.1, by omega⟩ ⟨h10.1, by omega⟩ ⟨h9.1, by omega⟩ hf3 (by first | (left; exact ⟨hT, by omega⟩) | (right; exact ⟨hT, rfl⟩)), by omega⟩ (by omega)
                                              · skip
                                                have hT : zT (M 97) (M 98) p most q v11 v10 v9 = true := by rcases x2 with z | z; (· have e13 : v13 = p := (by omega); rw [e13] at z; exact zT_iff.2 z.2); (· omega)
                                                obtain ⟨v6_120, ev6_120⟩ : ∃ y : Int, y = v6 + 1 := ⟨_, rfl⟩
                                                refine j_iinc (y := v6_120) (ls' := [(0, jR 74), (1, jI p), (2, jI n), (3, jI most), (4, jI q), (5, jI w), (6, jI v6_120), (7, jI v7), (8, jI v8_22), (9, jI v9), (10, jI v10), (11, jI v11), (12, jI v12), (13, jI v13)]) 6 dX9_can_229 rfl ev6_120 (by omega) (by decide) rfl ?_
                                                refine j_iload 7 dX9_can_232 rfl ?_
                                                refine j_bipush dX9_can_234 (by decide) ?_
                                                have hJ_121 : ∀ zz : Int, (¬ v7 = (-9) ∧ zz = v7) ∨ (v7 = (-9) ∧ zz = ((v11 + (64 * v10)) + (4096 * v9))) → jG D_X9_can X FJ shJ 0 0 (jqI (q_X9_can M p n most q w)) 259 [(0, jR 74), (1, jI p), (2, jI n), (3, jI most), (4, jI q), (5, jI w), (6, jI v6_120), (7, jI v7), (8, jI v8_22), (9, jI v9), (10, jI v10), (11, jI v11), (12, jI v12), (13, jI v13)] (jI zz :: []) M_1 := by
                                                  intro t_122 et_122
                                                  refine j_istore (ls' := [(0, jR 74), (1, jI p), (2, jI n), (3, jI most), (4, jI q), (5, jI w), (6, jI v6_120), (7, jI t_122), (8, jI v8_22), (9, jI v9), (10, jI v10), (11, jI v11), (12, jI v12), (13, jI v13)]) dX9_can_259 (by decide) rfl ?_
                                                  obtain ⟨v11_123, ev11_123⟩ : ∃ y : Int, y = v11 + 1 := ⟨_, rfl⟩
                                                  refine j_iinc (y := v11_123) (ls' := [(0, jR 74), (1, jI p), (2, jI n), (3, jI most), (4, jI q), (5, jI w), (6, jI v6_120), (7, jI t_122), (8, jI v8_22), (9, jI v9), (10, jI v10), (11, jI v11_123), (12, jI v12), (13, jI v13)]) 11 dX9_can_261 rfl ev11_123 (by omega) (by decide) rfl ?_
                                                  refine j_goto (tgt := 111) dX9_can_264 (by decide) ?_
                                                  refine j_sub (ls' := [(0, jR 74), (1, jI p), (2, jI n), (3, jI most), (4, jI q), (5, jI w), (6, jI v6_120), (7, jI t_122), (8, jI v8_22), (9, jI v9), (10, jI v10), (11, jI v11_123)]) [0, 1, 2, 3, 4, 5, 6, 7, 8, 9, 10, 11] rfl ?_
                                                  exact ih111 v6_120 t_122 v11_123 ⟨by omega, by have y : zP (fun a => zI (zT (M 97) (M 98) p most q a v10 v9)) (v11 + 1).toNat = zP (fun a => zI (zT (M 97) (M 98) p most q a v10 v9)) v11.toNat + zI (zT (M 97) (M 98) p most q v11 v10 v9) := zP_s h11.1; rw [ev11_123, y]; first | (rw [show zI (zT (M 97) (M 98) p most q v11 v10 v9) = 1 from if_pos hT]; omega) | (rw [show zI (zT (M 97) (M 98) p most q v11 v10 v9) = 0 from if_neg hT]; omega), by omega, by rw [ev11_123]; exact zLst_step (by omega) (by omega) ⟨h11.1, by omega⟩ ⟨h10.1, by omega⟩ ⟨h9.1, by omega⟩ hf3 (by first | (left; exact ⟨hT, by omega⟩) | (right; exact ⟨hT, rfl⟩)), by omega⟩ (by omega)
                                                refine j_icmp_ne (tgt := 257) dX9_can_236 (by decide) (fun c236_124 => ?_) (fun c236_124 => ?_)
                                                · skip
                                                  refine j_iload 7 dX9_can_257 rfl ?_
                                                  exact hJ_121 _ (Or.inl ⟨c236_124, rfl⟩)
                                                · skip
                                                  refine j_iload 11 dX9_can_239 rfl ?_
                                                  refine j_bipush dX9_can_241 (by decide) ?_
                                                  refine j_iload 10 dX9_can_243 rfl ?_
                                                  refine j_imul dX9_can_245 (by omega) ?_
                                                  refine j_iadd dX9_can_246 (by omega) ?_
                                                  refine j_sipush dX9_can_247 (by decide) ?_
                                                  refine j_iload 9 dX9_can_250 rfl ?_
                                                  refine j_imul dX9_can_252 (by omega) ?_
                                                  refine j_iadd dX9_can_253 (by omega) ?_
                                                  refine j_goto (tgt := 259) dX9_can_254 (by decide) ?_
                                                  exact hJ_121 _ (Or.inr (⟨c236_124, rfl⟩))
                                            · skip
                                              refine j_iload 12 dX9_can_173 rfl ?_
                                              refine j_if_eq (tgt := 224) dX9_can_175 (by decide) (fun c175_125 => ?_) (fun c175_125 => ?_)
                                              · skip
                                                refine j_iload 12 dX9_can_224 rfl ?_
                                                refine j_if_eq (tgt := 261) dX9_can_226 (by decide) (fun c226_126 => ?_) (fun c226_126 => ?_)
                                                · skip
                                                  have hT : ¬ zT (M 97) (M 98) p most q v11 v10 v9 = true := by rcases x2 with z | z; (· omega); (· exact z.2)
                                                  obtain ⟨v11_127, ev11_127⟩ : ∃ y : Int, y = v11 + 1 := ⟨_, rfl⟩
                                                  refine j_iinc (y := v11_127) (ls' := [(0, jR 74), (1, jI p), (2, jI n), (3, jI most), (4, jI q), (5, jI w), (6, jI v6), (7, jI v7), (8, jI v8_22), (9, jI v9), (10, jI v10), (11, jI v11_127), (12, jI v12), (13, jI v13)]) 11 dX9_can_261 rfl ev11_127 (by omega) (by decide) rfl ?_
                                                  refine j_goto (tgt := 111) dX9_can_264 (by decide) ?_
                                                  refine j_sub (ls' := [(0, jR 74), (1, jI p), (2, jI n), (3, jI most), (4, jI q), (5, jI w), (6, jI v6), (7, jI v7), (8, jI v8_22), (9, jI v9), (10, jI v10), (11, jI v11_127)]) [0, 1, 2, 3, 4, 5, 6, 7, 8, 9, 10, 11] rfl ?_
                                                  exact ih111 v6 v7 v11_127 ⟨by omega, by have y : zP (fun a => zI (zT (M 97) (M 98) p most q a v10 v9)) (v11 + 1).toNat = zP (fun a => zI (zT (M 97) (M 98) p most q a v10 v9)) v11.toNat + zI (zT (M 97) (M 98) p most q v11 v10 v9) := zP_s h11.1; rw [ev11_127, y]; first | (rw [show zI (zT (M 97) (M 98) p most q v11 v10 v9) = 1 from if_pos hT]; omega) | (rw [show zI (zT (M 97) (M 98) p most q v11 v10 v9) = 0 from if_neg hT]; omega), by omega, by rw [ev11_127]; exact zLst_step (by omega) (by omega) ⟨h11.1, by omega⟩ ⟨h10.1, by omega⟩ ⟨h9.1, by omega⟩ hf3 (by first | (left; exact ⟨hT, by omega⟩) | (right; exact ⟨hT, rfl⟩)), by omega⟩ (by omega)
                                                · skip
                                                  have hT : zT (M 97) (M 98) p most q v11 v10 v9 = true := by rcases x2 with z | z; (· have e13 : v13 = p := (by omega); rw [e13] at z; exact zT_iff.2 z.2); (· omega)
                                                  obtain ⟨v6_128, ev6_128⟩ : ∃ y : Int, y = v6 + 1 := ⟨_, rfl⟩
                                                  refine j_iinc (y := v6_128) (ls' := [(0, jR 74), (1, jI p), (2, jI n), (3, jI most), (4, jI q), (5, jI w), (6, jI v6_128), (7, jI v7), (8, jI v8_22), (9, jI v9), (10, jI v10), (11, jI v11), (12, jI v12), (13, jI v13)]) 6 dX9_can_229 rfl ev6_128 (by omega) (by decide) rfl ?_
                                                  refine j_iload 7 dX9_can_232 rfl ?_
                                                  refine j_bipush dX9_can_234 (by decide) ?_
                                                  have hJ_129 : ∀ zz : Int, (¬ v7 = (-9) ∧ zz = v7) ∨ (v7 = (-9) ∧ zz = ((v11 + (64 * v10)) + (4096 * v9))) → jG D_X9_can X FJ shJ 0 0 (jqI (q_X9_can M p n most q w)) 259 [(0, jR 74), (1, jI p), (2, jI n), (3, jI most), (4, jI q), (5, jI w), (6, jI v6_128), (7, jI v7), (8, jI v8_22), (9, jI v9), (10, jI v10), (11, jI v11), (12, jI v12), (13, jI v13)] (jI zz :: []) M_1 := by
                                                    intro t_130 et_130
                                                    refine j_istore (ls' := [(0, jR 74), (1, jI p), (2, jI n), (3, jI most), (4, jI q), (5, jI w), (6, jI v6_128), (7, jI t_130), (8, jI v8_22), (9, jI v9), (10, jI v10), (11, jI v11), (12, jI v12), (13, jI v13)]) dX9_can_259 (by decide) rfl ?_
                                                    obtain ⟨v11_131, ev11_131⟩ : ∃ y : Int, y = v11 + 1 := ⟨_, rfl⟩
                                                    refine j_iinc (y := v11_131) (ls' := [(0, jR 74), (1, jI p), (2, jI n), (3, jI most), (4, jI q), (5, jI w), (6, jI v6_128), (7, jI t_130), (8, jI v8_22), (9, jI v9), (10, jI v10), (11, jI v11_131), (12, jI v12), (13, jI v13)]) 11 dX9_can_261 rfl ev11_131 (by omega) (by decide) rfl ?_
                                                    refine j_goto (tgt := 111) dX9_can_264 (by decide) ?_
                                                    refine j_sub (ls' := [(0, jR 74), (1, jI p), (2, jI n), (3, jI most), (4, jI q), (5, jI w), (6, jI v6_128), (7, jI t_130), (8, jI v8_22), (9, jI v9), (10, jI v10), (11, jI v11_131)]) [0, 1, 2, 3, 4, 5, 6, 7, 8, 9, 10, 11] rfl ?_
                                                    exact ih111 v6_128 t_130 v11_131 ⟨by omega, by have y : zP (fun a => zI (zT (M 97) (M 98) p most q a v10 v9)) (v11 + 1).toNat = zP (fun a => zI (zT (M 97) (M 98) p most q a v10 v9)) v11.toNat + zI (zT (M 97) (M 98) p most q v11 v10 v9) := zP_s h11.1; rw [ev11_131, y]; first | (rw [show zI (zT (M 97) (M 98) p most q v11 v10 v9) = 1 from if_pos hT]; omega) | (rw [show zI (zT (M 97) (M 98) p most q v11 v10 v9) = 0 from if_neg hT]; omega), by omega, by rw [ev11_131]; exact zLst_step (by omega) (by omega) ⟨h11.1, by omega⟩ ⟨h10.1, by omega⟩ ⟨h9.1, by omega⟩ hf3 (by first | (left; exact ⟨hT, by omega⟩) | (right; exact ⟨hT, rfl⟩)), by omega⟩ (by omega)
                                                  refine j_icmp_ne (tgt := 257) dX9_can_236 (by decide) (fun c236_132 => ?_) (fun c236_132 => ?_)
                                                  · skip
                                                    refine j_iload 7 dX9_can_257 rfl ?_
                                                    exact hJ_129 _ (Or.inl ⟨c236_132, rfl⟩)
                                                  · skip
                                                    refine j_iload 11 dX9_can_239 rfl ?_
                                                    refine j_bipush dX9_can_241 (by decide) ?_
                                                    refine j_iload 10 dX9_can_243 rfl ?_
                                                    refine j_imul dX9_can_245 (by omega) ?_
                                                    refine j_iadd dX9_can_246 (by omega) ?_
                                                    refine j_sipush dX9_can_247 (by decide) ?_
                                                    refine j_iload 9 dX9_can_250 rfl ?_
                                                    refine j_imul dX9_can_252 (by omega) ?_
                                                    refine j_iadd dX9_can_253 (by omega) ?_
                                                    refine j_goto (tgt := 259) dX9_can_254 (by decide) ?_
                                                    exact hJ_129 _ (Or.inr (⟨c236_132, rfl⟩))
                                              · skip
                                                have w1 : jand (jshr v11 v13) 1 = zBit v11 v13 := jbit ⟨by omega, by omega⟩ ⟨by omega, by omega⟩
                                                have w2 : jand (jshr v10 v13) 1 = zBit v10 v13 := jbit ⟨by omega, by omega⟩ ⟨by omega, by omega⟩
                                                have w3 : jand (jshr v9 v13) 1 = zBit v9 v13 := jbit ⟨by omega, by omega⟩ ⟨by omega, by omega⟩
                                                have w4 := zBit_in v11 v13
                                                have w5 := zBit_in v10 v13
                                                have w6 := zBit_in v9 v13
                                                refine j_iload 11 dX9_can_178 rfl ?_
                                                refine j_iload 13 dX9_can_180 rfl ?_
                                                refine j_ishr dX9_can_182 ?_
                                                refine j_iconst dX9_can_183 (by decide) ?_
                                                refine j_iand dX9_can_184 ?_
                                                refine j_iload 10 dX9_can_185 rfl ?_
                                                refine j_iload 13 dX9_can_187 rfl ?_
                                                refine j_ishr dX9_can_189 ?_
                                                refine j_iconst dX9_can_190 (by decide) ?_
                                                refine j_iand dX9_can_191 ?_
                                                refine j_iadd dX9_can_192 (by omega) ?_
                                                refine j_iload 9 dX9_can_193 rfl ?_
                                                refine j_iload 13 dX9_can_195 rfl ?_
                                                refine j_ishr dX9_can_197 ?_
                                                refine j_iconst dX9_can_198 (by decide) ?_
                                                refine j_iand dX9_can_199 ?_
                                                refine j_iadd dX9_can_200 (by omega) ?_
                                                refine j_aload_n 0 dX9_can_201 rfl rfl ?_
                                                refine j_getr f_X9_80 r_74_37 dX9_can_202 ?_
                                                refine j_iload 13 dX9_can_205 rfl ?_
                                                refine j_iald a_98 dX9_can_207 (by omega) (by omega) ?_
                                                refine j_eq (congrFun ((congrFun eM_1 98).trans (jup_cell (by decide))) v13) ?_
                                                have g_133 := h_rneeds v13
                                                have hJ_134 : ∀ zz : Int, ((((jand (jshr v11 v13) 1) + (jand (jshr v10 v13) 1)) + (jand (jshr v9 v13) 1)) < (M 98 v13) ∧ zz = 0) ∨ (¬ ((((jand (jshr v11 v13) 1) + (jand (jshr v10 v13) 1)) + (jand (jshr v9 v13) 1)) < (M 98 v13)) ∧ zz = 1) → jG D_X9_can X FJ shJ 0 0 (jqI (q_X9_can M p n most q w)) 216 [(0, jR 74), (1, jI p), (2, jI n), (3, jI most), (4, jI q), (5, jI w), (6, jI v6), (7, jI v7), (8, jI v8_22), (9, jI v9), (10, jI v10), (11, jI v11), (12, jI v12), (13, jI v13)] (jI zz :: []) M_1 := by
                                                  intro t_135 et_135
                                                  refine j_istore (ls' := [(0, jR 74), (1, jI p), (2, jI n), (3, jI most), (4, jI q), (5, jI w), (6, jI v6), (7, jI v7), (8, jI v8_22), (9, jI v9), (10, jI v10), (11, jI v11), (12, jI t_135), (13, jI v13)]) dX9_can_216 (by decide) rfl ?_
                                                  obtain ⟨v13_136, ev13_136⟩ : ∃ y : Int, y = v13 + 1 := ⟨_, rfl⟩
                                                  refine j_iinc (y := v13_136) (ls' := [(0, jR 74), (1, jI p), (2, jI n), (3, jI most), (4, jI q), (5, jI w), (6, jI v6), (7, jI v7), (8, jI v8_22), (9, jI v9), (10, jI v10), (11, jI v11), (12, jI t_135), (13, jI v13_136)]) 13 dX9_can_218 rfl ev13_136 (by omega) (by decide) rfl ?_
                                                  refine j_goto (tgt := 167) dX9_can_221 (by decide) ?_
                                                  exact ih167 t_135 v13_136 ⟨by omega, by rcases x2 with ⟨z1, z2, z3, z4, z5⟩ | z; (· rw [ev13_136, toNat_s x1.1]; rcases et_135 with ⟨y1, y2⟩ | ⟨y1, y2⟩; (· right; refine ⟨y2, fun z => ?_⟩; have z6 := zNd_mono (n := v13.toNat + 1) p.toNat (by omega) (zT_iff.1 z).2.2.2; unfold zNd at z6; rw [Bool.and_eq_true, decide_eq_true_iff, toNat_c x1.1] at z6; omega); (· left; refine ⟨y2, z2, z3, z4, ?_⟩; unfold zNd; rw [Bool.and_eq_true, decide_eq_true_iff, toNat_c x1.1]; exact ⟨z5, by omega⟩)); (· omega)⟩ (by omega)
                                                refine j_icmp_lt (tgt := 215) dX9_can_208 (by decide) (fun c208_137 => ?_) (fun c208_137 => ?_)
                                                · skip
                                                  refine j_iconst dX9_can_215 (by decide) ?_
                                                  exact hJ_134 _ (Or.inl ⟨c208_137, rfl⟩)
                                                · skip
                                                  refine j_iconst dX9_can_211 (by decide) ?_
                                                  refine j_goto (tgt := 216) dX9_can_212 (by decide) ?_
                                                  exact hJ_134 _ (Or.inr (⟨c208_137, rfl⟩))
                                        exact lp167_116 _ 1 0 ⟨by omega, by first | exact Or.inl ⟨rfl, by unfold zOk; omega, by unfold zOk; omega, by unfold zOk; omega, rfl⟩ | exact Or.inr ⟨rfl, fun z => by (have z1 := (zT_iff.1 z).1; have z2 := (zT_iff.1 z).2.1; have z3 := (zT_iff.1 z).2.2.1; unfold zOk at z1 z2 z3; omega)⟩⟩ (Nat.lt_succ_self _)
                            exact lp111_35 _ v6 v7 0 ⟨by omega, by rw [hm2]; show _ = _ + _ + 0; omega, by omega, by exact zLst_to (by omega) (fun a b c a0 a1 b0 b1 c0 c1 z => by omega) hf2, by omega⟩ (Nat.lt_succ_self _)
                        refine j_icmp_le (tgt := 104) dX9_can_96 (by decide) (fun c96_138 => ?_) (fun c96_138 => ?_)
                        · skip
                          refine j_iconst dX9_can_104 (by decide) ?_
                          exact hJ_31 _ (Or.inl ⟨c96_138, rfl⟩)
                        · skip
                          refine j_iload 8 dX9_can_99 rfl ?_
                          refine j_goto (tgt := 105) dX9_can_101 (by decide) ?_
                          exact hJ_31 _ (Or.inr (⟨c96_138, rfl⟩))
                    exact lp92_30 _ v6 v7 0 ⟨by omega, by rw [hm1]; show _ = _ + 0; omega, by omega, by exact zLst_to (by omega) (fun a b c a0 a1 b0 b1 c0 c1 z => by omega) hf, by omega⟩ (Nat.lt_succ_self _)
                refine j_icmp_le (tgt := 85) dX9_can_77 (by decide) (fun c77_139 => ?_) (fun c77_139 => ?_)
                · skip
                  refine j_iconst dX9_can_85 (by decide) ?_
                  exact hJ_24 _ (Or.inl ⟨c77_139, rfl⟩)
                · skip
                  refine j_iload 8 dX9_can_80 rfl ?_
                  refine j_goto (tgt := 86) dX9_can_82 (by decide) ?_
                  exact hJ_24 _ (Or.inr (⟨c77_139, rfl⟩))
            exact lp73_23 _ 0 (-9) 0 ⟨by omega, by rfl, by omega, by exact Or.inl ⟨rfl, fun a b c a0 a1 b0 b1 c0 c1 _ => by omega⟩, by omega⟩ (Nat.lt_succ_self _)
          · skip
            refine j_iconst dX9_can_56 (by decide) ?_
            refine j_iret rfl rfl rfl rfl dX9_can_57 ?_
            exact ⟨Or.inl ⟨by omega, rfl⟩, eM_1⟩
