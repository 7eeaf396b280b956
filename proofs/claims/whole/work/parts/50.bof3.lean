abbrev q_X9_bindsOf (M : jM)  (i h m d : Int) : Int → jM → Prop := fun r N => r = rB M i h m d ∧ ∀ c, c ≠ 87 → c ≠ 88 → N c = M c
set_option maxHeartbeats 4000000 in
set_option maxRecDepth 20000 in
theorem c_X9_bindsOf {X : jX} (M : jM)  (i h m d : Int) (h_rkind : ∀ i, 0 ≤ M 80 i ∧ M 80 i ≤ 5) (h_rtrade : ∀ i, 0 ≤ M 76 i ∧ M 76 i ≤ 3) (h_rpapers : ∀ i, 0 ≤ M 82 i ∧ M 82 i ≤ 3) (h_rpaper : pOk (M 83)) (hi : 0 ≤ i ∧ i < 16) (h0 : 0 ≤ h ∧ h < 24) (hm0 : 0 ≤ m ∧ m < 6) (hd0 : 0 ≤ d ∧ d ≤ 359) (hG : gAll M i (M 85 (20 * i + 4))) : jC yX9_bindsOf D_X9_bindsOf X FJ shJ [jR 74, jI i, jI h, jI m, jI d] M (jqI (q_X9_bindsOf M i h m d)) := by
  refine jC_of (by decide) rfl (fun ad => Nat.le_of_ble_eq_true rfl) (by decide) ?_
  show jG D_X9_bindsOf X FJ shJ 0 0 (jqI (q_X9_bindsOf M i h m d)) 0 [(0, jR 74), (1, jI i), (2, jI h), (3, jI m), (4, jI d)] [] M
  have hE : ∀ c n, 0 ≤ (eTest (fAge (M 83) (M 82) h d 0) (fAge (M 83) (M 82) h d 1) (M 80 h) (M 76 m) (M 82 h) m) c n ∧ (eTest (fAge (M 83) (M 82) h d 0) (fAge (M 83) (M 82) h d 1) (M 80 h) (M 76 m) (M 82 h) m) c n ≤ 2 := fun c n => eTest_in _ _ _ _ _ _ c n
  have hG1 := hG.1
  have hG2 := hG.2.1
  refine j_bipush dX9_bindsOf_0 (by decide) ?_
  refine j_iload_n 1 dX9_bindsOf_2 rfl rfl ?_
  refine j_imul dX9_bindsOf_3 (by omega) ?_
  refine j_nm (fun v5_1 ev5_1 => ?_)
  refine j_istore (ls' := [(0, jR 74), (1, jI i), (2, jI h), (3, jI m), (4, jI d), (5, jI v5_1)]) dX9_bindsOf_4 (by decide) rfl ?_
  have r1 : M 85 (v5_1 + 1) = M 85 (20 * i + 1) := by rw [ev5_1]
  have r2 : M 85 (v5_1 + 2) = M 85 (20 * i + 2) := by rw [ev5_1]
  have r3 : M 85 (v5_1 + 3) = M 85 (20 * i + 3) := by rw [ev5_1]
  have r4 : M 85 (v5_1 + 4) = M 85 (20 * i + 4) := by rw [ev5_1]
  have r13 : M 85 (v5_1 + 13) = M 85 (20 * i + 13) := by rw [ev5_1]
  refine j_iload 4 dX9_bindsOf_6 rfl ?_
  refine j_aload_n 0 dX9_bindsOf_8 rfl rfl ?_
  refine j_getr f_X9_41 r_74_22 dX9_bindsOf_9 ?_
  refine j_iload 5 dX9_bindsOf_12 rfl ?_
  refine j_iconst dX9_bindsOf_14 (by decide) ?_
  refine j_iadd dX9_bindsOf_15 (by omega) ?_
  refine j_iald a_85 dX9_bindsOf_16 (by omega) (by omega) ?_
  refine j_aload_n 0 dX9_bindsOf_17 rfl rfl ?_
  refine j_getr f_X9_41 r_74_22 dX9_bindsOf_18 ?_
  refine j_iload 5 dX9_bindsOf_21 rfl ?_
  refine j_iconst dX9_bindsOf_23 (by decide) ?_
  refine j_iadd dX9_bindsOf_24 (by omega) ?_
  refine j_iald a_85 dX9_bindsOf_25 (by omega) (by omega) ?_
  refine j_callSi l_X9_137 ⟨Nat.le_of_ble_eq_true rfl, Nat.le_of_ble_eq_true rfl⟩ ⟨rfl, rfl⟩ dX9_bindsOf_26 (c_X9_in M d ((M 85 (v5_1 + 1))) ((M 85 (v5_1 + 2)))) rfl rfl (Nat.le_of_ble_eq_true rfl) (fun r_2 M_3 h_4 => ?_)
  obtain ⟨er_2, nh_4⟩ := h_4
  refine j_eqM nh_4 ?_
  clear nh_4
  refine j_if_eq (tgt := 60) dX9_bindsOf_29 (by decide) (fun c29_5 => ?_) (fun c29_5 => ?_)
  · skip
    refine j_iconst dX9_bindsOf_60 (by decide) ?_
    refine j_iret rfl rfl rfl rfl dX9_bindsOf_61 ?_
    exact ⟨by unfold rB; rw [if_pos (by omega)], fun c _ _ => rfl⟩
  · skip
    refine j_aload_n 0 dX9_bindsOf_32 rfl rfl ?_
    refine j_getr f_X9_41 r_74_22 dX9_bindsOf_33 ?_
    refine j_iload 5 dX9_bindsOf_36 rfl ?_
    refine j_iconst dX9_bindsOf_38 (by decide) ?_
    refine j_iadd dX9_bindsOf_39 (by omega) ?_
    refine j_iald a_85 dX9_bindsOf_40 (by omega) (by omega) ?_
    refine j_bipush dX9_bindsOf_41 (by decide) ?_
    refine j_icmp_eq (tgt := 62) dX9_bindsOf_43 (by decide) (fun c43_6 => ?_) (fun c43_6 => ?_)
    · skip
      refine j_iconst dX9_bindsOf_62 (by decide) ?_
      refine j_istore (ls' := [(0, jR 74), (1, jI i), (2, jI h), (3, jI m), (4, jI d), (5, jI v5_1), (6, jI 0)]) dX9_bindsOf_63 (by decide) rfl ?_
      refine j_iconst dX9_bindsOf_65 (by decide) ?_
      refine j_istore (ls' := [(0, jR 74), (1, jI i), (2, jI h), (3, jI m), (4, jI d), (5, jI v5_1), (6, jI 0), (7, jI 0)]) dX9_bindsOf_66 (by decide) rfl ?_
      refine j_iconst dX9_bindsOf_68 (by decide) ?_
      refine j_istore (ls' := [(0, jR 74), (1, jI i), (2, jI h), (3, jI m), (4, jI d), (5, jI v5_1), (6, jI 0), (7, jI 0), (8, jI 0)]) dX9_bindsOf_69 (by decide) rfl ?_
      have lp71_7 : ∀ n71 : Nat, ∀ (v6 v7 v8 : Int), ∀ N71 : jM, (0 ≤ v8 ∧ v8 ≤ M 85 (20 * i + 4)) ∧ (aSt (N71 87) v7 ((cAllT (tPre M i v8.toNat)).1.map sgn)) ∧ (aSt (N71 88) v6 (rpn (eTest (fAge (M 83) (M 82) h d 0) (fAge (M 83) (M 82) h d 1) (M 80 h) (M 76 m) (M 82 h) m) (cAllT (tPre M i v8.toNat)).2)) ∧ (∀ c, c ≠ 87 → c ≠ 88 → N71 c = M c) → (M 85 (20 * i + 4) - v8).toNat < n71 → jG D_X9_bindsOf X FJ shJ 0 0 (jqI (q_X9_bindsOf M i h m d)) 71 [(0, jR 74), (1, jI i), (2, jI h), (3, jI m), (4, jI d), (5, jI v5_1), (6, jI v6), (7, jI v7), (8, jI v8)] ([]) N71 := by
        intro n71
        induction n71 with
        | zero => intro v6 v7 v8 N71 _ hz; exact absurd hz (Nat.not_lt_zero _)
        | succ n71 ih71 =>
          intro v6 v7 v8 N71 hinv hm
          obtain ⟨h8, hS, hV, hk⟩ := hinv
          have l7 := aSt_len _ hS
          rw [List.length_map] at l7
          have l6 := aSt_len _ hV
          have l6b := (rpn_vin hE (cAllT (tPre M i v8.toNat)).2).2
          refine j_iload 8 dX9_bindsOf_71 rfl ?_
          refine j_aload_n 0 dX9_bindsOf_73 rfl rfl ?_
          refine j_getr f_X9_41 r_74_22 dX9_bindsOf_74 ?_
          refine j_iload 5 dX9_bindsOf_77 rfl ?_
          refine j_iconst dX9_bindsOf_79 (by decide) ?_
          refine j_iadd dX9_bindsOf_80 (by omega) ?_
          refine j_iald a_85 dX9_bindsOf_81 (by omega) (by omega) ?_
          refine j_eq (congrFun (hk 85 (by decide) (by decide)) (v5_1 + 4)) ?_
          refine j_icmp_ge (tgt := 413) dX9_bindsOf_82 (by decide) (fun c82_8 => ?_) (fun c82_8 => ?_)
          · skip
            have lp413_9 : ∀ n413 : Nat, ∀ (v6 v7 : Int), ∀ N413 : jM, (¬ M 85 (20 * i + 4) = 0 → bIn (eTest (fAge (M 83) (M 82) h d 0) (fAge (M 83) (M 82) h d 1) (M 80 h) (M 76 m) (M 82 h) m) 1 (cAllT (tPre M i (M 85 (20 * i + 4)).toNat)) (N413 87) (N413 88) v7 v6) ∧ (0 ≤ v7 ∧ v7 ≤ 47 ∧ (M 85 (20 * i + 4) = 0 → v7 = 0)) ∧ (∀ c, c ≠ 87 → c ≠ 88 → N413 c = M c) → v7.toNat < n413 → jG D_X9_bindsOf X FJ shJ 0 0 (jqI (q_X9_bindsOf M i h m d)) 413 [(0, jR 74), (1, jI i), (2, jI h), (3, jI m), (4, jI d), (5, jI v5_1), (6, jI v6), (7, jI v7), (8, jI v8)] ([]) N413 := by
              intro n413
              induction n413 with
              | zero => intro v6 v7 N413 _ hz; exact absurd hz (Nat.not_lt_zero _)
              | succ n413 ih413 =>
                intro v6 v7 N413 hinv hm
                obtain ⟨hb, h7, hk4⟩ := hinv
                refine j_iload 7 dX9_bindsOf_413 rfl ?_
                refine j_if_le (tgt := 462) dX9_bindsOf_415 (by decide) (fun c415_10 => ?_) (fun c415_10 => ?_)
                · skip
                  refine j_aload_n 0 dX9_bindsOf_462 rfl rfl ?_
                  refine j_getr f_X9_41 r_74_22 dX9_bindsOf_463 ?_
                  refine j_iload 5 dX9_bindsOf_466 rfl ?_
                  refine j_iconst dX9_bindsOf_468 (by decide) ?_
                  refine j_iadd dX9_bindsOf_469 (by omega) ?_
                  refine j_iald a_85 dX9_bindsOf_470 (by omega) (by omega) ?_
                  refine j_eq (congrFun (hk4 85 (by decide) (by decide)) (v5_1 + 4)) ?_
                  have hJ_11 : ∀ zz : Int, (¬ (M 85 (v5_1 + 4)) = 0 ∧ zz = (N413 88 0)) ∨ ((M 85 (v5_1 + 4)) = 0 ∧ zz = 2) → jG D_X9_bindsOf X FJ shJ 0 0 (jqI (q_X9_bindsOf M i h m d)) 484 [(0, jR 74), (1, jI i), (2, jI h), (3, jI m), (4, jI d), (5, jI v5_1), (6, jI v6), (7, jI v7), (8, jI v8)] (jI zz :: []) N413 := by
                    intro t_12 et_12
                    refine j_iret rfl rfl rfl rfl dX9_bindsOf_484 ?_
                    have hnp : ¬ (¬ (M 85 (20 * i + 1) ≤ d ∧ d ≤ M 85 (20 * i + 2)) ∨ (¬ M 85 (20 * i + 3) = -9 ∧ M 85 (20 * i + 3) ≤ d)) := by omega
                    refine ⟨?_, hk4⟩
                    unfold rB
                    rw [if_neg hnp]
                    rcases et_12 with ⟨z1, z2⟩ | ⟨z1, z2⟩ <;> first | (exfalso; omega) | (rw [z2, show (M 85 (20 * i + 4)).toNat = 0 by omega]; rfl) | (rw [z2, cOut_eq]; have st := bIn_stop (Or.inl rfl) (hb (by omega)) (Or.inl (by omega)); have bl := (bIn_len hE (hb (by omega))).2.1; exact aSt_bot _ st.2 (by omega))
                  refine j_if_ne (tgt := 478) dX9_bindsOf_471 (by decide) (fun c471_13 => ?_) (fun c471_13 => ?_)
                  · skip
                    refine j_aload_n 0 dX9_bindsOf_478 rfl rfl ?_
                    refine j_getr f_X9_50 r_74_26 dX9_bindsOf_479 ?_
                    refine j_iconst dX9_bindsOf_482 (by decide) ?_
                    refine j_iald a_88 dX9_bindsOf_483 (by omega) (by omega) ?_
                    exact hJ_11 _ (Or.inl ⟨c471_13, rfl⟩)
                  · skip
                    refine j_iconst dX9_bindsOf_474 (by decide) ?_
                    refine j_goto (tgt := 484) dX9_bindsOf_475 (by decide) ?_
                    exact hJ_11 _ (Or.inr (⟨c471_13, rfl⟩))
                · skip
                  have hnz : ¬ M 85 (20 * i + 4) = 0 := by omega
                  have hb1 := hb hnz
                  have te := tok_end (E := (eTest (fAge (M 83) (M 82) h d 0) (fAge (M 83) (M 82) h d 1) (M 80 h) (M 76 m) (M 82 h) m)) hG hnz
                  have hl := bIn_len hE hb1
                  have hl1 := hl.1
                  have hl2 := hl.2.1
                  have hl3 := hl.2.2.1
                  have hl4 := hl.2.2.2
                  have hq := bIn_pop (Or.inl rfl) hb1 (by omega) (Or.inr ⟨rfl, bIn_none hb1 te.2.2.2.2 (by omega)⟩)
                  have hq1 := hq.1
                  obtain ⟨v7_14, ev7_14⟩ : ∃ y : Int, y = v7 + (-1) := ⟨_, rfl⟩
                  refine j_iinc (y := v7_14) (ls' := [(0, jR 74), (1, jI i), (2, jI h), (3, jI m), (4, jI d), (5, jI v5_1), (6, jI v6), (7, jI v7_14), (8, jI v8)]) 7 dX9_bindsOf_418 rfl ev7_14 (by omega) (by decide) rfl ?_
                  obtain ⟨v6_15, ev6_15⟩ : ∃ y : Int, y = v6 + (-1) := ⟨_, rfl⟩
                  refine j_iinc (y := v6_15) (ls' := [(0, jR 74), (1, jI i), (2, jI h), (3, jI m), (4, jI d), (5, jI v5_1), (6, jI v6_15), (7, jI v7_14), (8, jI v8)]) 6 dX9_bindsOf_421 rfl ev6_15 (by omega) (by decide) rfl ?_
                  refine j_aload_n 0 dX9_bindsOf_424 rfl rfl ?_
                  refine j_getr f_X9_50 r_74_26 dX9_bindsOf_425 ?_
                  refine j_iload 6 dX9_bindsOf_428 rfl ?_
                  refine j_iconst dX9_bindsOf_430 (by decide) ?_
                  refine j_isub dX9_bindsOf_431 (by omega) ?_
                  refine j_aload_n 0 dX9_bindsOf_432 rfl rfl ?_
                  refine j_getr f_X9_47 r_74_25 dX9_bindsOf_433 ?_
                  refine j_iload 7 dX9_bindsOf_436 rfl ?_
                  refine j_iald a_87 dX9_bindsOf_438 (by omega) (by omega) ?_
                  refine j_aload_n 0 dX9_bindsOf_439 rfl rfl ?_
                  refine j_getr f_X9_50 r_74_26 dX9_bindsOf_440 ?_
                  refine j_iload 6 dX9_bindsOf_443 rfl ?_
                  refine j_iconst dX9_bindsOf_445 (by decide) ?_
                  refine j_isub dX9_bindsOf_446 (by omega) ?_
                  refine j_iald a_88 dX9_bindsOf_447 (by omega) (by omega) ?_
                  refine j_aload_n 0 dX9_bindsOf_448 rfl rfl ?_
                  refine j_getr f_X9_50 r_74_26 dX9_bindsOf_449 ?_
                  refine j_iload 6 dX9_bindsOf_452 rfl ?_
                  refine j_iald a_88 dX9_bindsOf_454 (by omega) (by omega) ?_
                  refine j_callSi l_X9_255 ⟨Nat.le_of_ble_eq_true rfl, Nat.le_of_ble_eq_true rfl⟩ ⟨rfl, rfl⟩ dX9_bindsOf_455 (c_X9_joins N413 ((N413 87 v7_14)) ((N413 88 (v6_15 - 1))) ((N413 88 v6_15))) rfl rfl (Nat.le_of_ble_eq_true rfl) (fun r_16 M_17 h_18 => ?_)
                  obtain ⟨er_16, nh_18⟩ := h_18
                  refine j_eqM nh_18 ?_
                  clear nh_18
                  refine j_iast a_88 dX9_bindsOf_458 (by omega) (by omega) ?_
                  refine j_nmM (fun M_19 eM_19 => ?_)
                  refine j_goto (tgt := 413) dX9_bindsOf_459 (by decide) ?_
                  exact ih413 v6_15 v7_14 M_19 ⟨by intro _; (have eq7 : v7_14 = v7 - 1 := by omega); (have eq6 : v6_15 = v6 - 1 := by omega); rw [eM_19, jup_cell (show (87 : Int) ≠ 88 by decide), er_16, eq7, eq6]; exact hq.2 _ (by rw [show v6 - 2 = v6 - 1 - 1 by omega, jup_self]) (fun j j0 j1 => by rw [jup_at, if_neg (by omega)]), by omega, by intro c z1 z2; first | rfl | exact hk4 c z1 z2 | (rw [eM_19, jup_cell z1]; exact hk4 c z1 z2) | (rw [eM_19, jup_cell z2]; exact hk4 c z1 z2)⟩ (by omega)
            exact lp413_9 _ v6 v7 N71 ⟨by intro hz; have te := tok_end (E := (eTest (fAge (M 83) (M 82) h d 0) (fAge (M 83) (M 82) h d 1) (M 80 h) (M 76 m) (M 82 h) m)) hG hz; have e8 : v8 = M 85 (20 * i + 4) := (by omega); rw [e8] at hS hV; exact bIn_mk te.1 (fun _ => te.2.2.1) te.2.2.2.1 hS hV, by have e8 : v8 = M 85 (20 * i + 4) := (by omega); rw [e8] at l7; by_cases hz : M 85 (20 * i + 4) = 0; (· rw [show (M 85 (20 * i + 4)).toNat = 0 by omega] at l7; have l7b : v7 = 0 := l7; omega); (· have te := (tok_end (E := (eTest (fAge (M 83) (M 82) h d 0) (fAge (M 83) (M 82) h d 1) (M 80 h) (M 76 m) (M 82 h) m)) hG hz).2.1; omega), by exact hk⟩ (Nat.lt_succ_self _)
          · skip
            refine j_aload_n 0 dX9_bindsOf_85 rfl rfl ?_
            refine j_getr f_X9_44 r_74_23 dX9_bindsOf_86 ?_
            refine j_iconst dX9_bindsOf_89 (by decide) ?_
            refine j_aload_n 0 dX9_bindsOf_90 rfl rfl ?_
            refine j_getr f_X9_41 r_74_22 dX9_bindsOf_91 ?_
            refine j_iload 5 dX9_bindsOf_94 rfl ?_
            refine j_bipush dX9_bindsOf_96 (by decide) ?_
            refine j_iadd dX9_bindsOf_98 (by omega) ?_
            refine j_iald a_85 dX9_bindsOf_99 (by omega) (by omega) ?_
            refine j_eq (congrFun (hk 85 (by decide) (by decide)) (v5_1 + 13)) ?_
            refine j_iload 8 dX9_bindsOf_100 rfl ?_
            refine j_iadd dX9_bindsOf_102 (by omega) ?_
            refine j_imul dX9_bindsOf_103 (by omega) ?_
            refine j_iald a_86 dX9_bindsOf_104 (by omega) (by omega) ?_
            refine j_eq (congrFun (hk 86 (by decide) (by decide)) (2 * ((M 85 (v5_1 + 13)) + v8))) ?_
            refine j_nm (fun v9_20 ev9_20 => ?_)
            refine j_istore (ls' := [(0, jR 74), (1, jI i), (2, jI h), (3, jI m), (4, jI d), (5, jI v5_1), (6, jI v6), (7, jI v7), (8, jI v8), (9, jI v9_20)]) dX9_bindsOf_105 (by decide) rfl ?_
            have ht := tok_at (E := (eTest (fAge (M 83) (M 82) h d 0) (fAge (M 83) (M 82) h d 1) (M 80 h) (M 76 m) (M 82 h) m)) hG h8.1 (by omega)
            have hc : (tAt M i v8).1 = v9_20 := by (show M 86 (2 * (M 85 (20 * i + 13) + v8)) = _); rw [ev9_20, r13]
            have hc2 : (tAt M i v8).2 = M 86 (2 * (M 85 (v5_1 + 13) + v8) + 1) := by (show M 86 (2 * (M 85 (20 * i + 13) + v8) + 1) = _); rw [r13]
            have ht1 := ht.2.1
            have ht5 := ht.2.2.2.2
            refine j_iload 9 dX9_bindsOf_107 rfl ?_
            refine j_bipush dX9_bindsOf_109 (by decide) ?_
            refine j_icmp_eq (tgt := 121) dX9_bindsOf_111 (by decide) (fun c111_21 => ?_) (fun c111_21 => ?_)
            · skip
              refine j_aload_n 0 dX9_bindsOf_121 rfl rfl ?_
              refine j_getr f_X9_47 r_74_25 dX9_bindsOf_122 ?_
              refine j_iload 7 dX9_bindsOf_125 rfl ?_
              refine j_iload 9 dX9_bindsOf_127 rfl ?_
              refine j_iast a_87 dX9_bindsOf_129 (by omega) (by omega) ?_
              refine j_nmM (fun M_22 eM_22 => ?_)
              have hT : aSt (M_22 87) (v7 + 1) ((cTok (cAllT (tPre M i v8.toNat)) (tAt M i v8)).1.map sgn) ∧ aSt (M_22 88) v6 (rpn (eTest (fAge (M 83) (M 82) h d 0) (fAge (M 83) (M 82) h d 1) (M 80 h) (M 76 m) (M 82 h) m) (cTok (cAllT (tPre M i v8.toNat)) (tAt M i v8)).2) := by rw [eM_22, jup_cell (show (88 : Int) ≠ 87 by decide)]; exact tk_push (by omega) hS hV (by rw [jup_self]; omega) (fun j j0 j1 => by rw [jup_at, if_neg (by omega)])
              obtain ⟨v7_23, ev7_23⟩ : ∃ y : Int, y = v7 + 1 := ⟨_, rfl⟩
              refine j_iinc (y := v7_23) (ls' := [(0, jR 74), (1, jI i), (2, jI h), (3, jI m), (4, jI d), (5, jI v5_1), (6, jI v6), (7, jI v7_23), (8, jI v8), (9, jI v9_20)]) 7 dX9_bindsOf_130 rfl ev7_23 (by omega) (by decide) rfl ?_
              refine j_goto (tgt := 407) dX9_bindsOf_133 (by decide) ?_
              obtain ⟨v8_24, ev8_24⟩ : ∃ y : Int, y = v8 + 1 := ⟨_, rfl⟩
              refine j_iinc (y := v8_24) (ls' := [(0, jR 74), (1, jI i), (2, jI h), (3, jI m), (4, jI d), (5, jI v5_1), (6, jI v6), (7, jI v7_23), (8, jI v8_24), (9, jI v9_20)]) 8 dX9_bindsOf_407 rfl ev8_24 (by omega) (by decide) rfl ?_
              refine j_goto (tgt := 71) dX9_bindsOf_410 (by decide) ?_
              refine j_sub (ls' := [(0, jR 74), (1, jI i), (2, jI h), (3, jI m), (4, jI d), (5, jI v5_1), (6, jI v6), (7, jI v7_23), (8, jI v8_24)]) [0, 1, 2, 3, 4, 5, 6, 7, 8] rfl ?_
              exact ih71 v6 v7_23 v8_24 M_22 ⟨by omega, by rw [ev8_24, cAllT_p M i h8.1]; first | exact hT.1 | (rw [show v7_23 = v7 + 1 by omega]; exact hT.1), by rw [ev8_24, cAllT_p M i h8.1]; exact hT.2, by intro c z1 z2; first | rfl | exact hk c z1 z2 | (rw [eM_22, jup_cell z1]; exact hk c z1 z2) | (rw [eM_22, jup_cell z2]; exact hk c z1 z2) | exact hk1 c z1 z2 | (rw [eM_22, jup_cell z1]; exact hk1 c z1 z2) | (rw [eM_22, jup_cell z2]; exact hk1 c z1 z2) | exact hk3 c z1 z2 | (rw [eM_22, jup_cell z1]; exact hk3 c z1 z2) | (rw [eM_22, jup_cell z2]; exact hk3 c z1 z2)⟩ (by omega)
            · skip
              refine j_iload 9 dX9_bindsOf_114 rfl ?_
              refine j_bipush dX9_bindsOf_116 (by decide) ?_
              refine j_icmp_ne (tgt := 136) dX9_bindsOf_118 (by decide) (fun c118_25 => ?_) (fun c118_25 => ?_)
              · skip
                refine j_iload 9 dX9_bindsOf_136 rfl ?_
                refine j_bipush dX9_bindsOf_138 (by decide) ?_
                refine j_icmp_eq (tgt := 150) dX9_bindsOf_140 (by decide) (fun c140_26 => ?_) (fun c140_26 => ?_)
                · skip
                  have lp150_27 : ∀ n150 : Nat, ∀ (v6 v7 : Int), ∀ N150 : jM, (bIn (eTest (fAge (M 83) (M 82) h d 0) (fAge (M 83) (M 82) h d 1) (M 80 h) (M 76 m) (M 82 h) m) (bP v9_20) (cAllT (tPre M i v8.toNat)) (N150 87) (N150 88) v7 v6) ∧ (v7 ≤ 47) ∧ (∀ c, c ≠ 87 → c ≠ 88 → N150 c = M c) → v7.toNat < n150 → jG D_X9_bindsOf X FJ shJ 0 0 (jqI (q_X9_bindsOf M i h m d)) 150 [(0, jR 74), (1, jI i), (2, jI h), (3, jI m), (4, jI d), (5, jI v5_1), (6, jI v6), (7, jI v7), (8, jI v8), (9, jI v9_20)] ([]) N150 := by
                    intro n150
                    induction n150 with
                    | zero => intro v6 v7 N150 _ hz; exact absurd hz (Nat.not_lt_zero _)
                    | succ n150 ih150 =>
                      intro v6 v7 N150 hinv hm
                      obtain ⟨hb, h7, hk1⟩ := hinv
                      have hl := bIn_len hE hb
                      have hl1 := hl.1
                      have hl2 := hl.2.1
                      have hl3 := hl.2.2.1
                      have hl4 := hl.2.2.2
                      refine j_iload 7 dX9_bindsOf_150 rfl ?_
                      refine j_if_le (tgt := 234) dX9_bindsOf_152 (by decide) (fun c152_28 => ?_) (fun c152_28 => ?_)
                      · skip
                        have hs := bIn_stop (bP_in _) hb (by first | exact Or.inl (by omega) | exact Or.inr ⟨by omega, fun z => by first | omega | (exfalso; unfold bP at z; rw [if_pos (by omega)] at z; omega)⟩)
                        refine j_aload_n 0 dX9_bindsOf_234 rfl rfl ?_
                        refine j_getr f_X9_47 r_74_25 dX9_bindsOf_235 ?_
                        refine j_iload 7 dX9_bindsOf_238 rfl ?_
                        refine j_iload 9 dX9_bindsOf_240 rfl ?_
                        refine j_iast a_87 dX9_bindsOf_242 (by omega) (by omega) ?_
                        refine j_nmM (fun M_29 eM_29 => ?_)
                        have hT : aSt (M_29 87) (v7 + 1) ((cTok (cAllT (tPre M i v8.toNat)) (tAt M i v8)).1.map sgn) ∧ aSt (M_29 88) v6 (rpn (eTest (fAge (M 83) (M 82) h d 0) (fAge (M 83) (M 82) h d 1) (M 80 h) (M 76 m) (M 82 h) m) (cTok (cAllT (tPre M i v8.toNat)) (tAt M i v8)).2) := by rw [eM_29, jup_cell (show (88 : Int) ≠ 87 by decide)]; exact tk_bin (by omega) (by rw [hc]; exact hs) (by rw [jup_self]; omega) (fun j j0 j1 => by rw [jup_at, if_neg (by omega)])
                        obtain ⟨v7_30, ev7_30⟩ : ∃ y : Int, y = v7 + 1 := ⟨_, rfl⟩
                        refine j_iinc (y := v7_30) (ls' := [(0, jR 74), (1, jI i), (2, jI h), (3, jI m), (4, jI d), (5, jI v5_1), (6, jI v6), (7, jI v7_30), (8, jI v8), (9, jI v9_20)]) 7 dX9_bindsOf_243 rfl ev7_30 (by omega) (by decide) rfl ?_
                        refine j_goto (tgt := 407) dX9_bindsOf_246 (by decide) ?_
                        obtain ⟨v8_31, ev8_31⟩ : ∃ y : Int, y = v8 + 1 := ⟨_, rfl⟩
                        refine j_iinc (y := v8_31) (ls' := [(0, jR 74), (1, jI i), (2, jI h), (3, jI m), (4, jI d), (5, jI v5_1), (6, jI v6), (7, jI v7_30), (8, jI v8_31), (9, jI v9_20)]) 8 dX9_bindsOf_407 rfl ev8_31 (by omega) (by decide) rfl ?_
                        refine j_goto (tgt := 71) dX9_bindsOf_410 (by decide) ?_
                        refine j_sub (ls' := [(0, jR 74), (1, jI i), (2, jI h), (3, jI m), (4, jI d), (5, jI v5_1), (6, jI v6), (7, jI v7_30), (8, jI v8_31)]) [0, 1, 2, 3, 4, 5, 6, 7, 8] rfl ?_
                        exact ih71 v6 v7_30 v8_31 M_29 ⟨by omega, by rw [ev8_31, cAllT_p M i h8.1]; first | exact hT.1 | (rw [show v7_30 = v7 + 1 by omega]; exact hT.1), by rw [ev8_31, cAllT_p M i h8.1]; exact hT.2, by intro c z1 z2; first | rfl | exact hk c z1 z2 | (rw [eM_29, jup_cell z1]; exact hk c z1 z2) | (rw [eM_29, jup_cell z2]; exact hk c z1 z2) | exact hk1 c z1 z2 | (rw [eM_29, jup_cell z1]; exact hk1 c z1 z2) | (rw [eM_29, jup_cell z2]; exact hk1 c z1 z2) | exact hk3 c z1 z2 | (rw [eM_29, jup_cell z1]; exact hk3 c z1 z2) | (rw [eM_29, jup_cell z2]; exact hk3 c z1 z2)⟩ (by omega)
                      · skip
                        refine j_aload_n 0 dX9_bindsOf_155 rfl rfl ?_
                        refine j_getr f_X9_47 r_74_25 dX9_bindsOf_156 ?_
                        refine j_iload 7 dX9_bindsOf_159 rfl ?_
                        refine j_iconst dX9_bindsOf_161 (by decide) ?_
                        refine j_isub dX9_bindsOf_162 (by omega) ?_
                        refine j_iald a_87 dX9_bindsOf_163 (by omega) (by omega) ?_
                        refine j_bipush dX9_bindsOf_164 (by decide) ?_
                        refine j_icmp_eq (tgt := 190) dX9_bindsOf_166 (by decide) (fun c166_32 => ?_) (fun c166_32 => ?_)
                        · skip
                          have hq := bIn_pop (bP_in _) hb (by omega) (by first | exact Or.inl (by omega) | exact Or.inr ⟨by unfold bP; rw [if_neg (by omega)], by omega⟩ | (exfalso; omega))
                          have hq1 := hq.1
                          obtain ⟨v7_33, ev7_33⟩ : ∃ y : Int, y = v7 + (-1) := ⟨_, rfl⟩
                          refine j_iinc (y := v7_33) (ls' := [(0, jR 74), (1, jI i), (2, jI h), (3, jI m), (4, jI d), (5, jI v5_1), (6, jI v6), (7, jI v7_33), (8, jI v8), (9, jI v9_20)]) 7 dX9_bindsOf_190 rfl ev7_33 (by omega) (by decide) rfl ?_
                          obtain ⟨v6_34, ev6_34⟩ : ∃ y : Int, y = v6 + (-1) := ⟨_, rfl⟩
                          refine j_iinc (y := v6_34) (ls' := [(0, jR 74), (1, jI i), (2, jI h), (3, jI m), (4, jI d), (5, jI v5_1), (6, jI v6_34), (7, jI v7_33), (8, jI v8), (9, jI v9_20)]) 6 dX9_bindsOf_193 rfl ev6_34 (by omega) (by decide) rfl ?_
                          refine j_aload_n 0 dX9_bindsOf_196 rfl rfl ?_
                          refine j_getr f_X9_50 r_74_26 dX9_bindsOf_197 ?_
                          refine j_iload 6 dX9_bindsOf_200 rfl ?_
                          refine j_iconst dX9_bindsOf_202 (by decide) ?_
                          refine j_isub dX9_bindsOf_203 (by omega) ?_
                          refine j_aload_n 0 dX9_bindsOf_204 rfl rfl ?_
                          refine j_getr f_X9_47 r_74_25 dX9_bindsOf_205 ?_
                          refine j_iload 7 dX9_bindsOf_208 rfl ?_
                          refine j_iald a_87 dX9_bindsOf_210 (by omega) (by omega) ?_
                          refine j_aload_n 0 dX9_bindsOf_211 rfl rfl ?_
                          refine j_getr f_X9_50 r_74_26 dX9_bindsOf_212 ?_
                          refine j_iload 6 dX9_bindsOf_215 rfl ?_
                          refine j_iconst dX9_bindsOf_217 (by decide) ?_
                          refine j_isub dX9_bindsOf_218 (by omega) ?_
                          refine j_iald a_88 dX9_bindsOf_219 (by omega) (by omega) ?_
                          refine j_aload_n 0 dX9_bindsOf_220 rfl rfl ?_
                          refine j_getr f_X9_50 r_74_26 dX9_bindsOf_221 ?_
                          refine j_iload 6 dX9_bindsOf_224 rfl ?_
                          refine j_iald a_88 dX9_bindsOf_226 (by omega) (by omega) ?_
                          refine j_callSi l_X9_255 ⟨Nat.le_of_ble_eq_true rfl, Nat.le_of_ble_eq_true rfl⟩ ⟨rfl, rfl⟩ dX9_bindsOf_227 (c_X9_joins N150 ((N150 87 v7_33)) ((N150 88 (v6_34 - 1))) ((N150 88 v6_34))) rfl rfl (Nat.le_of_ble_eq_true rfl) (fun r_35 M_36 h_37 => ?_)
                          obtain ⟨er_35, nh_37⟩ := h_37
                          refine j_eqM nh_37 ?_
                          clear nh_37
                          refine j_iast a_88 dX9_bindsOf_230 (by omega) (by omega) ?_
                          refine j_nmM (fun M_38 eM_38 => ?_)
                          refine j_goto (tgt := 150) dX9_bindsOf_231 (by decide) ?_
                          exact ih150 v6_34 v7_33 M_38 ⟨by (have eq7 : v7_33 = v7 - 1 := by omega); (have eq6 : v6_34 = v6 - 1 := by omega); rw [eM_38, jup_cell (show (87 : Int) ≠ 88 by decide), er_35, eq7, eq6]; exact hq.2 _ (by rw [show v6 - 2 = v6 - 1 - 1 by omega, jup_self]) (fun j j0 j1 => by rw [jup_at, if_neg (by omega)]), by omega, by intro c z1 z2; first | rfl | exact hk1 c z1 z2 | (rw [eM_38, jup_cell z1]; exact hk1 c z1 z2) | (rw [eM_38, jup_cell z2]; exact hk1 c z1 z2)⟩ (by omega)
                        · skip
                          refine j_iload 9 dX9_bindsOf_169 rfl ?_
                          refine j_bipush dX9_bindsOf_171 (by decide) ?_
                          refine j_icmp_ne (tgt := 234) dX9_bindsOf_173 (by decide) (fun c173_39 => ?_) (fun c173_39 => ?_)
                          · skip
                            have hs := bIn_stop (bP_in _) hb (by first | exact Or.inl (by omega) | exact Or.inr ⟨by omega, fun z => by first | omega | (exfalso; unfold bP at z; rw [if_pos (by omega)] at z; omega)⟩)
                            refine j_aload_n 0 dX9_bindsOf_234 rfl rfl ?_
                            refine j_getr f_X9_47 r_74_25 dX9_bindsOf_235 ?_
                            refine j_iload 7 dX9_bindsOf_238 rfl ?_
                            refine j_iload 9 dX9_bindsOf_240 rfl ?_
                            refine j_iast a_87 dX9_bindsOf_242 (by omega) (by omega) ?_
                            refine j_nmM (fun M_40 eM_40 => ?_)
                            have hT : aSt (M_40 87) (v7 + 1) ((cTok (cAllT (tPre M i v8.toNat)) (tAt M i v8)).1.map sgn) ∧ aSt (M_40 88) v6 (rpn (eTest (fAge (M 83) (M 82) h d 0) (fAge (M 83) (M 82) h d 1) (M 80 h) (M 76 m) (M 82 h) m) (cTok (cAllT (tPre M i v8.toNat)) (tAt M i v8)).2) := by rw [eM_40, jup_cell (show (88 : Int) ≠ 87 by decide)]; exact tk_bin (by omega) (by rw [hc]; exact hs) (by rw [jup_self]; omega) (fun j j0 j1 => by rw [jup_at, if_neg (by omega)])
                            obtain ⟨v7_41, ev7_41⟩ : ∃ y : Int, y = v7 + 1 := ⟨_, rfl⟩
                            refine j_iinc (y := v7_41) (ls' := [(0, jR 74), (1, jI i), (2, jI h), (3, jI m), (4, jI d), (5, jI v5_1), (6, jI v6), (7, jI v7_41), (8, jI v8), (9, jI v9_20)]) 7 dX9_bindsOf_243 rfl ev7_41 (by omega) (by decide) rfl ?_
                            refine j_goto (tgt := 407) dX9_bindsOf_246 (by decide) ?_
                            obtain ⟨v8_42, ev8_42⟩ : ∃ y : Int, y = v8 + 1 := ⟨_, rfl⟩
                            refine j_iinc (y := v8_42) (ls' := [(0, jR 74), (1, jI i), (2, jI h), (3, jI m), (4, jI d), (5, jI v5_1), (6, jI v6), (7, jI v7_41), (8, jI v8_42), (9, jI v9_20)]) 8 dX9_bindsOf_407 rfl ev8_42 (by omega) (by decide) rfl ?_
                            refine j_goto (tgt := 71) dX9_bindsOf_410 (by decide) ?_
                            refine j_sub (ls' := [(0, jR 74), (1, jI i), (2, jI h), (3, jI m), (4, jI d), (5, jI v5_1), (6, jI v6), (7, jI v7_41), (8, jI v8_42)]) [0, 1, 2, 3, 4, 5, 6, 7, 8] rfl ?_
                            exact ih71 v6 v7_41 v8_42 M_40 ⟨by omega, by rw [ev8_42, cAllT_p M i h8.1]; first | exact hT.1 | (rw [show v7_41 = v7 + 1 by omega]; exact hT.1), by rw [ev8_42, cAllT_p M i h8.1]; exact hT.2, by intro c z1 z2; first | rfl | exact hk c z1 z2 | (rw [eM_40, jup_cell z1]; exact hk c z1 z2) | (rw [eM_40, jup_cell z2]; exact hk c z1 z2) | exact hk1 c z1 z2 | (rw [eM_40, jup_cell z1]; exact hk1 c z1 z2) | (rw [eM_40, jup_cell z2]; exact hk1 c z1 z2) | exact hk3 c z1 z2 | (rw [eM_40, jup_cell z1]; exact hk3 c z1 z2) | (rw [eM_40, jup_cell z2]; exact hk3 c z1 z2)⟩ (by omega)
                          · skip
                            refine j_aload_n 0 dX9_bindsOf_176 rfl rfl ?_
                            refine j_getr f_X9_47 r_74_25 dX9_bindsOf_177 ?_
                            refine j_iload 7 dX9_bindsOf_180 rfl ?_
                            refine j_iconst dX9_bindsOf_182 (by decide) ?_
                            refine j_isub dX9_bindsOf_183 (by omega) ?_
                            refine j_iald a_87 dX9_bindsOf_184 (by omega) (by omega) ?_
                            refine j_bipush dX9_bindsOf_185 (by decide) ?_
                            refine j_icmp_ne (tgt := 234) dX9_bindsOf_187 (by decide) (fun c187_43 => ?_) (fun c187_43 => ?_)
                            · skip
                              have hs := bIn_stop (bP_in _) hb (by first | exact Or.inl (by omega) | exact Or.inr ⟨by omega, fun z => by first | omega | (exfalso; unfold bP at z; rw [if_pos (by omega)] at z; omega)⟩)
                              refine j_aload_n 0 dX9_bindsOf_234 rfl rfl ?_
                              refine j_getr f_X9_47 r_74_25 dX9_bindsOf_235 ?_
                              refine j_iload 7 dX9_bindsOf_238 rfl ?_
                              refine j_iload 9 dX9_bindsOf_240 rfl ?_
                              refine j_iast a_87 dX9_bindsOf_242 (by omega) (by omega) ?_
                              refine j_nmM (fun M_44 eM_44 => ?_)
                              have hT : aSt (M_44 87) (v7 + 1) ((cTok (cAllT (tPre M i v8.toNat)) (tAt M i v8)).1.map sgn) ∧ aSt (M_44 88) v6 (rpn (eTest (fAge (M 83) (M 82) h d 0) (fAge (M 83) (M 82) h d 1) (M 80 h) (M 76 m) (M 82 h) m) (cTok (cAllT (tPre M i v8.toNat)) (tAt M i v8)).2) := by rw [eM_44, jup_cell (show (88 : Int) ≠ 87 by decide)]; exact tk_bin (by omega) (by rw [hc]; exact hs) (by rw [jup_self]; omega) (fun j j0 j1 => by rw [jup_at, if_neg (by omega)])
                              obtain ⟨v7_45, ev7_45⟩ : ∃ y : Int, y = v7 + 1 := ⟨_, rfl⟩
                              refine j_iinc (y := v7_45) (ls' := [(0, jR 74), (1, jI i), (2, jI h), (3, jI m), (4, jI d), (5, jI v5_1), (6, jI v6), (7, jI v7_45), (8, jI v8), (9, jI v9_20)]) 7 dX9_bindsOf_243 rfl ev7_45 (by omega) (by decide) rfl ?_
                              refine j_goto (tgt := 407) dX9_bindsOf_246 (by decide) ?_
                              obtain ⟨v8_46, ev8_46⟩ : ∃ y : Int, y = v8 + 1 := ⟨_, rfl⟩
                              refine j_iinc (y := v8_46) (ls' := [(0, jR 74), (1, jI i), (2, jI h), (3, jI m), (4, jI d), (5, jI v5_1), (6, jI v6), (7, jI v7_45), (8, jI v8_46), (9, jI v9_20)]) 8 dX9_bindsOf_407 rfl ev8_46 (by omega) (by decide) rfl ?_
                              refine j_goto (tgt := 71) dX9_bindsOf_410 (by decide) ?_
                              refine j_sub (ls' := [(0, jR 74), (1, jI i), (2, jI h), (3, jI m), (4, jI d), (5, jI v5_1), (6, jI v6), (7, jI v7_45), (8, jI v8_46)]) [0, 1, 2, 3, 4, 5, 6, 7, 8] rfl ?_
                              exact ih71 v6 v7_45 v8_46 M_44 ⟨by omega, by rw [ev8_46, cAllT_p M i h8.1]; first | exact hT.1 | (rw [show v7_45 = v7 + 1 by omega]; exact hT.1), by rw [ev8_46, cAllT_p M i h8.1]; exact hT.2, by intro c z1 z2; first | rfl | exact hk c z1 z2 | (rw [eM_44, jup_cell z1]; exact hk c z1 z2) | (rw [eM_44, jup_cell z2]; exact hk c z1 z2) | exact hk1 c z1 z2 | (rw [eM_44, jup_cell z1]; exact hk1 c z1 z2) | (rw [eM_44, jup_cell z2]; exact hk1 c z1 z2) | exact hk3 c z1 z2 | (rw [eM_44, jup_cell z1]; exact hk3 c z1 z2) | (rw [eM_44, jup_cell z2]; exact hk3 c z1 z2)⟩ (by omega)
                            · skip
                              have hq := bIn_pop (bP_in _) hb (by omega) (by first | exact Or.inl (by omega) | exact Or.inr ⟨by unfold bP; rw [if_neg (by omega)], by omega⟩ | (exfalso; omega))
                              have hq1 := hq.1
                              obtain ⟨v7_47, ev7_47⟩ : ∃ y : Int, y = v7 + (-1) := ⟨_, rfl⟩
                              refine j_iinc (y := v7_47) (ls' := [(0, jR 74), (1, jI i), (2, jI h), (3, jI m), (4, jI d), (5, jI v5_1), (6, jI v6), (7, jI v7_47), (8, jI v8), (9, jI v9_20)]) 7 dX9_bindsOf_190 rfl ev7_47 (by omega) (by decide) rfl ?_
                              obtain ⟨v6_48, ev6_48⟩ : ∃ y : Int, y = v6 + (-1) := ⟨_, rfl⟩
                              refine j_iinc (y := v6_48) (ls' := [(0, jR 74), (1, jI i), (2, jI h), (3, jI m), (4, jI d), (5, jI v5_1), (6, jI v6_48), (7, jI v7_47), (8, jI v8), (9, jI v9_20)]) 6 dX9_bindsOf_193 rfl ev6_48 (by omega) (by decide) rfl ?_
                              refine j_aload_n 0 dX9_bindsOf_196 rfl rfl ?_
                              refine j_getr f_X9_50 r_74_26 dX9_bindsOf_197 ?_
                              refine j_iload 6 dX9_bindsOf_200 rfl ?_
                              refine j_iconst dX9_bindsOf_202 (by decide) ?_
                              refine j_isub dX9_bindsOf_203 (by omega) ?_
                              refine j_aload_n 0 dX9_bindsOf_204 rfl rfl ?_
                              refine j_getr f_X9_47 r_74_25 dX9_bindsOf_205 ?_
                              refine j_iload 7 dX9_bindsOf_208 rfl ?_
                              refine j_iald a_87 dX9_bindsOf_210 (by omega) (by omega) ?_
                              refine j_aload_n 0 dX9_bindsOf_211 rfl rfl ?_
                              refine j_getr f_X9_50 r_74_26 dX9_bindsOf_212 ?_
                              refine j_iload 6 dX9_bindsOf_215 rfl ?_
                              refine j_iconst dX9_bindsOf_217 (by decide) ?_
                              refine j_isub dX9_bindsOf_218 (by omega) ?_
                              refine j_iald a_88 dX9_bindsOf_219 (by omega) (by omega) ?_
                              refine j_aload_n 0 dX9_bindsOf_220 rfl rfl ?_
                              refine j_getr f_X9_50 r_74_26 dX9_bindsOf_221 ?_
                              refine j_iload 6 dX9_bindsOf_224 rfl ?_
                              refine j_iald a_88 dX9_bindsOf_226 (by omega) (by omega) ?_
                              refine j_callSi l_X9_255 ⟨Nat.le_of_ble_eq_true rfl, Nat.le_of_ble_eq_true rfl⟩ ⟨rfl, rfl⟩ dX9_bindsOf_227 (c_X9_joins N150 ((N150 87 v7_47)) ((N150 88 (v6_48 - 1))) ((N150 88 v6_48))) rfl rfl (Nat.le_of_ble_eq_true rfl) (fun r_49 M_50 h_51 => ?_)
                              obtain ⟨er_49, nh_51⟩ := h_51
                              refine j_eqM nh_51 ?_
                              clear nh_51
                              refine j_iast a_88 dX9_bindsOf_230 (by omega) (by omega) ?_
                              refine j_nmM (fun M_52 eM_52 => ?_)
                              refine j_goto (tgt := 150) dX9_bindsOf_231 (by decide) ?_
                              exact ih150 v6_48 v7_47 M_52 ⟨by (have eq7 : v7_47 = v7 - 1 := by omega); (have eq6 : v6_48 = v6 - 1 := by omega); rw [eM_52, jup_cell (show (87 : Int) ≠ 88 by decide), er_49, eq7, eq6]; exact hq.2 _ (by rw [show v6 - 2 = v6 - 1 - 1 by omega, jup_self]) (fun j j0 j1 => by rw [jup_at, if_neg (by omega)]), by omega, by intro c z1 z2; first | rfl | exact hk1 c z1 z2 | (rw [eM_52, jup_cell z1]; exact hk1 c z1 z2) | (rw [eM_52, jup_cell z2]; exact hk1 c z1 z2)⟩ (by omega)
                  exact lp150_27 _ v6 v7 N71 ⟨by exact bIn_mk ht.1 (fun _ => (ht.2.2.1 (by omega)).1) (ht.2.2.1 (by omega)).2 hS hV, by omega, by exact hk⟩ (Nat.lt_succ_self _)
                · skip
                  refine j_iload 9 dX9_bindsOf_143 rfl ?_
                  refine j_bipush dX9_bindsOf_145 (by decide) ?_
                  refine j_icmp_ne (tgt := 249) dX9_bindsOf_147 (by decide) (fun c147_53 => ?_) (fun c147_53 => ?_)
                  · skip
                    refine j_iload 9 dX9_bindsOf_249 rfl ?_
                    refine j_bipush dX9_bindsOf_251 (by decide) ?_
                    refine j_icmp_ne (tgt := 320) dX9_bindsOf_253 (by decide) (fun c253_54 => ?_) (fun c253_54 => ?_)
                    · skip
                      refine j_aload_n 0 dX9_bindsOf_320 rfl rfl ?_
                      refine j_getr f_X9_50 r_74_26 dX9_bindsOf_321 ?_
                      refine j_iload 6 dX9_bindsOf_324 rfl ?_
                      refine j_aload_n 0 dX9_bindsOf_326 rfl rfl ?_
                      refine j_iload 9 dX9_bindsOf_327 rfl ?_
                      refine j_aload_n 0 dX9_bindsOf_329 rfl rfl ?_
                      refine j_getr f_X9_44 r_74_23 dX9_bindsOf_330 ?_
                      refine j_iconst dX9_bindsOf_333 (by decide) ?_
                      refine j_aload_n 0 dX9_bindsOf_334 rfl rfl ?_
                      refine j_getr f_X9_41 r_74_22 dX9_bindsOf_335 ?_
                      refine j_iload 5 dX9_bindsOf_338 rfl ?_
                      refine j_bipush dX9_bindsOf_340 (by decide) ?_
                      refine j_iadd dX9_bindsOf_342 (by omega) ?_
                      refine j_iald a_85 dX9_bindsOf_343 (by omega) (by omega) ?_
                      refine j_eq (congrFun (hk 85 (by decide) (by decide)) (v5_1 + 13)) ?_
                      refine j_iload 8 dX9_bindsOf_344 rfl ?_
                      refine j_iadd dX9_bindsOf_346 (by omega) ?_
                      refine j_imul dX9_bindsOf_347 (by omega) ?_
                      refine j_iconst dX9_bindsOf_348 (by decide) ?_
                      refine j_iadd dX9_bindsOf_349 (by omega) ?_
                      refine j_iald a_86 dX9_bindsOf_350 (by omega) (by omega) ?_
                      refine j_eq (congrFun (hk 86 (by decide) (by decide)) ((2 * ((M 85 (v5_1 + 13)) + v8)) + 1)) ?_
                      refine j_iload_n 2 dX9_bindsOf_351 rfl rfl ?_
                      refine j_iload_n 3 dX9_bindsOf_352 rfl rfl ?_
                      refine j_iload 4 dX9_bindsOf_353 rfl ?_
                      refine j_callVi l_X9_258 ⟨Nat.le_of_ble_eq_true rfl, Nat.le_of_ble_eq_true rfl⟩ ⟨rfl, rfl⟩ dX9_bindsOf_355 ob_74 (c_X9_partOf N71 v9_20 ((M 86 ((2 * ((M 85 (v5_1 + 13)) + v8)) + 1))) h m d (by rw [(hk 80 (by decide) (by decide))]; exact h_rkind) (by rw [(hk 76 (by decide) (by decide))]; exact h_rtrade) (by rw [(hk 82 (by decide) (by decide))]; exact h_rpapers) (by rw [(hk 83 (by decide) (by decide))]; exact h_rpaper) (by first | assumption | omega) (by first | assumption | omega) (by first | assumption | omega)) rfl rfl (Nat.le_of_ble_eq_true rfl) (fun r_55 M_56 h_57 => ?_)
                      obtain ⟨er_55, nh_57⟩ := h_57
                      refine j_eqM nh_57 ?_
                      clear nh_57
                      simp only [(hk 83 (by decide) (by decide)), (hk 82 (by decide) (by decide)), (hk 80 (by decide) (by decide)), (hk 76 (by decide) (by decide))] at er_55
                      refine j_iast a_88 dX9_bindsOf_358 (by omega) (by omega) ?_
                      refine j_nmM (fun M_58 eM_58 => ?_)
                      obtain ⟨v6_59, ev6_59⟩ : ∃ y : Int, y = v6 + 1 := ⟨_, rfl⟩
                      refine j_iinc (y := v6_59) (ls' := [(0, jR 74), (1, jI i), (2, jI h), (3, jI m), (4, jI d), (5, jI v5_1), (6, jI v6_59), (7, jI v7), (8, jI v8), (9, jI v9_20)]) 6 dX9_bindsOf_359 rfl ev6_59 (by omega) (by decide) rfl ?_
                      have lp362_60 : ∀ n362 : Nat, ∀ (v7 : Int), ∀ N362 : jM, (bIn (eTest (fAge (M 83) (M 82) h d 0) (fAge (M 83) (M 82) h d 1) (M 80 h) (M 76 m) (M 82 h) m) 3 (bZ3 (cAllT (tPre M i v8.toNat)) (tAt M i v8)) (N362 87) (N362 88) v7 v6_59) ∧ (v7 ≤ 47) ∧ (∀ c, c ≠ 87 → c ≠ 88 → N362 c = M c) → v7.toNat < n362 → jG D_X9_bindsOf X FJ shJ 0 0 (jqI (q_X9_bindsOf M i h m d)) 362 [(0, jR 74), (1, jI i), (2, jI h), (3, jI m), (4, jI d), (5, jI v5_1), (6, jI v6_59), (7, jI v7), (8, jI v8), (9, jI v9_20)] ([]) N362 := by
                        intro n362
                        induction n362 with
                        | zero => intro v7 N362 _ hz; exact absurd hz (Nat.not_lt_zero _)
                        | succ n362 ih362 =>
                          intro v7 N362 hinv hm
                          obtain ⟨hb, h7, hk3⟩ := hinv
                          have hl := bIn_len hE hb
                          have hl1 := hl.1
                          have hl2 := hl.2.1
                          have hl3 := hl.2.2.1
                          have hl4 := hl.2.2.2
                          refine j_iload 7 dX9_bindsOf_362 rfl ?_
                          refine j_if_le (tgt := 407) dX9_bindsOf_364 (by decide) (fun c364_61 => ?_) (fun c364_61 => ?_)
                          · skip
                            have hT : aSt (N362 87) v7 ((cTok (cAllT (tPre M i v8.toNat)) (tAt M i v8)).1.map sgn) ∧ aSt (N362 88) v6_59 (rpn (eTest (fAge (M 83) (M 82) h d 0) (fAge (M 83) (M 82) h d 1) (M 80 h) (M 76 m) (M 82 h) m) (cTok (cAllT (tPre M i v8.toNat)) (tAt M i v8)).2) := by rw [tk_3 (by omega) (by omega) (by omega) (by omega)]; exact bIn_nst hb (by omega)
                            obtain ⟨v8_62, ev8_62⟩ : ∃ y : Int, y = v8 + 1 := ⟨_, rfl⟩
                            refine j_iinc (y := v8_62) (ls' := [(0, jR 74), (1, jI i), (2, jI h), (3, jI m), (4, jI d), (5, jI v5_1), (6, jI v6_59), (7, jI v7), (8, jI v8_62), (9, jI v9_20)]) 8 dX9_bindsOf_407 rfl ev8_62 (by omega) (by decide) rfl ?_
                            refine j_goto (tgt := 71) dX9_bindsOf_410 (by decide) ?_
                            refine j_sub (ls' := [(0, jR 74), (1, jI i), (2, jI h), (3, jI m), (4, jI d), (5, jI v5_1), (6, jI v6_59), (7, jI v7), (8, jI v8_62)]) [0, 1, 2, 3, 4, 5, 6, 7, 8] rfl ?_
                            exact ih71 v6_59 v7 v8_62 N362 ⟨by omega, by rw [ev8_62, cAllT_p M i h8.1]; first | exact hT.1 | (rw [show v7 = v7 + 1 by omega]; exact hT.1), by rw [ev8_62, cAllT_p M i h8.1]; exact hT.2, by intro c z1 z2; first | rfl | exact hk c z1 z2 | (rw [jup_zz, jup_cell z1]; exact hk c z1 z2) | (rw [jup_zz, jup_cell z2]; exact hk c z1 z2) | exact hk1 c z1 z2 | (rw [jup_zz, jup_cell z1]; exact hk1 c z1 z2) | (rw [jup_zz, jup_cell z2]; exact hk1 c z1 z2) | exact hk3 c z1 z2 | (rw [jup_zz, jup_cell z1]; exact hk3 c z1 z2) | (rw [jup_zz, jup_cell z2]; exact hk3 c z1 z2)⟩ (by omega)
                          · skip
                            refine j_aload_n 0 dX9_bindsOf_367 rfl rfl ?_
                            refine j_getr f_X9_47 r_74_25 dX9_bindsOf_368 ?_
                            refine j_iload 7 dX9_bindsOf_371 rfl ?_
                            refine j_iconst dX9_bindsOf_373 (by decide) ?_
                            refine j_isub dX9_bindsOf_374 (by omega) ?_
                            refine j_iald a_87 dX9_bindsOf_375 (by omega) (by omega) ?_
                            refine j_bipush dX9_bindsOf_376 (by decide) ?_
                            refine j_icmp_ne (tgt := 407) dX9_bindsOf_378 (by decide) (fun c378_63 => ?_) (fun c378_63 => ?_)
                            · skip
                              have hT : aSt (N362 87) v7 ((cTok (cAllT (tPre M i v8.toNat)) (tAt M i v8)).1.map sgn) ∧ aSt (N362 88) v6_59 (rpn (eTest (fAge (M 83) (M 82) h d 0) (fAge (M 83) (M 82) h d 1) (M 80 h) (M 76 m) (M 82 h) m) (cTok (cAllT (tPre M i v8.toNat)) (tAt M i v8)).2) := by rw [tk_3 (by omega) (by omega) (by omega) (by omega)]; exact bIn_nst hb (by omega)
                              obtain ⟨v8_64, ev8_64⟩ : ∃ y : Int, y = v8 + 1 := ⟨_, rfl⟩
                              refine j_iinc (y := v8_64) (ls' := [(0, jR 74), (1, jI i), (2, jI h), (3, jI m), (4, jI d), (5, jI v5_1), (6, jI v6_59), (7, jI v7), (8, jI v8_64), (9, jI v9_20)]) 8 dX9_bindsOf_407 rfl ev8_64 (by omega) (by decide) rfl ?_
                              refine j_goto (tgt := 71) dX9_bindsOf_410 (by decide) ?_
                              refine j_sub (ls' := [(0, jR 74), (1, jI i), (2, jI h), (3, jI m), (4, jI d), (5, jI v5_1), (6, jI v6_59), (7, jI v7), (8, jI v8_64)]) [0, 1, 2, 3, 4, 5, 6, 7, 8] rfl ?_
                              exact ih71 v6_59 v7 v8_64 N362 ⟨by omega, by rw [ev8_64, cAllT_p M i h8.1]; first | exact hT.1 | (rw [show v7 = v7 + 1 by omega]; exact hT.1), by rw [ev8_64, cAllT_p M i h8.1]; exact hT.2, by intro c z1 z2; first | rfl | exact hk c z1 z2 | (rw [jup_zz, jup_cell z1]; exact hk c z1 z2) | (rw [jup_zz, jup_cell z2]; exact hk c z1 z2) | exact hk1 c z1 z2 | (rw [jup_zz, jup_cell z1]; exact hk1 c z1 z2) | (rw [jup_zz, jup_cell z2]; exact hk1 c z1 z2) | exact hk3 c z1 z2 | (rw [jup_zz, jup_cell z1]; exact hk3 c z1 z2) | (rw [jup_zz, jup_cell z2]; exact hk3 c z1 z2)⟩ (by omega)
                            · skip
                              have hy := hl4 (v6_59 - 1) (by omega) (by omega)
                              refine j_aload_n 0 dX9_bindsOf_381 rfl rfl ?_
                              refine j_getr f_X9_50 r_74_26 dX9_bindsOf_382 ?_
                              refine j_iload 6 dX9_bindsOf_385 rfl ?_
                              refine j_iconst dX9_bindsOf_387 (by decide) ?_
                              refine j_isub dX9_bindsOf_388 (by omega) ?_
                              refine j_iconst dX9_bindsOf_389 (by decide) ?_
                              refine j_aload_n 0 dX9_bindsOf_390 rfl rfl ?_
                              refine j_getr f_X9_50 r_74_26 dX9_bindsOf_391 ?_
                              refine j_iload 6 dX9_bindsOf_394 rfl ?_
                              refine j_iconst dX9_bindsOf_396 (by decide) ?_
                              refine j_isub dX9_bindsOf_397 (by omega) ?_
                              refine j_iald a_88 dX9_bindsOf_398 (by omega) (by omega) ?_
                              refine j_isub dX9_bindsOf_399 (by omega) ?_
                              refine j_iast a_88 dX9_bindsOf_400 (by omega) (by omega) ?_
                              refine j_nmM (fun M_65 eM_65 => ?_)
                              obtain ⟨v7_66, ev7_66⟩ : ∃ y : Int, y = v7 + (-1) := ⟨_, rfl⟩
                              refine j_iinc (y := v7_66) (ls' := [(0, jR 74), (1, jI i), (2, jI h), (3, jI m), (4, jI d), (5, jI v5_1), (6, jI v6_59), (7, jI v7_66), (8, jI v8), (9, jI v9_20)]) 7 dX9_bindsOf_401 rfl ev7_66 (by omega) (by decide) rfl ?_
                              refine j_goto (tgt := 362) dX9_bindsOf_404 (by decide) ?_
                              exact ih362 v7_66 M_65 ⟨by rw [eM_65, jup_cell (show (87 : Int) ≠ 88 by decide), show v7_66 = v7 - 1 by omega]; exact bIn_not hb (by omega) (by omega) _ (by rw [jup_self]) (fun j j0 j1 => by rw [jup_at, if_neg (by omega)]), by omega, by intro c z1 z2; first | rfl | exact hk3 c z1 z2 | (rw [eM_65, jup_cell z1]; exact hk3 c z1 z2) | (rw [eM_65, jup_cell z2]; exact hk3 c z1 z2)⟩ (by omega)
                      exact lp362_60 _ v7 M_58 ⟨by first | (rw [show v7 = v7 - 1 by omega]; exact tk_close (by omega) ht.1 (ht.2.2.1 (by omega)).1 (ht.2.2.1 (by omega)).2 (ht.2.2.2.1 (by omega)) (bIn_stop (Or.inl rfl) hb (Or.inr ⟨by omega, fun _ => by omega⟩))) | (rw [eM_58, jup_cell (show (87 : Int) ≠ 88 by decide), show v6_59 = v6 + 1 by omega]; exact tk_test (by omega) (by omega) ht.1 (by omega) (by omega) hS hV (by rw [jup_self, er_55, hc, hc2]) (fun j j0 j1 => by rw [jup_at, if_neg (by omega)])), by omega, by intro c z1 z2; first | rfl | exact hk2 c z1 z2 | (rw [eM_58, jup_cell z1]; exact hk2 c z1 z2) | (rw [eM_58, jup_cell z2]; exact hk2 c z1 z2) | exact hk c z1 z2 | (rw [eM_58, jup_cell z1]; exact hk c z1 z2) | (rw [eM_58, jup_cell z2]; exact hk c z1 z2)⟩ (Nat.lt_succ_self _)
                    · skip
                      have lp256_67 : ∀ n256 : Nat, ∀ (v6 v7 : Int), ∀ N256 : jM, (bIn (eTest (fAge (M 83) (M 82) h d 0) (fAge (M 83) (M 82) h d 1) (M 80 h) (M 76 m) (M 82 h) m) 1 (cAllT (tPre M i v8.toNat)) (N256 87) (N256 88) v7 v6) ∧ (v7 ≤ 47) ∧ (∀ c, c ≠ 87 → c ≠ 88 → N256 c = M c) → v7.toNat < n256 → jG D_X9_bindsOf X FJ shJ 0 0 (jqI (q_X9_bindsOf M i h m d)) 256 [(0, jR 74), (1, jI i), (2, jI h), (3, jI m), (4, jI d), (5, jI v5_1), (6, jI v6), (7, jI v7), (8, jI v8), (9, jI v9_20)] ([]) N256 := by
                        intro n256
                        induction n256 with
                        | zero => intro v6 v7 N256 _ hz; exact absurd hz (Nat.not_lt_zero _)
                        | succ n256 ih256 =>
                          intro v6 v7 N256 hinv hm
                          obtain ⟨hb, h7, hk2⟩ := hinv
                          have hl := bIn_len hE hb
                          have hl1 := hl.1
                          have hl2 := hl.2.1
                          have hl3 := hl.2.2.1
                          have hl4 := hl.2.2.2
                          have ho := bIn_open hb (ht.2.2.2.1 (by omega))
                          refine j_aload_n 0 dX9_bindsOf_256 rfl rfl ?_
                          refine j_getr f_X9_47 r_74_25 dX9_bindsOf_257 ?_
                          refine j_iload 7 dX9_bindsOf_260 rfl ?_
                          refine j_iconst dX9_bindsOf_262 (by decide) ?_
                          refine j_isub dX9_bindsOf_263 (by omega) ?_
                          refine j_iald a_87 dX9_bindsOf_264 (by omega) (by omega) ?_
                          refine j_bipush dX9_bindsOf_265 (by decide) ?_
                          refine j_icmp_eq (tgt := 314) dX9_bindsOf_267 (by decide) (fun c267_68 => ?_) (fun c267_68 => ?_)
                          · skip
                            obtain ⟨v7_69, ev7_69⟩ : ∃ y : Int, y = v7 + (-1) := ⟨_, rfl⟩
                            refine j_iinc (y := v7_69) (ls' := [(0, jR 74), (1, jI i), (2, jI h), (3, jI m), (4, jI d), (5, jI v5_1), (6, jI v6), (7, jI v7_69), (8, jI v8), (9, jI v9_20)]) 7 dX9_bindsOf_314 rfl ev7_69 (by omega) (by decide) rfl ?_
                            refine j_goto (tgt := 362) dX9_bindsOf_317 (by decide) ?_
                            have lp362_70 : ∀ n362 : Nat, ∀ (v7 : Int), ∀ N362 : jM, (bIn (eTest (fAge (M 83) (M 82) h d 0) (fAge (M 83) (M 82) h d 1) (M 80 h) (M 76 m) (M 82 h) m) 3 (bZ3 (cAllT (tPre M i v8.toNat)) (tAt M i v8)) (N362 87) (N362 88) v7 v6) ∧ (v7 ≤ 47) ∧ (∀ c, c ≠ 87 → c ≠ 88 → N362 c = M c) → v7.toNat < n362 → jG D_X9_bindsOf X FJ shJ 0 0 (jqI (q_X9_bindsOf M i h m d)) 362 [(0, jR 74), (1, jI i), (2, jI h), (3, jI m), (4, jI d), (5, jI v5_1), (6, jI v6), (7, jI v7), (8, jI v8), (9, jI v9_20)] ([]) N362 := by
                              intro n362
                              induction n362 with
                              | zero => intro v7 N362 _ hz; exact absurd hz (Nat.not_lt_zero _)
                              | succ n362 ih362 =>
                                intro v7 N362 hinv hm
                                obtain ⟨hb, h7, hk3⟩ := hinv
                                have hl := bIn_len hE hb
                                have hl1 := hl.1
                                have hl2 := hl.2.1
                                have hl3 := hl.2.2.1
                                have hl4 := hl.2.2.2
                                refine j_iload 7 dX9_bindsOf_362 rfl ?_
                                refine j_if_le (tgt := 407) dX9_bindsOf_364 (by decide) (fun c364_71 => ?_) (fun c364_71 => ?_)
                                · skip
                                  have hT : aSt (N362 87) v7 ((cTok (cAllT (tPre M i v8.toNat)) (tAt M i v8)).1.map sgn) ∧ aSt (N362 88) v6 (rpn (eTest (fAge (M 83) (M 82) h d 0) (fAge (M 83) (M 82) h d 1) (M 80 h) (M 76 m) (M 82 h) m) (cTok (cAllT (tPre M i v8.toNat)) (tAt M i v8)).2) := by rw [tk_3 (by omega) (by omega) (by omega) (by omega)]; exact bIn_nst hb (by omega)
                                  obtain ⟨v8_72, ev8_72⟩ : ∃ y : Int, y = v8 + 1 := ⟨_, rfl⟩
                                  refine j_iinc (y := v8_72) (ls' := [(0, jR 74), (1, jI i), (2, jI h), (3, jI m), (4, jI d), (5, jI v5_1), (6, jI v6), (7, jI v7), (8, jI v8_72), (9, jI v9_20)]) 8 dX9_bindsOf_407 rfl ev8_72 (by omega) (by decide) rfl ?_
                                  refine j_goto (tgt := 71) dX9_bindsOf_410 (by decide) ?_
                                  refine j_sub (ls' := [(0, jR 74), (1, jI i), (2, jI h), (3, jI m), (4, jI d), (5, jI v5_1), (6, jI v6), (7, jI v7), (8, jI v8_72)]) [0, 1, 2, 3, 4, 5, 6, 7, 8] rfl ?_
                                  exact ih71 v6 v7 v8_72 N362 ⟨by omega, by rw [ev8_72, cAllT_p M i h8.1]; first | exact hT.1 | (rw [show v7 = v7 + 1 by omega]; exact hT.1), by rw [ev8_72, cAllT_p M i h8.1]; exact hT.2, by intro c z1 z2; first | rfl | exact hk c z1 z2 | (rw [jup_zz, jup_cell z1]; exact hk c z1 z2) | (rw [jup_zz, jup_cell z2]; exact hk c z1 z2) | exact hk1 c z1 z2 | (rw [jup_zz, jup_cell z1]; exact hk1 c z1 z2) | (rw [jup_zz, jup_cell z2]; exact hk1 c z1 z2) | exact hk3 c z1 z2 | (rw [jup_zz, jup_cell z1]; exact hk3 c z1 z2) | (rw [jup_zz, jup_cell z2]; exact hk3 c z1 z2)⟩ (by omega)
                                · skip
                                  refine j_aload_n 0 dX9_bindsOf_367 rfl rfl ?_
                                  refine j_getr f_X9_47 r_74_25 dX9_bindsOf_368 ?_
                                  refine j_iload 7 dX9_bindsOf_371 rfl ?_
                                  refine j_iconst dX9_bindsOf_373 (by decide) ?_
                                  refine j_isub dX9_bindsOf_374 (by omega) ?_
                                  refine j_iald a_87 dX9_bindsOf_375 (by omega) (by omega) ?_
                                  refine j_bipush dX9_bindsOf_376 (by decide) ?_
                                  refine j_icmp_ne (tgt := 407) dX9_bindsOf_378 (by decide) (fun c378_73 => ?_) (fun c378_73 => ?_)
                                  · skip
                                    have hT : aSt (N362 87) v7 ((cTok (cAllT (tPre M i v8.toNat)) (tAt M i v8)).1.map sgn) ∧ aSt (N362 88) v6 (rpn (eTest (fAge (M 83) (M 82) h d 0) (fAge (M 83) (M 82) h d 1) (M 80 h) (M 76 m) (M 82 h) m) (cTok (cAllT (tPre M i v8.toNat)) (tAt M i v8)).2) := by rw [tk_3 (by omega) (by omega) (by omega) (by omega)]; exact bIn_nst hb (by omega)
                                    obtain ⟨v8_74, ev8_74⟩ : ∃ y : Int, y = v8 + 1 := ⟨_, rfl⟩
                                    refine j_iinc (y := v8_74) (ls' := [(0, jR 74), (1, jI i), (2, jI h), (3, jI m), (4, jI d), (5, jI v5_1), (6, jI v6), (7, jI v7), (8, jI v8_74), (9, jI v9_20)]) 8 dX9_bindsOf_407 rfl ev8_74 (by omega) (by decide) rfl ?_
                                    refine j_goto (tgt := 71) dX9_bindsOf_410 (by decide) ?_
                                    refine j_sub (ls' := [(0, jR 74), (1, jI i), (2, jI h), (3, jI m), (4, jI d), (5, jI v5_1), (6, jI v6), (7, jI v7), (8, jI v8_74)]) [0, 1, 2, 3, 4, 5, 6, 7, 8] rfl ?_
                                    exact ih71 v6 v7 v8_74 N362 ⟨by omega, by rw [ev8_74, cAllT_p M i h8.1]; first | exact hT.1 | (rw [show v7 = v7 + 1 by omega]; exact hT.1), by rw [ev8_74, cAllT_p M i h8.1]; exact hT.2, by intro c z1 z2; first | rfl | exact hk c z1 z2 | (rw [jup_zz, jup_cell z1]; exact hk c z1 z2) | (rw [jup_zz, jup_cell z2]; exact hk c z1 z2) | exact hk1 c z1 z2 | (rw [jup_zz, jup_cell z1]; exact hk1 c z1 z2) | (rw [jup_zz, jup_cell z2]; exact hk1 c z1 z2) | exact hk3 c z1 z2 | (rw [jup_zz, jup_cell z1]; exact hk3 c z1 z2) | (rw [jup_zz, jup_cell z2]; exact hk3 c z1 z2)⟩ (by omega)
                                  · skip
                                    have hy := hl4 (v6 - 1) (by omega) (by omega)
                                    refine j_aload_n 0 dX9_bindsOf_381 rfl rfl ?_
                                    refine j_getr f_X9_50 r_74_26 dX9_bindsOf_382 ?_
                                    refine j_iload 6 dX9_bindsOf_385 rfl ?_
                                    refine j_iconst dX9_bindsOf_387 (by decide) ?_
                                    refine j_isub dX9_bindsOf_388 (by omega) ?_
                                    refine j_iconst dX9_bindsOf_389 (by decide) ?_
                                    refine j_aload_n 0 dX9_bindsOf_390 rfl rfl ?_
                                    refine j_getr f_X9_50 r_74_26 dX9_bindsOf_391 ?_
                                    refine j_iload 6 dX9_bindsOf_394 rfl ?_
                                    refine j_iconst dX9_bindsOf_396 (by decide) ?_
                                    refine j_isub dX9_bindsOf_397 (by omega) ?_
                                    refine j_iald a_88 dX9_bindsOf_398 (by omega) (by omega) ?_
                                    refine j_isub dX9_bindsOf_399 (by omega) ?_
                                    refine j_iast a_88 dX9_bindsOf_400 (by omega) (by omega) ?_
                                    refine j_nmM (fun M_75 eM_75 => ?_)
                                    obtain ⟨v7_76, ev7_76⟩ : ∃ y : Int, y = v7 + (-1) := ⟨_, rfl⟩
                                    refine j_iinc (y := v7_76) (ls' := [(0, jR 74), (1, jI i), (2, jI h), (3, jI m), (4, jI d), (5, jI v5_1), (6, jI v6), (7, jI v7_76), (8, jI v8), (9, jI v9_20)]) 7 dX9_bindsOf_401 rfl ev7_76 (by omega) (by decide) rfl ?_
                                    refine j_goto (tgt := 362) dX9_bindsOf_404 (by decide) ?_
                                    exact ih362 v7_76 M_75 ⟨by rw [eM_75, jup_cell (show (87 : Int) ≠ 88 by decide), show v7_76 = v7 - 1 by omega]; exact bIn_not hb (by omega) (by omega) _ (by rw [jup_self]) (fun j j0 j1 => by rw [jup_at, if_neg (by omega)]), by omega, by intro c z1 z2; first | rfl | exact hk3 c z1 z2 | (rw [eM_75, jup_cell z1]; exact hk3 c z1 z2) | (rw [eM_75, jup_cell z2]; exact hk3 c z1 z2)⟩ (by omega)
                            exact lp362_70 _ v7_69 N256 ⟨by first | (rw [show v7_69 = v7 - 1 by omega]; exact tk_close (by omega) ht.1 (ht.2.2.1 (by omega)).1 (ht.2.2.1 (by omega)).2 (ht.2.2.2.1 (by omega)) (bIn_stop (Or.inl rfl) hb (Or.inr ⟨by omega, fun _ => by omega⟩))) | (rw [jup_zz, jup_cell (show (87 : Int) ≠ 88 by decide), show v6 = v6 + 1 by omega]; exact tk_test (by omega) (by omega) ht.1 (by omega) (by omega) hS hV (by rw [jup_self, er_55, hc, hc2]) (fun j j0 j1 => by rw [jup_at, if_neg (by omega)])), by omega, by intro c z1 z2; first | rfl | exact hk2 c z1 z2 | (rw [jup_zz, jup_cell z1]; exact hk2 c z1 z2) | (rw [jup_zz, jup_cell z2]; exact hk2 c z1 z2) | exact hk c z1 z2 | (rw [jup_zz, jup_cell z1]; exact hk c z1 z2) | (rw [jup_zz, jup_cell z2]; exact hk c z1 z2)⟩ (Nat.lt_succ_self _)
                          · skip
                            have hq := bIn_pop (Or.inl rfl) hb (by omega) (Or.inr ⟨rfl, by omega⟩)
                            have hq1 := hq.1
                            obtain ⟨v7_77, ev7_77⟩ : ∃ y : Int, y = v7 + (-1) := ⟨_, rfl⟩
                            refine j_iinc (y := v7_77) (ls' := [(0, jR 74), (1, jI i), (2, jI h), (3, jI m), (4, jI d), (5, jI v5_1), (6, jI v6), (7, jI v7_77), (8, jI v8), (9, jI v9_20)]) 7 dX9_bindsOf_270 rfl ev7_77 (by omega) (by decide) rfl ?_
                            obtain ⟨v6_78, ev6_78⟩ : ∃ y : Int, y = v6 + (-1) := ⟨_, rfl⟩
                            refine j_iinc (y := v6_78) (ls' := [(0, jR 74), (1, jI i), (2, jI h), (3, jI m), (4, jI d), (5, jI v5_1), (6, jI v6_78), (7, jI v7_77), (8, jI v8), (9, jI v9_20)]) 6 dX9_bindsOf_273 rfl ev6_78 (by omega) (by decide) rfl ?_
                            refine j_aload_n 0 dX9_bindsOf_276 rfl rfl ?_
                            refine j_getr f_X9_50 r_74_26 dX9_bindsOf_277 ?_
                            refine j_iload 6 dX9_bindsOf_280 rfl ?_
                            refine j_iconst dX9_bindsOf_282 (by decide) ?_
                            refine j_isub dX9_bindsOf_283 (by omega) ?_
                            refine j_aload_n 0 dX9_bindsOf_284 rfl rfl ?_
                            refine j_getr f_X9_47 r_74_25 dX9_bindsOf_285 ?_
                            refine j_iload 7 dX9_bindsOf_288 rfl ?_
                            refine j_iald a_87 dX9_bindsOf_290 (by omega) (by omega) ?_
                            refine j_aload_n 0 dX9_bindsOf_291 rfl rfl ?_
                            refine j_getr f_X9_50 r_74_26 dX9_bindsOf_292 ?_
                            refine j_iload 6 dX9_bindsOf_295 rfl ?_
                            refine j_iconst dX9_bindsOf_297 (by decide) ?_
                            refine j_isub dX9_bindsOf_298 (by omega) ?_
                            refine j_iald a_88 dX9_bindsOf_299 (by omega) (by omega) ?_
                            refine j_aload_n 0 dX9_bindsOf_300 rfl rfl ?_
                            refine j_getr f_X9_50 r_74_26 dX9_bindsOf_301 ?_
                            refine j_iload 6 dX9_bindsOf_304 rfl ?_
                            refine j_iald a_88 dX9_bindsOf_306 (by omega) (by omega) ?_
                            refine j_callSi l_X9_255 ⟨Nat.le_of_ble_eq_true rfl, Nat.le_of_ble_eq_true rfl⟩ ⟨rfl, rfl⟩ dX9_bindsOf_307 (c_X9_joins N256 ((N256 87 v7_77)) ((N256 88 (v6_78 - 1))) ((N256 88 v6_78))) rfl rfl (Nat.le_of_ble_eq_true rfl) (fun r_79 M_80 h_81 => ?_)
                            obtain ⟨er_79, nh_81⟩ := h_81
                            refine j_eqM nh_81 ?_
                            clear nh_81
                            refine j_iast a_88 dX9_bindsOf_310 (by omega) (by omega) ?_
                            refine j_nmM (fun M_82 eM_82 => ?_)
                            refine j_goto (tgt := 256) dX9_bindsOf_311 (by decide) ?_
                            exact ih256 v6_78 v7_77 M_82 ⟨by (have eq7 : v7_77 = v7 - 1 := by omega); (have eq6 : v6_78 = v6 - 1 := by omega); rw [eM_82, jup_cell (show (87 : Int) ≠ 88 by decide), er_79, eq7, eq6]; exact hq.2 _ (by rw [show v6 - 2 = v6 - 1 - 1 by omega, jup_self]) (fun j j0 j1 => by rw [jup_at, if_neg (by omega)]), by omega, by intro c z1 z2; first | rfl | exact hk2 c z1 z2 | (rw [eM_82, jup_cell z1]; exact hk2 c z1 z2) | (rw [eM_82, jup_cell z2]; exact hk2 c z1 z2)⟩ (by omega)
                      exact lp256_67 _ v6 v7 N71 ⟨by exact bIn_mk ht.1 (fun _ => (ht.2.2.1 (by omega)).1) (ht.2.2.1 (by omega)).2 hS hV, by omega, by exact hk⟩ (Nat.lt_succ_self _)
                  · skip
                    have lp150_83 : ∀ n150 : Nat, ∀ (v6 v7 : Int), ∀ N150 : jM, (bIn (eTest (fAge (M 83) (M 82) h d 0) (fAge (M 83) (M 82) h d 1) (M 80 h) (M 76 m) (M 82 h) m) (bP v9_20) (cAllT (tPre M i v8.toNat)) (N150 87) (N150 88) v7 v6) ∧ (v7 ≤ 47) ∧ (∀ c, c ≠ 87 → c ≠ 88 → N150 c = M c) → v7.toNat < n150 → jG D_X9_bindsOf X FJ shJ 0 0 (jqI (q_X9_bindsOf M i h m d)) 150 [(0, jR 74), (1, jI i), (2, jI h), (3, jI m), (4, jI d), (5, jI v5_1), (6, jI v6), (7, jI v7), (8, jI v8), (9, jI v9_20)] ([]) N150 := by
                      intro n150
                      induction n150 with
                      | zero => intro v6 v7 N150 _ hz; exact absurd hz (Nat.not_lt_zero _)
                      | succ n150 ih150 =>
                        intro v6 v7 N150 hinv hm
                        obtain ⟨hb, h7, hk1⟩ := hinv
                        have hl := bIn_len hE hb
                        have hl1 := hl.1
                        have hl2 := hl.2.1
                        have hl3 := hl.2.2.1
                        have hl4 := hl.2.2.2
                        refine j_iload 7 dX9_bindsOf_150 rfl ?_
                        refine j_if_le (tgt := 234) dX9_bindsOf_152 (by decide) (fun c152_84 => ?_) (fun c152_84 => ?_)
                        · skip
                          have hs := bIn_stop (bP_in _) hb (by first | exact Or.inl (by omega) | exact Or.inr ⟨by omega, fun z => by first | omega | (exfalso; unfold bP at z; rw [if_pos (by omega)] at z; omega)⟩)
                          refine j_aload_n 0 dX9_bindsOf_234 rfl rfl ?_
                          refine j_getr f_X9_47 r_74_25 dX9_bindsOf_235 ?_
                          refine j_iload 7 dX9_bindsOf_238 rfl ?_
                          refine j_iload 9 dX9_bindsOf_240 rfl ?_
                          refine j_iast a_87 dX9_bindsOf_242 (by omega) (by omega) ?_
                          refine j_nmM (fun M_85 eM_85 => ?_)
                          have hT : aSt (M_85 87) (v7 + 1) ((cTok (cAllT (tPre M i v8.toNat)) (tAt M i v8)).1.map sgn) ∧ aSt (M_85 88) v6 (rpn (eTest (fAge (M 83) (M 82) h d 0) (fAge (M 83) (M 82) h d 1) (M 80 h) (M 76 m) (M 82 h) m) (cTok (cAllT (tPre M i v8.toNat)) (tAt M i v8)).2) := by rw [eM_85, jup_cell (show (88 : Int) ≠ 87 by decide)]; exact tk_bin (by omega) (by rw [hc]; exact hs) (by rw [jup_self]; omega) (fun j j0 j1 => by rw [jup_at, if_neg (by omega)])
                          obtain ⟨v7_86, ev7_86⟩ : ∃ y : Int, y = v7 + 1 := ⟨_, rfl⟩
                          refine j_iinc (y := v7_86) (ls' := [(0, jR 74), (1, jI i), (2, jI h), (3, jI m), (4, jI d), (5, jI v5_1), (6, jI v6), (7, jI v7_86), (8, jI v8), (9, jI v9_20)]) 7 dX9_bindsOf_243 rfl ev7_86 (by omega) (by decide) rfl ?_
                          refine j_goto (tgt := 407) dX9_bindsOf_246 (by decide) ?_
                          obtain ⟨v8_87, ev8_87⟩ : ∃ y : Int, y = v8 + 1 := ⟨_, rfl⟩
                          refine j_iinc (y := v8_87) (ls' := [(0, jR 74), (1, jI i), (2, jI h), (3, jI m), (4, jI d), (5, jI v5_1), (6, jI v6), (7, jI v7_86), (8, jI v8_87), (9, jI v9_20)]) 8 dX9_bindsOf_407 rfl ev8_87 (by omega) (by decide) rfl ?_
                          refine j_goto (tgt := 71) dX9_bindsOf_410 (by decide) ?_
                          refine j_sub (ls' := [(0, jR 74), (1, jI i), (2, jI h), (3, jI m), (4, jI d), (5, jI v5_1), (6, jI v6), (7, jI v7_86), (8, jI v8_87)]) [0, 1, 2, 3, 4, 5, 6, 7, 8] rfl ?_
                          exact ih71 v6 v7_86 v8_87 M_85 ⟨by omega, by rw [ev8_87, cAllT_p M i h8.1]; first | exact hT.1 | (rw [show v7_86 = v7 + 1 by omega]; exact hT.1), by rw [ev8_87, cAllT_p M i h8.1]; exact hT.2, by intro c z1 z2; first | rfl | exact hk c z1 z2 | (rw [eM_85, jup_cell z1]; exact hk c z1 z2) | (rw [eM_85, jup_cell z2]; exact hk c z1 z2) | exact hk1 c z1 z2 | (rw [eM_85, jup_cell z1]; exact hk1 c z1 z2) | (rw [eM_85, jup_cell z2]; exact hk1 c z1 z2) | exact hk3 c z1 z2 | (rw [eM_85, jup_cell z1]; exact hk3 c z1 z2) | (rw [eM_85, jup_cell z2]; exact hk3 c z1 z2)⟩ (by omega)
                        · skip
                          refine j_aload_n 0 dX9_bindsOf_155 rfl rfl ?_
                          refine j_getr f_X9_47 r_74_25 dX9_bindsOf_156 ?_
                          refine j_iload 7 dX9_bindsOf_159 rfl ?_
                          refine j_iconst dX9_bindsOf_161 (by decide) ?_
                          refine j_isub dX9_bindsOf_162 (by omega) ?_
                          refine j_iald a_87 dX9_bindsOf_163 (by omega) (by omega) ?_
                          refine j_bipush dX9_bindsOf_164 (by decide) ?_
                          refine j_icmp_eq (tgt := 190) dX9_bindsOf_166 (by decide) (fun c166_88 => ?_) (fun c166_88 => ?_)
                          · skip
                            have hq := bIn_pop (bP_in _) hb (by omega) (by first | exact Or.inl (by omega) | exact Or.inr ⟨by unfold bP; rw [if_neg (by omega)], by omega⟩ | (exfalso; omega))
                            have hq1 := hq.1
                            obtain ⟨v7_89, ev7_89⟩ : ∃ y : Int, y = v7 + (-1) := ⟨_, rfl⟩
                            refine j_iinc (y := v7_89) (ls' := [(0, jR 74), (1, jI i), (2, jI h), (3, jI m), (4, jI d), (5, jI v5_1), (6, jI v6), (7, jI v7_89), (8, jI v8), (9, jI v9_20)]) 7 dX9_bindsOf_190 rfl ev7_89 (by omega) (by decide) rfl ?_
                            obtain ⟨v6_90, ev6_90⟩ : ∃ y : Int, y = v6 + (-1) := ⟨_, rfl⟩
                            refine j_iinc (y := v6_90) (ls' := [(0, jR 74), (1, jI i), (2, jI h), (3, jI m), (4, jI d), (5, jI v5_1), (6, jI v6_90), (7, jI v7_89), (8, jI v8), (9, jI v9_20)]) 6 dX9_bindsOf_193 rfl ev6_90 (by omega) (by decide) rfl ?_
                            refine j_aload_n 0 dX9_bindsOf_196 rfl rfl ?_
                            refine j_getr f_X9_50 r_74_26 dX9_bindsOf_197 ?_
                            refine j_iload 6 dX9_bindsOf_200 rfl ?_
                            refine j_iconst dX9_bindsOf_202 (by decide) ?_
                            refine j_isub dX9_bindsOf_203 (by omega) ?_
                            refine j_aload_n 0 dX9_bindsOf_204 rfl rfl ?_
                            refine j_getr f_X9_47 r_74_25 dX9_bindsOf_205 ?_
                            refine j_iload 7 dX9_bindsOf_208 rfl ?_
                            refine j_iald a_87 dX9_bindsOf_210 (by omega) (by omega) ?_
                            refine j_aload_n 0 dX9_bindsOf_211 rfl rfl ?_
                            refine j_getr f_X9_50 r_74_26 dX9_bindsOf_212 ?_
                            refine j_iload 6 dX9_bindsOf_215 rfl ?_
                            refine j_iconst dX9_bindsOf_217 (by decide) ?_
                            refine j_isub dX9_bindsOf_218 (by omega) ?_
                            refine j_iald a_88 dX9_bindsOf_219 (by omega) (by omega) ?_
                            refine j_aload_n 0 dX9_bindsOf_220 rfl rfl ?_
                            refine j_getr f_X9_50 r_74_26 dX9_bindsOf_221 ?_
                            refine j_iload 6 dX9_bindsOf_224 rfl ?_
                            refine j_iald a_88 dX9_bindsOf_226 (by omega) (by omega) ?_
                            refine j_callSi l_X9_255 ⟨Nat.le_of_ble_eq_true rfl, Nat.le_of_ble_eq_true rfl⟩ ⟨rfl, rfl⟩ dX9_bindsOf_227 (c_X9_joins N150 ((N150 87 v7_89)) ((N150 88 (v6_90 - 1))) ((N150 88 v6_90))) rfl rfl (Nat.le_of_ble_eq_true rfl) (fun r_91 M_92 h_93 => ?_)
                            obtain ⟨er_91, nh_93⟩ := h_93
                            refine j_eqM nh_93 ?_
                            clear nh_93
                            refine j_iast a_88 dX9_bindsOf_230 (by omega) (by omega) ?_
                            refine j_nmM (fun M_94 eM_94 => ?_)
                            refine j_goto (tgt := 150) dX9_bindsOf_231 (by decide) ?_
                            exact ih150 v6_90 v7_89 M_94 ⟨by (have eq7 : v7_89 = v7 - 1 := by omega); (have eq6 : v6_90 = v6 - 1 := by omega); rw [eM_94, jup_cell (show (87 : Int) ≠ 88 by decide), er_91, eq7, eq6]; exact hq.2 _ (by rw [show v6 - 2 = v6 - 1 - 1 by omega, jup_self]) (fun j j0 j1 => by rw [jup_at, if_neg (by omega)]), by omega, by intro c z1 z2; first | rfl | exact hk1 c z1 z2 | (rw [eM_94, jup_cell z1]; exact hk1 c z1 z2) | (rw [eM_94, jup_cell z2]; exact hk1 c z1 z2)⟩ (by omega)
                          · skip
                            refine j_iload 9 dX9_bindsOf_169 rfl ?_
                            refine j_bipush dX9_bindsOf_171 (by decide) ?_
                            refine j_icmp_ne (tgt := 234) dX9_bindsOf_173 (by decide) (fun c173_95 => ?_) (fun c173_95 => ?_)
                            · skip
                              have hs := bIn_stop (bP_in _) hb (by first | exact Or.inl (by omega) | exact Or.inr ⟨by omega, fun z => by first | omega | (exfalso; unfold bP at z; rw [if_pos (by omega)] at z; omega)⟩)
                              refine j_aload_n 0 dX9_bindsOf_234 rfl rfl ?_
                              refine j_getr f_X9_47 r_74_25 dX9_bindsOf_235 ?_
                              refine j_iload 7 dX9_bindsOf_238 rfl ?_
                              refine j_iload 9 dX9_bindsOf_240 rfl ?_
                              refine j_iast a_87 dX9_bindsOf_242 (by omega) (by omega) ?_
                              refine j_nmM (fun M_96 eM_96 => ?_)
                              have hT : aSt (M_96 87) (v7 + 1) ((cTok (cAllT (tPre M i v8.toNat)) (tAt M i v8)).1.map sgn) ∧ aSt (M_96 88) v6 (rpn (eTest (fAge (M 83) (M 82) h d 0) (fAge (M 83) (M 82) h d 1) (M 80 h) (M 76 m) (M 82 h) m) (cTok (cAllT (tPre M i v8.toNat)) (tAt M i v8)).2) := by rw [eM_96, jup_cell (show (88 : Int) ≠ 87 by decide)]; exact tk_bin (by omega) (by rw [hc]; exact hs) (by rw [jup_self]; omega) (fun j j0 j1 => by rw [jup_at, if_neg (by omega)])
                              obtain ⟨v7_97, ev7_97⟩ : ∃ y : Int, y = v7 + 1 := ⟨_, rfl⟩
                              refine j_iinc (y := v7_97) (ls' := [(0, jR 74), (1, jI i), (2, jI h), (3, jI m), (4, jI d), (5, jI v5_1), (6, jI v6), (7, jI v7_97), (8, jI v8), (9, jI v9_20)]) 7 dX9_bindsOf_243 rfl ev7_97 (by omega) (by decide) rfl ?_
                              refine j_goto (tgt := 407) dX9_bindsOf_246 (by decide) ?_
                              obtain ⟨v8_98, ev8_98⟩ : ∃ y : Int, y = v8 + 1 := ⟨_, rfl⟩
                              refine j_iinc (y := v8_98) (ls' := [(0, jR 74), (1, jI i), (2, jI h), (3, jI m), (4, jI d), (5, jI v5_1), (6, jI v6), (7, jI v7_97), (8, jI v8_98), (9, jI v9_20)]) 8 dX9_bindsOf_407 rfl ev8_98 (by omega) (by decide) rfl ?_
                              refine j_goto (tgt := 71) dX9_bindsOf_410 (by decide) ?_
                              refine j_sub (ls' := [(0, jR 74), (1, jI i), (2, jI h), (3, jI m), (4, jI d), (5, jI v5_1), (6, jI v6), (7, jI v7_97), (8, jI v8_98)]) [0, 1, 2, 3, 4, 5, 6, 7, 8] rfl ?_
                              exact ih71 v6 v7_97 v8_98 M_96 ⟨by omega, by rw [ev8_98, cAllT_p M i h8.1]; first | exact hT.1 | (rw [show v7_97 = v7 + 1 by omega]; exact hT.1), by rw [ev8_98, cAllT_p M i h8.1]; exact hT.2, by intro c z1 z2; first | rfl | exact hk c z1 z2 | (rw [eM_96, jup_cell z1]; exact hk c z1 z2) | (rw [eM_96, jup_cell z2]; exact hk c z1 z2) | exact hk1 c z1 z2 | (rw [eM_96, jup_cell z1]; exact hk1 c z1 z2) | (rw [eM_96, jup_cell z2]; exact hk1 c z1 z2) | exact hk3 c z1 z2 | (rw [eM_96, jup_cell z1]; exact hk3 c z1 z2) | (rw [eM_96, jup_cell z2]; exact hk3 c z1 z2)⟩ (by omega)
                            · skip
                              refine j_aload_n 0 dX9_bindsOf_176 rfl rfl ?_
                              refine j_getr f_X9_47 r_74_25 dX9_bindsOf_177 ?_
                              refine j_iload 7 dX9_bindsOf_180 rfl ?_
                              refine j_iconst dX9_bindsOf_182 (by decide) ?_
                              refine j_isub dX9_bindsOf_183 (by omega) ?_
                              refine j_iald a_87 dX9_bindsOf_184 (by omega) (by omega) ?_
                              refine j_bipush dX9_bindsOf_185 (by decide) ?_
                              refine j_icmp_ne (tgt := 234) dX9_bindsOf_187 (by decide) (fun c187_99 => ?_) (fun c187_99 => ?_)
                              · skip
                                have hs := bIn_stop (bP_in _) hb (by first | exact Or.inl (by omega) | exact Or.inr ⟨by omega, fun z => by first | omega | (exfalso; unfold bP at z; rw [if_pos (by omega)] at z; omega)⟩)
                                refine j_aload_n 0 dX9_bindsOf_234 rfl rfl ?_
                                refine j_getr f_X9_47 r_74_25 dX9_bindsOf_235 ?_
                                refine j_iload 7 dX9_bindsOf_238 rfl ?_
                                refine j_iload 9 dX9_bindsOf_240 rfl ?_
                                refine j_iast a_87 dX9_bindsOf_242 (by omega) (by omega) ?_
                                refine j_nmM (fun M_100 eM_100 => ?_)
                                have hT : aSt (M_100 87) (v7 + 1) ((cTok (cAllT (tPre M i v8.toNat)) (tAt M i v8)).1.map sgn) ∧ aSt (M_100 88) v6 (rpn (eTest (fAge (M 83) (M 82) h d 0) (fAge (M 83) (M 82) h d 1) (M 80 h) (M 76 m) (M 82 h) m) (cTok (cAllT (tPre M i v8.toNat)) (tAt M i v8)).2) := by rw [eM_100, jup_cell (show (88 : Int) ≠ 87 by decide)]; exact tk_bin (by omega) (by rw [hc]; exact hs) (by rw [jup_self]; omega) (fun j j0 j1 => by rw [jup_at, if_neg (by omega)])
                                obtain ⟨v7_101, ev7_101⟩ : ∃ y : Int, y = v7 + 1 := ⟨_, rfl⟩
                                refine j_iinc (y := v7_101) (ls' := [(0, jR 74), (1, jI i), (2, jI h), (3, jI m), (4, jI d), (5, jI v5_1), (6, jI v6), (7, jI v7_101), (8, jI v8), (9, jI v9_20)]) 7 dX9_bindsOf_243 rfl ev7_101 (by omega) (by decide) rfl ?_
                                refine j_goto (tgt := 407) dX9_bindsOf_246 (by decide) ?_
                                obtain ⟨v8_102, ev8_102⟩ : ∃ y : Int, y = v8 + 1 := ⟨_, rfl⟩
                                refine j_iinc (y := v8_102) (ls' := [(0, jR 74), (1, jI i), (2, jI h), (3, jI m), (4, jI d), (5, jI v5_1), (6, jI v6), (7, jI v7_101), (8, jI v8_102), (9, jI v9_20)]) 8 dX9_bindsOf_407 rfl ev8_102 (by omega) (by decide) rfl ?_
                                refine j_goto (tgt := 71) dX9_bindsOf_410 (by decide) ?_
                                refine j_sub (ls' := [(0, jR 74), (1, jI i), (2, jI h), (3, jI m), (4, jI d), (5, jI v5_1), (6, jI v6), (7, jI v7_101), (8, jI v8_102)]) [0, 1, 2, 3, 4, 5, 6, 7, 8] rfl ?_
                                exact ih71 v6 v7_101 v8_102 M_100 ⟨by omega, by rw [ev8_102, cAllT_p M i h8.1]; first | exact hT.1 | (rw [show v7_101 = v7 + 1 by omega]; exact hT.1), by rw [ev8_102, cAllT_p M i h8.1]; exact hT.2, by intro c z1 z2; first | rfl | exact hk c z1 z2 | (rw [eM_100, jup_cell z1]; exact hk c z1 z2) | (rw [eM_100, jup_cell z2]; exact hk c z1 z2) | exact hk1 c z1 z2 | (rw [eM_100, jup_cell z1]; exact hk1 c z1 z2) | (rw [eM_100, jup_cell z2]; exact hk1 c z1 z2) | exact hk3 c z1 z2 | (rw [eM_100, jup_cell z1]; exact hk3 c z1 z2) | (rw [eM_100, jup_cell z2]; exact hk3 c z1 z2)⟩ (by omega)
                              · skip
                                have hq := bIn_pop (bP_in _) hb (by omega) (by first | exact Or.inl (by omega) | exact Or.inr ⟨by unfold bP; rw [if_neg (by omega)], by omega⟩ | (exfalso; omega))
                                have hq1 := hq.1
                                obtain ⟨v7_103, ev7_103⟩ : ∃ y : Int, y = v7 + (-1) := ⟨_, rfl⟩
                                refine j_iinc (y := v7_103) (ls' := [(0, jR 74), (1, jI i), (2, jI h), (3, jI m), (4, jI d), (5, jI v5_1), (6, jI v6), (7, jI v7_103), (8, jI v8), (9, jI v9_20)]) 7 dX9_bindsOf_190 rfl ev7_103 (by omega) (by decide) rfl ?_
                                obtain ⟨v6_104, ev6_104⟩ : ∃ y : Int, y = v6 + (-1) := ⟨_, rfl⟩
                                refine j_iinc (y := v6_104) (ls' := [(0, jR 74), (1, jI i), (2, jI h), (3, jI m), (4, jI d), (5, jI v5_1), (6, jI v6_104), (7, jI v7_103), (8, jI v8), (9, jI v9_20)]) 6 dX9_bindsOf_193 rfl ev6_104 (by omega) (by decide) rfl ?_
                                refine j_aload_n 0 dX9_bindsOf_196 rfl rfl ?_
                                refine j_getr f_X9_50 r_74_26 dX9_bindsOf_197 ?_
                                refine j_iload 6 dX9_bindsOf_200 rfl ?_
                                refine j_iconst dX9_bindsOf_202 (by decide) ?_
                                refine j_isub dX9_bindsOf_203 (by omega) ?_
                                refine j_aload_n 0 dX9_bindsOf_204 rfl rfl ?_
                                refine j_getr f_X9_47 r_74_25 dX9_bindsOf_205 ?_
                                refine j_iload 7 dX9_bindsOf_208 rfl ?_
                                refine j_iald a_87 dX9_bindsOf_210 (by omega) (by omega) ?_
                                refine j_aload_n 0 dX9_bindsOf_211 rfl rfl ?_
                                refine j_getr f_X9_50 r_74_26 dX9_bindsOf_212 ?_
                                refine j_iload 6 dX9_bindsOf_215 rfl ?_
                                refine j_iconst dX9_bindsOf_217 (by decide) ?_
                                refine j_isub dX9_bindsOf_218 (by omega) ?_
                                refine j_iald a_88 dX9_bindsOf_219 (by omega) (by omega) ?_
                                refine j_aload_n 0 dX9_bindsOf_220 rfl rfl ?_
                                refine j_getr f_X9_50 r_74_26 dX9_bindsOf_221 ?_
                                refine j_iload 6 dX9_bindsOf_224 rfl ?_
                                refine j_iald a_88 dX9_bindsOf_226 (by omega) (by omega) ?_
                                refine j_callSi l_X9_255 ⟨Nat.le_of_ble_eq_true rfl, Nat.le_of_ble_eq_true rfl⟩ ⟨rfl, rfl⟩ dX9_bindsOf_227 (c_X9_joins N150 ((N150 87 v7_103)) ((N150 88 (v6_104 - 1))) ((N150 88 v6_104))) rfl rfl (Nat.le_of_ble_eq_true rfl) (fun r_105 M_106 h_107 => ?_)
                                obtain ⟨er_105, nh_107⟩ := h_107
                                refine j_eqM nh_107 ?_
                                clear nh_107
                                refine j_iast a_88 dX9_bindsOf_230 (by omega) (by omega) ?_
                                refine j_nmM (fun M_108 eM_108 => ?_)
                                refine j_goto (tgt := 150) dX9_bindsOf_231 (by decide) ?_
                                exact ih150 v6_104 v7_103 M_108 ⟨by (have eq7 : v7_103 = v7 - 1 := by omega); (have eq6 : v6_104 = v6 - 1 := by omega); rw [eM_108, jup_cell (show (87 : Int) ≠ 88 by decide), er_105, eq7, eq6]; exact hq.2 _ (by rw [show v6 - 2 = v6 - 1 - 1 by omega, jup_self]) (fun j j0 j1 => by rw [jup_at, if_neg (by omega)]), by omega, by intro c z1 z2; first | rfl | exact hk1 c z1 z2 | (rw [eM_108, jup_cell z1]; exact hk1 c z1 z2) | (rw [eM_108, jup_cell z2]; exact hk1 c z1 z2)⟩ (by omega)
                    exact lp150_83 _ v6 v7 N71 ⟨by exact bIn_mk ht.1 (fun _ => (ht.2.2.1 (by omega)).1) (ht.2.2.1 (by omega)).2 hS hV, by omega, by exact hk⟩ (Nat.lt_succ_self _)
              · skip
                refine j_aload_n 0 dX9_bindsOf_121 rfl rfl ?_
                refine j_getr f_X9_47 r_74_25 dX9_bindsOf_122 ?_
                refine j_iload 7 dX9_bindsOf_125 rfl ?_
                refine j_iload 9 dX9_bindsOf_127 rfl ?_
                refine j_iast a_87 dX9_bindsOf_129 (by omega) (by omega) ?_
                refine j_nmM (fun M_109 eM_109 => ?_)
                have hT : aSt (M_109 87) (v7 + 1) ((cTok (cAllT (tPre M i v8.toNat)) (tAt M i v8)).1.map sgn) ∧ aSt (M_109 88) v6 (rpn (eTest (fAge (M 83) (M 82) h d 0) (fAge (M 83) (M 82) h d 1) (M 80 h) (M 76 m) (M 82 h) m) (cTok (cAllT (tPre M i v8.toNat)) (tAt M i v8)).2) := by rw [eM_109, jup_cell (show (88 : Int) ≠ 87 by decide)]; exact tk_push (by omega) hS hV (by rw [jup_self]; omega) (fun j j0 j1 => by rw [jup_at, if_neg (by omega)])
                obtain ⟨v7_110, ev7_110⟩ : ∃ y : Int, y = v7 + 1 := ⟨_, rfl⟩
                refine j_iinc (y := v7_110) (ls' := [(0, jR 74), (1, jI i), (2, jI h), (3, jI m), (4, jI d), (5, jI v5_1), (6, jI v6), (7, jI v7_110), (8, jI v8), (9, jI v9_20)]) 7 dX9_bindsOf_130 rfl ev7_110 (by omega) (by decide) rfl ?_
                refine j_goto (tgt := 407) dX9_bindsOf_133 (by decide) ?_
                obtain ⟨v8_111, ev8_111⟩ : ∃ y : Int, y = v8 + 1 := ⟨_, rfl⟩
                refine j_iinc (y := v8_111) (ls' := [(0, jR 74), (1, jI i), (2, jI h), (3, jI m), (4, jI d), (5, jI v5_1), (6, jI v6), (7, jI v7_110), (8, jI v8_111), (9, jI v9_20)]) 8 dX9_bindsOf_407 rfl ev8_111 (by omega) (by decide) rfl ?_
                refine j_goto (tgt := 71) dX9_bindsOf_410 (by decide) ?_
                refine j_sub (ls' := [(0, jR 74), (1, jI i), (2, jI h), (3, jI m), (4, jI d), (5, jI v5_1), (6, jI v6), (7, jI v7_110), (8, jI v8_111)]) [0, 1, 2, 3, 4, 5, 6, 7, 8] rfl ?_
                exact ih71 v6 v7_110 v8_111 M_109 ⟨by omega, by rw [ev8_111, cAllT_p M i h8.1]; first | exact hT.1 | (rw [show v7_110 = v7 + 1 by omega]; exact hT.1), by rw [ev8_111, cAllT_p M i h8.1]; exact hT.2, by intro c z1 z2; first | rfl | exact hk c z1 z2 | (rw [eM_109, jup_cell z1]; exact hk c z1 z2) | (rw [eM_109, jup_cell z2]; exact hk c z1 z2) | exact hk1 c z1 z2 | (rw [eM_109, jup_cell z1]; exact hk1 c z1 z2) | (rw [eM_109, jup_cell z2]; exact hk1 c z1 z2) | exact hk3 c z1 z2 | (rw [eM_109, jup_cell z1]; exact hk3 c z1 z2) | (rw [eM_109, jup_cell z2]; exact hk3 c z1 z2)⟩ (by omega)
      exact lp71_7 _ 0 0 0 M ⟨by omega, by rfl, by rfl, by intro c _ _; rfl⟩ (Nat.lt_succ_self _)
    · skip
      refine j_iload 4 dX9_bindsOf_46 rfl ?_
      refine j_aload_n 0 dX9_bindsOf_48 rfl rfl ?_
      refine j_getr f_X9_41 r_74_22 dX9_bindsOf_49 ?_
      refine j_iload 5 dX9_bindsOf_52 rfl ?_
      refine j_iconst dX9_bindsOf_54 (by decide) ?_
      refine j_iadd dX9_bindsOf_55 (by omega) ?_
      refine j_iald a_85 dX9_bindsOf_56 (by omega) (by omega) ?_
      refine j_icmp_lt (tgt := 62) dX9_bindsOf_57 (by decide) (fun c57_112 => ?_) (fun c57_112 => ?_)
      · skip
        refine j_iconst dX9_bindsOf_62 (by decide) ?_
        refine j_istore (ls' := [(0, jR 74), (1, jI i), (2, jI h), (3, jI m), (4, jI d), (5, jI v5_1), (6, jI 0)]) dX9_bindsOf_63 (by decide) rfl ?_
        refine j_iconst dX9_bindsOf_65 (by decide) ?_
        refine j_istore (ls' := [(0, jR 74), (1, jI i), (2, jI h), (3, jI m), (4, jI d), (5, jI v5_1), (6, jI 0), (7, jI 0)]) dX9_bindsOf_66 (by decide) rfl ?_
        refine j_iconst dX9_bindsOf_68 (by decide) ?_
        refine j_istore (ls' := [(0, jR 74), (1, jI i), (2, jI h), (3, jI m), (4, jI d), (5, jI v5_1), (6, jI 0), (7, jI 0), (8, jI 0)]) dX9_bindsOf_69 (by decide) rfl ?_
        have lp71_113 : ∀ n71 : Nat, ∀ (v6 v7 v8 : Int), ∀ N71 : jM, (0 ≤ v8 ∧ v8 ≤ M 85 (20 * i + 4)) ∧ (aSt (N71 87) v7 ((cAllT (tPre M i v8.toNat)).1.map sgn)) ∧ (aSt (N71 88) v6 (rpn (eTest (fAge (M 83) (M 82) h d 0) (fAge (M 83) (M 82) h d 1) (M 80 h) (M 76 m) (M 82 h) m) (cAllT (tPre M i v8.toNat)).2)) ∧ (∀ c, c ≠ 87 → c ≠ 88 → N71 c = M c) → (M 85 (20 * i + 4) - v8).toNat < n71 → jG D_X9_bindsOf X FJ shJ 0 0 (jqI (q_X9_bindsOf M i h m d)) 71 [(0, jR 74), (1, jI i), (2, jI h), (3, jI m), (4, jI d), (5, jI v5_1), (6, jI v6), (7, jI v7), (8, jI v8)] ([]) N71 := by
          intro n71
          induction n71 with
          | zero => intro v6 v7 v8 N71 _ hz; exact absurd hz (Nat.not_lt_zero _)
          | succ n71 ih71 =>
            intro v6 v7 v8 N71 hinv hm
            obtain ⟨h8, hS, hV, hk⟩ := hinv
            have l7 := aSt_len _ hS
            rw [List.length_map] at l7
            have l6 := aSt_len _ hV
            have l6b := (rpn_vin hE (cAllT (tPre M i v8.toNat)).2).2
            refine j_iload 8 dX9_bindsOf_71 rfl ?_
            refine j_aload_n 0 dX9_bindsOf_73 rfl rfl ?_
            refine j_getr f_X9_41 r_74_22 dX9_bindsOf_74 ?_
            refine j_iload 5 dX9_bindsOf_77 rfl ?_
            refine j_iconst dX9_bindsOf_79 (by decide) ?_
            refine j_iadd dX9_bindsOf_80 (by omega) ?_
            refine j_iald a_85 dX9_bindsOf_81 (by omega) (by omega) ?_
            refine j_eq (congrFun (hk 85 (by decide) (by decide)) (v5_1 + 4)) ?_
            refine j_icmp_ge (tgt := 413) dX9_bindsOf_82 (by decide) (fun c82_114 => ?_) (fun c82_114 => ?_)
            · skip
              have lp413_115 : ∀ n413 : Nat, ∀ (v6 v7 : Int), ∀ N413 : jM, (¬ M 85 (20 * i + 4) = 0 → bIn (eTest (fAge (M 83) (M 82) h d 0) (fAge (M 83) (M 82) h d 1) (M 80 h) (M 76 m) (M 82 h) m) 1 (cAllT (tPre M i (M 85 (20 * i + 4)).toNat)) (N413 87) (N413 88) v7 v6) ∧ (0 ≤ v7 ∧ v7 ≤ 47 ∧ (M 85 (20 * i + 4) = 0 → v7 = 0)) ∧ (∀ c, c ≠ 87 → c ≠ 88 → N413 c = M c) → v7.toNat < n413 → jG D_X9_bindsOf X FJ shJ 0 0 (jqI (q_X9_bindsOf M i h m d)) 413 [(0, jR 74), (1, jI i), (2, jI h), (3, jI m), (4, jI d), (5, jI v5_1), (6, jI v6), (7, jI v7), (8, jI v8)] ([]) N413 := by
                intro n413
                induction n413 with
                | zero => intro v6 v7 N413 _ hz; exact absurd hz (Nat.not_lt_zero _)
                | succ n413 ih413 =>
                  intro v6 v7 N413 hinv hm
                  obtain ⟨hb, h7, hk4⟩ := hinv
                  refine j_iload 7 dX9_bindsOf_413 rfl ?_
                  refine j_if_le (tgt := 462) dX9_bindsOf_415 (by decide) (fun c415_116 => ?_) (fun c415_116 => ?_)
                  · skip
                    refine j_aload_n 0 dX9_bindsOf_462 rfl rfl ?_
                    refine j_getr f_X9_41 r_74_22 dX9_bindsOf_463 ?_
                    refine j_iload 5 dX9_bindsOf_466 rfl ?_
                    refine j_iconst dX9_bindsOf_468 (by decide) ?_
                    refine j_iadd dX9_bindsOf_469 (by omega) ?_
                    refine j_iald a_85 dX9_bindsOf_470 (by omega) (by omega) ?_
                    refine j_eq (congrFun (hk4 85 (by decide) (by decide)) (v5_1 + 4)) ?_
                    have hJ_117 : ∀ zz : Int, (¬ (M 85 (v5_1 + 4)) = 0 ∧ zz = (N413 88 0)) ∨ ((M 85 (v5_1 + 4)) = 0 ∧ zz = 2) → jG D_X9_bindsOf X FJ shJ 0 0 (jqI (q_X9_bindsOf M i h m d)) 484 [(0, jR 74), (1, jI i), (2, jI h), (3, jI m), (4, jI d), (5, jI v5_1), (6, jI v6), (7, jI v7), (8, jI v8)] (jI zz :: []) N413 := by
                      intro t_118 et_118
                      refine j_iret rfl rfl rfl rfl dX9_bindsOf_484 ?_
                      have hnp : ¬ (¬ (M 85 (20 * i + 1) ≤ d ∧ d ≤ M 85 (20 * i + 2)) ∨ (¬ M 85 (20 * i + 3) = -9 ∧ M 85 (20 * i + 3) ≤ d)) := by omega
                      refine ⟨?_, hk4⟩
                      unfold rB
                      rw [if_neg hnp]
                      rcases et_118 with ⟨z1, z2⟩ | ⟨z1, z2⟩ <;> first | (exfalso; omega) | (rw [z2, show (M 85 (20 * i + 4)).toNat = 0 by omega]; rfl) | (rw [z2, cOut_eq]; have st := bIn_stop (Or.inl rfl) (hb (by omega)) (Or.inl (by omega)); have bl := (bIn_len hE (hb (by omega))).2.1; exact aSt_bot _ st.2 (by omega))
                    refine j_if_ne (tgt := 478) dX9_bindsOf_471 (by decide) (fun c471_119 => ?_) (fun c471_119 => ?_)
                    · skip
                      refine j_aload_n 0 dX9_bindsOf_478 rfl rfl ?_
                      refine j_getr f_X9_50 r_74_26 dX9_bindsOf_479 ?_
                      refine j_iconst dX9_bindsOf_482 (by decide) ?_
                      refine j_iald a_88 dX9_bindsOf_483 (by omega) (by omega) ?_
                      exact hJ_117 _ (Or.inl ⟨c471_119, rfl⟩)
                    · skip
                      refine j_iconst dX9_bindsOf_474 (by decide) ?_
                      refine j_goto (tgt := 484) dX9_bindsOf_475 (by decide) ?_
                      exact hJ_117 _ (Or.inr (⟨c471_119, rfl⟩))
                  · skip
                    have hnz : ¬ M 85 (20 * i + 4) = 0 := by omega
                    have hb1 := hb hnz
                    have te := tok_end (E := (eTest (fAge (M 83) (M 82) h d 0) (fAge (M 83) (M 82) h d 1) (M 80 h) (M 76 m) (M 82 h) m)) hG hnz
                    have hl := bIn_len hE hb1
                    have hl1 := hl.1
                    have hl2 := hl.2.1
                    have hl3 := hl.2.2.1
                    have hl4 := hl.2.2.2
                    have hq := bIn_pop (Or.inl rfl) hb1 (by omega) (Or.inr ⟨rfl, bIn_none hb1 te.2.2.2.2 (by omega)⟩)
                    have hq1 := hq.1
                    obtain ⟨v7_120, ev7_120⟩ : ∃ y : Int, y = v7 + (-1) := ⟨_, rfl⟩
                    refine j_iinc (y := v7_120) (ls' := [(0, jR 74), (1, jI i), (2, jI h), (3, jI m), (4, jI d), (5, jI v5_1), (6, jI v6), (7, jI v7_120), (8, jI v8)]) 7 dX9_bindsOf_418 rfl ev7_120 (by omega) (by decide) rfl ?_
                    obtain ⟨v6_121, ev6_121⟩ : ∃ y : Int, y = v6 + (-1) := ⟨_, rfl⟩
                    refine j_iinc (y := v6_121) (ls' := [(0, jR 74), (1, jI i), (2, jI h), (3, jI m), (4, jI d), (5, jI v5_1), (6, jI v6_121), (7, jI v7_120), (8, jI v8)]) 6 dX9_bindsOf_421 rfl ev6_121 (by omega) (by decide) rfl ?_
                    refine j_aload_n 0 dX9_bindsOf_424 rfl rfl ?_
                    refine j_getr f_X9_50 r_74_26 dX9_bindsOf_425 ?_
                    refine j_iload 6 dX9_bindsOf_428 rfl ?_
                    refine j_iconst dX9_bindsOf_430 (by decide) ?_
                    refine j_isub dX9_bindsOf_431 (by omega) ?_
                    refine j_aload_n 0 dX9_bindsOf_432 rfl rfl ?_
                    refine j_getr f_X9_47 r_74_25 dX9_bindsOf_433 ?_
                    refine j_iload 7 dX9_bindsOf_436 rfl ?_
                    refine j_iald a_87 dX9_bindsOf_438 (by omega) (by omega) ?_
                    refine j_aload_n 0 dX9_bindsOf_439 rfl rfl ?_
                    refine j_getr f_X9_50 r_74_26 dX9_bindsOf_440 ?_
                    refine j_iload 6 dX9_bindsOf_443 rfl ?_
                    refine j_iconst dX9_bindsOf_445 (by decide) ?_
                    refine j_isub dX9_bindsOf_446 (by omega) ?_
                    refine j_iald a_88 dX9_bindsOf_447 (by omega) (by omega) ?_
                    refine j_aload_n 0 dX9_bindsOf_448 rfl rfl ?_
                    refine j_getr f_X9_50 r_74_26 dX9_bindsOf_449 ?_
                    refine j_iload 6 dX9_bindsOf_452 rfl ?_
                    refine j_iald a_88 dX9_bindsOf_454 (by omega) (by omega) ?_
                    refine j_callSi l_X9_255 ⟨Nat.le_of_ble_eq_true rfl, Nat.le_of_ble_eq_true rfl⟩ ⟨rfl, rfl⟩ dX9_bindsOf_455 (c_X9_joins N413 ((N413 87 v7_120)) ((N413 88 (v6_121 - 1))) ((N413 88 v6_121))) rfl rfl (Nat.le_of_ble_eq_true rfl) (fun r_122 M_123 h_124 => ?_)
                    obtain ⟨er_122, nh_124⟩ := h_124
                    refine j_eqM nh_124 ?_
                    clear nh_124
                    refine j_iast a_88 dX9_bindsOf_458 (by omega) (by omega) ?_
                    refine j_nmM (fun M_125 eM_125 => ?_)
                    refine j_goto (tgt := 413) dX9_bindsOf_459 (by decide) ?_
                    exact ih413 v6_121 v7_120 M_125 ⟨by intro _; (have eq7 : v7_120 = v7 - 1 := by omega); (have eq6 : v6_121 = v6 - 1 := by omega); rw [eM_125, jup_cell (show (87 : Int) ≠ 88 by decide), er_122, eq7, eq6]; exact hq.2 _ (by rw [show v6 - 2 = v6 - 1 - 1 by omega, jup_self]) (fun j j0 j1 => by rw [jup_at, if_neg (by omega)]), by omega, by intro c z1 z2; first | rfl | exact hk4 c z1 z2 | (rw [eM_125, jup_cell z1]; exact hk4 c z1 z2) | (rw [eM_125, jup_cell z2]; exact hk4 c z1 z2)⟩ (by omega)
              exact lp413_115 _ v6 v7 N71 ⟨by intro hz; have te := tok_end (E := (eTest (fAge (M 83) (M 82) h d 0) (fAge (M 83) (M 82) h d 1) (M 80 h) (M 76 m) (M 82 h) m)) hG hz; have e8 : v8 = M 85 (20 * i + 4) := (by omega); rw [e8] at hS hV; exact bIn_mk te.1 (fun _ => te.2.2.1) te.2.2.2.1 hS hV, by have e8 : v8 = M 85 (20 * i + 4) := (by omega); rw [e8] at l7; by_cases hz : M 85 (20 * i + 4) = 0; (· rw [show (M 85 (20 * i + 4)).toNat = 0 by omega] at l7; have l7b : v7 = 0 := l7; omega); (· have te := (tok_end (E := (eTest (fAge (M 83) (M 82) h d 0) (fAge (M 83) (M 82) h d 1) (M 80 h) (M 76 m) (M 82 h) m)) hG hz).2.1; omega), by exact hk⟩ (Nat.lt_succ_self _)
            · skip
              refine j_aload_n 0 dX9_bindsOf_85 rfl rfl ?_
              refine j_getr f_X9_44 r_74_23 dX9_bindsOf_86 ?_
              refine j_iconst dX9_bindsOf_89 (by decide) ?_
              refine j_aload_n 0 dX9_bindsOf_90 rfl rfl ?_
              refine j_getr f_X9_41 r_74_22 dX9_bindsOf_91 ?_
              refine j_iload 5 dX9_bindsOf_94 rfl ?_
              refine j_bipush dX9_bindsOf_96 (by decide) ?_
              refine j_iadd dX9_bindsOf_98 (by omega) ?_
              refine j_iald a_85 dX9_bindsOf_99 (by omega) (by omega) ?_
              refine j_eq (congrFun (hk 85 (by decide) (by decide)) (v5_1 + 13)) ?_
              refine j_iload 8 dX9_bindsOf_100 rfl ?_
              refine j_iadd dX9_bindsOf_102 (by omega) ?_
              refine j_imul dX9_bindsOf_103 (by omega) ?_
              refine j_iald a_86 dX9_bindsOf_104 (by omega) (by omega) ?_
              refine j_eq (congrFun (hk 86 (by decide) (by decide)) (2 * ((M 85 (v5_1 + 13)) + v8))) ?_
              refine j_nm (fun v9_126 ev9_126 => ?_)
              refine j_istore (ls' := [(0, jR 74), (1, jI i), (2, jI h), (3, jI m), (4, jI d), (5, jI v5_1), (6, jI v6), (7, jI v7), (8, jI v8), (9, jI v9_126)]) dX9_bindsOf_105 (by decide) rfl ?_
              have ht := tok_at (E := (eTest (fAge (M 83) (M 82) h d 0) (fAge (M 83) (M 82) h d 1) (M 80 h) (M 76 m) (M 82 h) m)) hG h8.1 (by omega)
              have hc : (tAt M i v8).1 = v9_126 := by (show M 86 (2 * (M 85 (20 * i + 13) + v8)) = _); rw [ev9_126, r13]
              have hc2 : (tAt M i v8).2 = M 86 (2 * (M 85 (v5_1 + 13) + v8) + 1) := by (show M 86 (2 * (M 85 (20 * i + 13) + v8) + 1) = _); rw [r13]
              have ht1 := ht.2.1
              have ht5 := ht.2.2.2.2
              refine j_iload 9 dX9_bindsOf_107 rfl ?_
              refine j_bipush dX9_bindsOf_109 (by decide) ?_
              refine j_icmp_eq (tgt := 121) dX9_bindsOf_111 (by decide) (fun c111_127 => ?_) (fun c111_127 => ?_)
              · skip
                refine j_aload_n 0 dX9_bindsOf_121 rfl rfl ?_
                refine j_getr f_X9_47 r_74_25 dX9_bindsOf_122 ?_
                refine j_iload 7 dX9_bindsOf_125 rfl ?_
                refine j_iload 9 dX9_bindsOf_127 rfl ?_
                refine j_iast a_87 dX9_bindsOf_129 (by omega) (by omega) ?_
                refine j_nmM (fun M_128 eM_128 => ?_)
                have hT : aSt (M_128 87) (v7 + 1) ((cTok (cAllT (tPre M i v8.toNat)) (tAt M i v8)).1.map sgn) ∧ aSt (M_128 88) v6 (rpn (eTest (fAge (M 83) (M 82) h d 0) (fAge (M 83) (M 82) h d 1) (M 80 h) (M 76 m) (M 82 h) m) (cTok (cAllT (tPre M i v8.toNat)) (tAt M i v8)).2) := by rw [eM_128, jup_cell (show (88 : Int) ≠ 87 by decide)]; exact tk_push (by omega) hS hV (by rw [jup_self]; omega) (fun j j0 j1 => by rw [jup_at, if_neg (by omega)])
                obtain ⟨v7_129, ev7_129⟩ : ∃ y : Int, y = v7 + 1 := ⟨_, rfl⟩
                refine j_iinc (y := v7_129) (ls' := [(0, jR 74), (1, jI i), (2, jI h), (3, jI m), (4, jI d), (5, jI v5_1), (6, jI v6), (7, jI v7_129), (8, jI v8), (9, jI v9_126)]) 7 dX9_bindsOf_130 rfl ev7_129 (by omega) (by decide) rfl ?_
                refine j_goto (tgt := 407) dX9_bindsOf_133 (by decide) ?_
                obtain ⟨v8_130, ev8_130⟩ : ∃ y : Int, y = v8 + 1 := ⟨_, rfl⟩
                refine j_iinc (y := v8_130) (ls' := [(0, jR 74), (1, jI i), (2, jI h), (3, jI m), (4, jI d), (5, jI v5_1), (6, jI v6), (7, jI v7_129), (8, jI v8_130), (9, jI v9_126)]) 8 dX9_bindsOf_407 rfl ev8_130 (by omega) (by decide) rfl ?_
                refine j_goto (tgt := 71) dX9_bindsOf_410 (by decide) ?_
                refine j_sub (ls' := [(0, jR 74), (1, jI i), (2, jI h), (3, jI m), (4, jI d), (5, jI v5_1), (6, jI v6), (7, jI v7_129), (8, jI v8_130)]) [0, 1, 2, 3, 4, 5, 6, 7, 8] rfl ?_
                exact ih71 v6 v7_129 v8_130 M_128 ⟨by omega, by rw [ev8_130, cAllT_p M i h8.1]; first | exact hT.1 | (rw [show v7_129 = v7 + 1 by omega]; exact hT.1), by rw [ev8_130, cAllT_p M i h8.1]; exact hT.2, by intro c z1 z2; first | rfl | exact hk c z1 z2 | (rw [eM_128, jup_cell z1]; exact hk c z1 z2) | (rw [eM_128, jup_cell z2]; exact hk c z1 z2) | exact hk1 c z1 z2 | (rw [eM_128, jup_cell z1]; exact hk1 c z1 z2) | (rw [eM_128, jup_cell z2]; exact hk1 c z1 z2) | exact hk3 c z1 z2 | (rw [eM_128, jup_cell z1]; exact hk3 c z1 z2) | (rw [eM_128, jup_cell z2]; exact hk3 c z1 z2)⟩ (by omega)
              · skip
                refine j_iload 9 dX9_bindsOf_114 rfl ?_
                refine j_bipush dX9_bindsOf_116 (by decide) ?_
                refine j_icmp_ne (tgt := 136) dX9_bindsOf_118 (by decide) (fun c118_131 => ?_) (fun c118_131 => ?_)
                · skip
                  refine j_iload 9 dX9_bindsOf_136 rfl ?_
                  refine j_bipush dX9_bindsOf_138 (by decide) ?_
                  refine j_icmp_eq (tgt := 150) dX9_bindsOf_140 (by decide) (fun c140_132 => ?_) (fun c140_132 => ?_)
                  · skip
                    have lp150_133 : ∀ n150 : Nat, ∀ (v6 v7 : Int), ∀ N150 : jM, (bIn (eTest (fAge (M 83) (M 82) h d 0) (fAge (M 83) (M 82) h d 1) (M 80 h) (M 76 m) (M 82 h) m) (bP v9_126) (cAllT (tPre M i v8.toNat)) (N150 87) (N150 88) v7 v6) ∧ (v7 ≤ 47) ∧ (∀ c, c ≠ 87 → c ≠ 88 → N150 c = M c) → v7.toNat < n150 → jG D_X9_bindsOf X FJ shJ 0 0 (jqI (q_X9_bindsOf M i h m d)) 150 [(0, jR 74), (1, jI i), (2, jI h), (3, jI m), (4, jI d), (5, jI v5_1), (6, jI v6), (7, jI v7), (8, jI v8), (9, jI v9_126)] ([]) N150 := by
                      intro n150
                      induction n150 with
                      | zero => intro v6 v7 N150 _ hz; exact absurd hz (Nat.not_lt_zero _)
                      | succ n150 ih150 =>
                        intro v6 v7 N150 hinv hm
                        obtain ⟨hb, h7, hk1⟩ := hinv
                        have hl := bIn_len hE hb
                        have hl1 := hl.1
                        have hl2 := hl.2.1
                        have hl3 := hl.2.2.1
                        have hl4 := hl.2.2.2
                        refine j_iload 7 dX9_bindsOf_150 rfl ?_
                        refine j_if_le (tgt := 234) dX9_bindsOf_152 (by decide) (fun c152_134 => ?_) (fun c152_134 => ?_)
                        · skip
                          have hs := bIn_stop (bP_in _) hb (by first | exact Or.inl (by omega) | exact Or.inr ⟨by omega, fun z => by first | omega | (exfalso; unfold bP at z; rw [if_pos (by omega)] at z; omega)⟩)
                          refine j_aload_n 0 dX9_bindsOf_234 rfl rfl ?_
                          refine j_getr f_X9_47 r_74_25 dX9_bindsOf_235 ?_
                          refine j_iload 7 dX9_bindsOf_238 rfl ?_
                          refine j_iload 9 dX9_bindsOf_240 rfl ?_
                          refine j_iast a_87 dX9_bindsOf_242 (by omega) (by omega) ?_
                          refine j_nmM (fun M_135 eM_135 => ?_)
                          have hT : aSt (M_135 87) (v7 + 1) ((cTok (cAllT (tPre M i v8.toNat)) (tAt M i v8)).1.map sgn) ∧ aSt (M_135 88) v6 (rpn (eTest (fAge (M 83) (M 82) h d 0) (fAge (M 83) (M 82) h d 1) (M 80 h) (M 76 m) (M 82 h) m) (cTok (cAllT (tPre M i v8.toNat)) (tAt M i v8)).2) := by rw [eM_135, jup_cell (show (88 : Int) ≠ 87 by decide)]; exact tk_bin (by omega) (by rw [hc]; exact hs) (by rw [jup_self]; omega) (fun j j0 j1 => by rw [jup_at, if_neg (by omega)])
                          obtain ⟨v7_136, ev7_136⟩ : ∃ y : Int, y = v7 + 1 := ⟨_, rfl⟩
                          refine j_iinc (y := v7_136) (ls' := [(0, jR 74), (1, jI i), (2, jI h), (3, jI m), (4, jI d), (5, jI v5_1), (6, jI v6), (7, jI v7_136), (8, jI v8), (9, jI v9_126)]) 7 dX9_bindsOf_243 rfl ev7_136 (by omega) (by decide) rfl ?_
                          refine j_goto (tgt := 407) dX9_bindsOf_246 (by decide) ?_
                          obtain ⟨v8_137, ev8_137⟩ : ∃ y : Int, y = v8 + 1 := ⟨_, rfl⟩
                          refine j_iinc (y := v8_137) (ls' := [(0, jR 74), (1, jI i), (2, jI h), (3, jI m), (4, jI d), (5, jI v5_1), (6, jI v6), (7, jI v7_136), (8, jI v8_137), (9, jI v9_126)]) 8 dX9_bindsOf_407 rfl ev8_137 (by omega) (by decide) rfl ?_
                          refine j_goto (tgt := 71) dX9_bindsOf_410 (by decide) ?_
                          refine j_sub (ls' := [(0, jR 74), (1, jI i), (2, jI h), (3, jI m), (4, jI d), (5, jI v5_1), (6, jI v6), (7, jI v7_136), (8, jI v8_137)]) [0, 1, 2, 3, 4, 5, 6, 7, 8] rfl ?_
                          exact ih71 v6 v7_136 v8_137 M_135 ⟨by omega, by rw [ev8_137, cAllT_p M i h8.1]; first | exact hT.1 | (rw [show v7_136 = v7 + 1 by omega]; exact hT.1), by rw [ev8_137, cAllT_p M i h8.1]; exact hT.2, by intro c z1 z2; first | rfl | exact hk c z1 z2 | (rw [eM_135, jup_cell z1]; exact hk c z1 z2) | (rw [eM_135, jup_cell z2]; exact hk c z1 z2) | exact hk1 c z1 z2 | (rw [eM_135, jup_cell z1]; exact hk1 c z1 z2) | (rw [eM_135, jup_cell z2]; exact hk1 c z1 z2) | exact hk3 c z1 z2 | (rw [eM_135, jup_cell z1]; exact hk3 c z1 z2) | (rw [eM_135, jup_cell z2]; exact hk3 c z1 z2)⟩ (by omega)
                        · skip
                          refine j_aload_n 0 dX9_bindsOf_155 rfl rfl ?_
                          refine j_getr f_X9_47 r_74_25 dX9_bindsOf_156 ?_
                          refine j_iload 7 dX9_bindsOf_159 rfl ?_
                          refine j_iconst dX9_bindsOf_161 (by decide) ?_
                          refine j_isub dX9_bindsOf_162 (by omega) ?_
                          refine j_iald a_87 dX9_bindsOf_163 (by omega) (by omega) ?_
                          refine j_bipush dX9_bindsOf_164 (by decide) ?_
                          refine j_icmp_eq (tgt := 190) dX9_bindsOf_166 (by decide) (fun c166_138 => ?_) (fun c166_138 => ?_)
                          · skip
                            have hq := bIn_pop (bP_in _) hb (by omega) (by first | exact Or.inl (by omega) | exact Or.inr ⟨by unfold bP; rw [if_neg (by omega)], by omega⟩ | (exfalso; omega))
                            have hq1 := hq.1
                            obtain ⟨v7_139, ev7_139⟩ : ∃ y : Int, y = v7 + (-1) := ⟨_, rfl⟩
                            refine j_iinc (y := v7_139) (ls' := [(0, jR 74), (1, jI i), (2, jI h), (3, jI m), (4, jI d), (5, jI v5_1), (6, jI v6), (7, jI v7_139), (8, jI v8), (9, jI v9_126)]) 7 dX9_bindsOf_190 rfl ev7_139 (by omega) (by decide) rfl ?_
                            obtain ⟨v6_140, ev6_140⟩ : ∃ y : Int, y = v6 + (-1) := ⟨_, rfl⟩
                            refine j_iinc (y := v6_140) (ls' := [(0, jR 74), (1, jI i), (2, jI h), (3, jI m), (4, jI d), (5, jI v5_1), (6, jI v6_140), (7, jI v7_139), (8, jI v8), (9, jI v9_126)]) 6 dX9_bindsOf_193 rfl ev6_140 (by omega) (by decide) rfl ?_
                            refine j_aload_n 0 dX9_bindsOf_196 rfl rfl ?_
                            refine j_getr f_X9_50 r_74_26 dX9_bindsOf_197 ?_
                            refine j_iload 6 dX9_bindsOf_200 rfl ?_
                            refine j_iconst dX9_bindsOf_202 (by decide) ?_
                            refine j_isub dX9_bindsOf_203 (by omega) ?_
                            refine j_aload_n 0 dX9_bindsOf_204 rfl rfl ?_
                            refine j_getr f_X9_47 r_74_25 dX9_bindsOf_205 ?_
                            refine j_iload 7 dX9_bindsOf_208 rfl ?_
                            refine j_iald a_87 dX9_bindsOf_210 (by omega) (by omega) ?_
                            refine j_aload_n 0 dX9_bindsOf_211 rfl rfl ?_
                            refine j_getr f_X9_50 r_74_26 dX9_bindsOf_212 ?_
                            refine j_iload 6 dX9_bindsOf_215 rfl ?_
                            refine j_iconst dX9_bindsOf_217 (by decide) ?_
                            refine j_isub dX9_bindsOf_218 (by omega) ?_
                            refine j_iald a_88 dX9_bindsOf_219 (by omega) (by omega) ?_
                            refine j_aload_n 0 dX9_bindsOf_220 rfl rfl ?_
                            refine j_getr f_X9_50 r_74_26 dX9_bindsOf_221 ?_
                            refine j_iload 6 dX9_bindsOf_224 rfl ?_
                            refine j_iald a_88 dX9_bindsOf_226 (by omega) (by omega) ?_
                            refine j_callSi l_X9_255 ⟨Nat.le_of_ble_eq_true rfl, Nat.le_of_ble_eq_true rfl⟩ ⟨rfl, rfl⟩ dX9_bindsOf_227 (c_X9_joins N150 ((N150 87 v7_139)) ((N150 88 (v6_140 - 1))) ((N150 88 v6_140))) rfl rfl (Nat.le_of_ble_eq_true rfl) (fun r_141 M_142 h_143 => ?_)
                            obtain ⟨er_141, nh_143⟩ := h_143
                            refine j_eqM nh_143 ?_
                            clear nh_143
                            refine j_iast a_88 dX9_bindsOf_230 (by omega) (by omega) ?_
                            refine j_nmM (fun M_144 eM_144 => ?_)
                            refine j_goto (tgt := 150) dX9_bindsOf_231 (by decide) ?_
                            exact ih150 v6_140 v7_139 M_144 ⟨by (have eq7 : v7_139 = v7 - 1 := by omega); (have eq6 : v6_140 = v6 - 1 := by omega); rw [eM_144, jup_cell (show (87 : Int) ≠ 88 by decide), er_141, eq7, eq6]; exact hq.2 _ (by rw [show v6 - 2 = v6 - 1 - 1 by omega, jup_self]) (fun j j0 j1 => by rw [jup_at, if_neg (by omega)]), by omega, by intro c z1 z2; first | rfl | exact hk1 c z1 z2 | (rw [eM_144, jup_cell z1]; exact hk1 c z1 z2) | (rw [eM_144, jup_cell z2]; exact hk1 c z1 z2)⟩ (by omega)
                          · skip
                            refine j_iload 9 dX9_bindsOf_169 rfl ?_
                            refine j_bipush dX9_bindsOf_171 (by decide) ?_
                            refine j_icmp_ne (tgt := 234) dX9_bindsOf_173 (by decide) (fun c173_145 => ?_) (fun c173_145 => ?_)
                            · skip
                              have hs := bIn_stop (bP_in _) hb (by first | exact Or.inl (by omega) | exact Or.inr ⟨by omega, fun z => by first | omega | (exfalso; unfold bP at z; rw [if_pos (by omega)] at z; omega)⟩)
                              refine j_aload_n 0 dX9_bindsOf_234 rfl rfl ?_
                              refine j_getr f_X9_47 r_74_25 dX9_bindsOf_235 ?_
                              refine j_iload 7 dX9_bindsOf_238 rfl ?_
                              refine j_iload 9 dX9_bindsOf_240 rfl ?_
                              refine j_iast a_87 dX9_bindsOf_242 (by omega) (by omega) ?_
                              refine j_nmM (fun M_146 eM_146 => ?_)
                              have hT : aSt (M_146 87) (v7 + 1) ((cTok (cAllT (tPre M i v8.toNat)) (tAt M i v8)).1.map sgn) ∧ aSt (M_146 88) v6 (rpn (eTest (fAge (M 83) (M 82) h d 0) (fAge (M 83) (M 82) h d 1) (M 80 h) (M 76 m) (M 82 h) m) (cTok (cAllT (tPre M i v8.toNat)) (tAt M i v8)).2) := by rw [eM_146, jup_cell (show (88 : Int) ≠ 87 by decide)]; exact tk_bin (by omega) (by rw [hc]; exact hs) (by rw [jup_self]; omega) (fun j j0 j1 => by rw [jup_at, if_neg (by omega)])
                              obtain ⟨v7_147, ev7_147⟩ : ∃ y : Int, y = v7 + 1 := ⟨_, rfl⟩
                              refine j_iinc (y := v7_147) (ls' := [(0, jR 74), (1, jI i), (2, jI h), (3, jI m), (4, jI d), (5, jI v5_1), (6, jI v6), (7, jI v7_147), (8, jI v8), (9, jI v9_126)]) 7 dX9_bindsOf_243 rfl ev7_147 (by omega) (by decide) rfl ?_
                              refine j_goto (tgt := 407) dX9_bindsOf_246 (by decide) ?_
                              obtain ⟨v8_148, ev8_148⟩ : ∃ y : Int, y = v8 + 1 := ⟨_, rfl⟩
                              refine j_iinc (y := v8_148) (ls' := [(0, jR 74), (1, jI i), (2, jI h), (3, jI m), (4, jI d), (5, jI v5_1), (6, jI v6), (7, jI v7_147), (8, jI v8_148), (9, jI v9_126)]) 8 dX9_bindsOf_407 rfl ev8_148 (by omega) (by decide) rfl ?_
                              refine j_goto (tgt := 71) dX9_bindsOf_410 (by decide) ?_
                              refine j_sub (ls' := [(0, jR 74), (1, jI i), (2, jI h), (3, jI m), (4, jI d), (5, jI v5_1), (6, jI v6), (7, jI v7_147), (8, jI v8_148)]) [0, 1, 2, 3, 4, 5, 6, 7, 8] rfl ?_
                              exact ih71 v6 v7_147 v8_148 M_146 ⟨by omega, by rw [ev8_148, cAllT_p M i h8.1]; first | exact hT.1 | (rw [show v7_147 = v7 + 1 by omega]; exact hT.1), by rw [ev8_148, cAllT_p M i h8.1]; exact hT.2, by intro c z1 z2; first | rfl | exact hk c z1 z2 | (rw [eM_146, jup_cell z1]; exact hk c z1 z2) | (rw [eM_146, jup_cell z2]; exact hk c z1 z2) | exact hk1 c z1 z2 | (rw [eM_146, jup_cell z1]; exact hk1 c z1 z2) | (rw [eM_146, jup_cell z2]; exact hk1 c z1 z2) | exact hk3 c z1 z2 | (rw [eM_146, jup_cell z1]; exact hk3 c z1 z2) | (rw [eM_146, jup_cell z2]; exact hk3 c z1 z2)⟩ (by omega)
                            · skip
                              refine j_aload_n 0 dX9_bindsOf_176 rfl rfl ?_
                              refine j_getr f_X9_47 r_74_25 dX9_bindsOf_177 ?_
                              refine j_iload 7 dX9_bindsOf_180 rfl ?_
                              refine j_iconst dX9_bindsOf_182 (by decide) ?_
                              refine j_isub dX9_bindsOf_183 (by omega) ?_
                              refine j_iald a_87 dX9_bindsOf_184 (by omega) (by omega) ?_
                              refine j_bipush dX9_bindsOf_185 (by decide) ?_
                              refine j_icmp_ne (tgt := 234) dX9_bindsOf_187 (by decide) (fun c187_149 => ?_) (fun c187_149 => ?_)
                              · skip
                                have hs := bIn_stop (bP_in _) hb (by first | exact Or.inl (by omega) | exact Or.inr ⟨by omega, fun z => by first | omega | (exfalso; unfold bP at z; rw [if_pos (by omega)] at z; omega)⟩)
                                refine j_aload_n 0 dX9_bindsOf_234 rfl rfl ?_
                                refine j_getr f_X9_47 r_74_25 dX9_bindsOf_235 ?_
                                refine j_iload 7 dX9_bindsOf_238 rfl ?_
                                refine j_iload 9 dX9_bindsOf_240 rfl ?_
                                refine j_iast a_87 dX9_bindsOf_242 (by omega) (by omega) ?_
                                refine j_nmM (fun M_150 eM_150 => ?_)
                                have hT : aSt (M_150 87) (v7 + 1) ((cTok (cAllT (tPre M i v8.toNat)) (tAt M i v8)).1.map sgn) ∧ aSt (M_150 88) v6 (rpn (eTest (fAge (M 83) (M 82) h d 0) (fAge (M 83) (M 82) h d 1) (M 80 h) (M 76 m) (M 82 h) m) (cTok (cAllT (tPre M i v8.toNat)) (tAt M i v8)).2) := by rw [eM_150, jup_cell (show (88 : Int) ≠ 87 by decide)]; exact tk_bin (by omega) (by rw [hc]; exact hs) (by rw [jup_self]; omega) (fun j j0 j1 => by rw [jup_at, if_neg (by omega)])
                                obtain ⟨v7_151, ev7_151⟩ : ∃ y : Int, y = v7 + 1 := ⟨_, rfl⟩
                                refine j_iinc (y := v7_151) (ls' := [(0, jR 74), (1, jI i), (2, jI h), (3, jI m), (4, jI d), (5, jI v5_1), (6, jI v6), (7, jI v7_151), (8, jI v8), (9, jI v9_126)]) 7 dX9_bindsOf_243 rfl ev7_151 (by omega) (by decide) rfl ?_
                                refine j_goto (tgt := 407) dX9_bindsOf_246 (by decide) ?_
                                obtain ⟨v8_152, ev8_152⟩ : ∃ y : Int, y = v8 + 1 := ⟨_, rfl⟩
                                refine j_iinc (y := v8_152) (ls' := [(0, jR 74), (1, jI i), (2, jI h), (3, jI m), (4, jI d), (5, jI v5_1), (6, jI v6), (7, jI v7_151), (8, jI v8_152), (9, jI v9_126)]) 8 dX9_bindsOf_407 rfl ev8_152 (by omega) (by decide) rfl ?_
                                refine j_goto (tgt := 71) dX9_bindsOf_410 (by decide) ?_
                                refine j_sub (ls' := [(0, jR 74), (1, jI i), (2, jI h), (3, jI m), (4, jI d), (5, jI v5_1), (6, jI v6), (7, jI v7_151), (8, jI v8_152)]) [0, 1, 2, 3, 4, 5, 6, 7, 8] rfl ?_
                                exact ih71 v6 v7_151 v8_152 M_150 ⟨by omega, by rw [ev8_152, cAllT_p M i h8.1]; first | exact hT.1 | (rw [show v7_151 = v7 + 1 by omega]; exact hT.1), by rw [ev8_152, cAllT_p M i h8.1]; exact hT.2, by intro c z1 z2; first | rfl | exact hk c z1 z2 | (rw [eM_150, jup_cell z1]; exact hk c z1 z2) | (rw [eM_150, jup_cell z2]; exact hk c z1 z2) | exact hk1 c z1 z2 | (rw [eM_150, jup_cell z1]; exact hk1 c z1 z2) | (rw [eM_150, jup_cell z2]; exact hk1 c z1 z2) | exact hk3 c z1 z2 | (rw [eM_150, jup_cell z1]; exact hk3 c z1 z2) | (rw [eM_150, jup_cell z2]; exact hk3 c z1 z2)⟩ (by omega)
                              · skip
                                have hq := bIn_pop (bP_in _) hb (by omega) (by first | exact Or.inl (by omega) | exact Or.inr ⟨by unfold bP; rw [if_neg (by omega)], by omega⟩ | (exfalso; omega))
                                have hq1 := hq.1
                                obtain ⟨v7_153, ev7_153⟩ : ∃ y : Int, y = v7 + (-1) := ⟨_, rfl⟩
                                refine j_iinc (y := v7_153) (ls' := [(0, jR 74), (1, jI i), (2, jI h), (3, jI m), (4, jI d), (5, jI v5_1), (6, jI v6), (7, jI v7_153), (8, jI v8), (9, jI v9_126)]) 7 dX9_bindsOf_190 rfl ev7_153 (by omega) (by decide) rfl ?_
                                obtain ⟨v6_154, ev6_154⟩ : ∃ y : Int, y = v6 + (-1) := ⟨_, rfl⟩
                                refine j_iinc (y := v6_154) (ls' := [(0, jR 74), (1, jI i), (2, jI h), (3, jI m), (4, jI d), (5, jI v5_1), (6, jI v6_154), (7, jI v7_153), (8, jI v8), (9, jI v9_126)]) 6 dX9_bindsOf_193 rfl ev6_154 (by omega) (by decide) rfl ?_
                                refine j_aload_n 0 dX9_bindsOf_196 rfl rfl ?_
                                refine j_getr f_X9_50 r_74_26 dX9_bindsOf_197 ?_
                                refine j_iload 6 dX9_bindsOf_200 rfl ?_
                                refine j_iconst dX9_bindsOf_202 (by decide) ?_
                                refine j_isub dX9_bindsOf_203 (by omega) ?_
                                refine j_aload_n 0 dX9_bindsOf_204 rfl rfl ?_
                                refine j_getr f_X9_47 r_74_25 dX9_bindsOf_205 ?_
                                refine j_iload 7 dX9_bindsOf_208 rfl ?_
                                refine j_iald a_87 dX9_bindsOf_210 (by omega) (by omega) ?_
                                refine j_aload_n 0 dX9_bindsOf_211 rfl rfl ?_
                                refine j_getr f_X9_50 r_74_26 dX9_bindsOf_212 ?_
                                refine j_iload 6 dX9_bindsOf_215 rfl ?_
                                refine j_iconst dX9_bindsOf_217 (by decide) ?_
                                refine j_isub dX9_bindsOf_218 (by omega) ?_
                                refine j_iald a_88 dX9_bindsOf_219 (by omega) (by omega) ?_
                                refine j_aload_n 0 dX9_bindsOf_220 rfl rfl ?_
                                refine j_getr f_X9_50 r_74_26 dX9_bindsOf_221 ?_
                                refine j_iload 6 dX9_bindsOf_224 rfl ?_
                                refine j_iald a_88 dX9_bindsOf_226 (by omega) (by omega) ?_
                                refine j_callSi l_X9_255 ⟨Nat.le_of_ble_eq_true rfl, Nat.le_of_ble_eq_true rfl⟩ ⟨rfl, rfl⟩ dX9_bindsOf_227 (c_X9_joins N150 ((N150 87 v7_153)) ((N150 88 (v6_154 - 1))) ((N150 88 v6_154))) rfl rfl (Nat.le_of_ble_eq_true rfl) (fun r_155 M_156 h_157 => ?_)
                                obtain ⟨er_155, nh_157⟩ := h_157
                                refine j_eqM nh_157 ?_
                                clear nh_157
                                refine j_iast a_88 dX9_bindsOf_230 (by omega) (by omega) ?_
                                refine j_nmM (fun M_158 eM_158 => ?_)
                                refine j_goto (tgt := 150) dX9_bindsOf_231 (by decide) ?_
                                exact ih150 v6_154 v7_153 M_158 ⟨by (have eq7 : v7_153 = v7 - 1 := by omega); (have eq6 : v6_154 = v6 - 1 := by omega); rw [eM_158, jup_cell (show (87 : Int) ≠ 88 by decide), er_155, eq7, eq6]; exact hq.2 _ (by rw [show v6 - 2 = v6 - 1 - 1 by omega, jup_self]) (fun j j0 j1 => by rw [jup_at, if_neg (by omega)]), by omega, by intro c z1 z2; first | rfl | exact hk1 c z1 z2 | (rw [eM_158, jup_cell z1]; exact hk1 c z1 z2) | (rw [eM_158, jup_cell z2]; exact hk1 c z1 z2)⟩ (by omega)
                    exact lp150_133 _ v6 v7 N71 ⟨by exact bIn_mk ht.1 (fun _ => (ht.2.2.1 (by omega)).1) (ht.2.2.1 (by omega)).2 hS hV, by omega, by exact hk⟩ (Nat.lt_succ_self _)
                  · skip
                    refine j_iload 9 dX9_bindsOf_143 rfl ?_
                    refine j_bipush dX9_bindsOf_145 (by decide) ?_
                    refine j_icmp_ne (tgt := 249) dX9_bindsOf_147 (by decide) (fun c147_159 => ?_) (fun c147_159 => ?_)
                    · skip
                      refine j_iload 9 dX9_bindsOf_249 rfl ?_
                      refine j_bipush dX9_bindsOf_251 (by decide) ?_
                      refine j_icmp_ne (tgt := 320) dX9_bindsOf_253 (by decide) (fun c253_160 => ?_) (fun c253_160 => ?_)
                      · skip
                        refine j_aload_n 0 dX9_bindsOf_320 rfl rfl ?_
                        refine j_getr f_X9_50 r_74_26 dX9_bindsOf_321 ?_
                        refine j_iload 6 dX9_bindsOf_324 rfl ?_
                        refine j_aload_n 0 dX9_bindsOf_326 rfl rfl ?_
                        refine j_iload 9 dX9_bindsOf_327 rfl ?_
                        refine j_aload_n 0 dX9_bindsOf_329 rfl rfl ?_
                        refine j_getr f_X9_44 r_74_23 dX9_bindsOf_330 ?_
                        refine j_iconst dX9_bindsOf_333 (by decide) ?_
                        refine j_aload_n 0 dX9_bindsOf_334 rfl rfl ?_
                        refine j_getr f_X9_41 r_74_22 dX9_bindsOf_335 ?_
                        refine j_iload 5 dX9_bindsOf_338 rfl ?_
                        refine j_bipush dX9_bindsOf_340 (by decide) ?_
                        refine j_iadd dX9_bindsOf_342 (by omega) ?_
                        refine j_iald a_85 dX9_bindsOf_343 (by omega) (by omega) ?_
                        refine j_eq (congrFun (hk 85 (by decide) (by decide)) (v5_1 + 13)) ?_
                        refine j_iload 8 dX9_bindsOf_344 rfl ?_
                        refine j_iadd dX9_bindsOf_346 (by omega) ?_
                        refine j_imul dX9_bindsOf_347 (by omega) ?_
                        refine j_iconst dX9_bindsOf_348 (by decide) ?_
                        refine j_iadd dX9_bindsOf_349 (by omega) ?_
                        refine j_iald a_86 dX9_bindsOf_350 (by omega) (by omega) ?_
                        refine j_eq (congrFun (hk 86 (by decide) (by decide)) ((2 * ((M 85 (v5_1 + 13)) + v8)) + 1)) ?_
                        refine j_iload_n 2 dX9_bindsOf_351 rfl rfl ?_
                        refine j_iload_n 3 dX9_bindsOf_352 rfl rfl ?_
                        refine j_iload 4 dX9_bindsOf_353 rfl ?_
                        refine j_callVi l_X9_258 ⟨Nat.le_of_ble_eq_true rfl, Nat.le_of_ble_eq_true rfl⟩ ⟨rfl, rfl⟩ dX9_bindsOf_355 ob_74 (c_X9_partOf N71 v9_126 ((M 86 ((2 * ((M 85 (v5_1 + 13)) + v8)) + 1))) h m d (by rw [(hk 80 (by decide) (by decide))]; exact h_rkind) (by rw [(hk 76 (by decide) (by decide))]; exact h_rtrade) (by rw [(hk 82 (by decide) (by decide))]; exact h_rpapers) (by rw [(hk 83 (by decide) (by decide))]; exact h_rpaper) (by first | assumption | omega) (by first | assumption | omega) (by first | assumption | omega)) rfl rfl (Nat.le_of_ble_eq_true rfl) (fun r_161 M_162 h_163 => ?_)
                        obtain ⟨er_161, nh_163⟩ := h_163
                        refine j_eqM nh_163 ?_
                        clear nh_163
                        simp only [(hk 83 (by decide) (by decide)), (hk 82 (by decide) (by decide)), (hk 80 (by decide) (by decide)), (hk 76 (by decide) (by decide))] at er_161
                        refine j_iast a_88 dX9_bindsOf_358 (by omega) (by omega) ?_
                        refine j_nmM (fun M_164 eM_164 => ?_)
                        obtain ⟨v6_165, ev6_165⟩ : ∃ y : Int, y = v6 + 1 := ⟨_, rfl⟩
                        refine j_iinc (y := v6_165) (ls' := [(0, jR 74), (1, jI i), (2, jI h), (3, jI m), (4, jI d), (5, jI v5_1), (6, jI v6_165), (7, jI v7), (8, jI v8), (9, jI v9_126)]) 6 dX9_bindsOf_359 rfl ev6_165 (by omega) (by decide) rfl ?_
                        have lp362_166 : ∀ n362 : Nat, ∀ (v7 : Int), ∀ N362 : jM, (bIn (eTest (fAge (M 83) (M 82) h d 0) (fAge (M 83) (M 82) h d 1) (M 80 h) (M 76 m) (M 82 h) m) 3 (bZ3 (cAllT (tPre M i v8.toNat)) (tAt M i v8)) (N362 87) (N362 88) v7 v6_165) ∧ (v7 ≤ 47) ∧ (∀ c, c ≠ 87 → c ≠ 88 → N362 c = M c) → v7.toNat < n362 → jG D_X9_bindsOf X FJ shJ 0 0 (jqI (q_X9_bindsOf M i h m d)) 362 [(0, jR 74), (1, jI i), (2, jI h), (3, jI m), (4, jI d), (5, jI v5_1), (6, jI v6_165), (7, jI v7), (8, jI v8), (9, jI v9_126)] ([]) N362 := by
                          intro n362
                          induction n362 with
                          | zero => intro v7 N362 _ hz; exact absurd hz (Nat.not_lt_zero _)
                          | succ n362 ih362 =>
                            intro v7 N362 hinv hm
                            obtain ⟨hb, h7, hk3⟩ := hinv
                            have hl := bIn_len hE hb
                            have hl1 := hl.1
                            have hl2 := hl.2.1
                            have hl3 := hl.2.2.1
                            have hl4 := hl.2.2.2
                            refine j_iload 7 dX9_bindsOf_362 rfl ?_
                            refine j_if_le (tgt := 407) dX9_bindsOf_364 (by decide) (fun c364_167 => ?_) (fun c364_167 => ?_)
                            · skip
                              have hT : aSt (N362 87) v7 ((cTok (cAllT (tPre M i v8.toNat)) (tAt M i v8)).1.map sgn) ∧ aSt (N362 88) v6_165 (rpn (eTest (fAge (M 83) (M 82) h d 0) (fAge (M 83) (M 82) h d 1) (M 80 h) (M 76 m) (M 82 h) m) (cTok (cAllT (tPre M i v8.toNat)) (tAt M i v8)).2) := by rw [tk_3 (by omega) (by omega) (by omega) (by omega)]; exact bIn_nst hb (by omega)
                              obtain ⟨v8_168, ev8_168⟩ : ∃ y : Int, y = v8 + 1 := ⟨_, rfl⟩
                              refine j_iinc (y := v8_168) (ls' := [(0, jR 74), (1, jI i), (2, jI h), (3, jI m), (4, jI d), (5, jI v5_1), (6, jI v6_165), (7, jI v7), (8, jI v8_168), (9, jI v9_126)]) 8 dX9_bindsOf_407 rfl ev8_168 (by omega) (by decide) rfl ?_
                              refine j_goto (tgt := 71) dX9_bindsOf_410 (by decide) ?_
                              refine j_sub (ls' := [(0, jR 74), (1, jI i), (2, jI h), (3, jI m), (4, jI d), (5, jI v5_1), (6, jI v6_165), (7, jI v7), (8, jI v8_168)]) [0, 1, 2, 3, 4, 5, 6, 7, 8] rfl ?_
                              exact ih71 v6_165 v7 v8_168 N362 ⟨by omega, by rw [ev8_168, cAllT_p M i h8.1]; first | exact hT.1 | (rw [show v7 = v7 + 1 by omega]; exact hT.1), by rw [ev8_168, cAllT_p M i h8.1]; exact hT.2, by intro c z1 z2; first | rfl | exact hk c z1 z2 | (rw [jup_zz, jup_cell z1]; exact hk c z1 z2) | (rw [jup_zz, jup_cell z2]; exact hk c z1 z2) | exact hk1 c z1 z2 | (rw [jup_zz, jup_cell z1]; exact hk1 c z1 z2) | (rw [jup_zz, jup_cell z2]; exact hk1 c z1 z2) | exact hk3 c z1 z2 | (rw [jup_zz, jup_cell z1]; exact hk3 c z1 z2) | (rw [jup_zz, jup_cell z2]; exact hk3 c z1 z2)⟩ (by omega)
                            · skip
                              refine j_aload_n 0 dX9_bindsOf_367 rfl rfl ?_
                              refine j_getr f_X9_47 r_74_25 dX9_bindsOf_368 ?_
                              refine j_iload 7 dX9_bindsOf_371 rfl ?_
                              refine j_iconst dX9_bindsOf_373 (by decide) ?_
                              refine j_isub dX9_bindsOf_374 (by omega) ?_
                              refine j_iald a_87 dX9_bindsOf_375 (by omega) (by omega) ?_
                              refine j_bipush dX9_bindsOf_376 (by decide) ?_
                              refine j_icmp_ne (tgt := 407) dX9_bindsOf_378 (by decide) (fun c378_169 => ?_) (fun c378_169 => ?_)
                              · skip
                                have hT : aSt (N362 87) v7 ((cTok (cAllT (tPre M i v8.toNat)) (tAt M i v8)).1.map sgn) ∧ aSt (N362 88) v6_165 (rpn (eTest (fAge (M 83) (M 82) h d 0) (fAge (M 83) (M 82) h d 1) (M 80 h) (M 76 m) (M 82 h) m) (cTok (cAllT (tPre M i v8.toNat)) (tAt M i v8)).2) := by rw [tk_3 (by omega) (by omega) (by omega) (by omega)]; exact bIn_nst hb (by omega)
                                obtain ⟨v8_170, ev8_170⟩ : ∃ y : Int, y = v8 + 1 := ⟨_, rfl⟩
                                refine j_iinc (y := v8_170) (ls' := [(0, jR 74), (1, jI i), (2, jI h), (3, jI m), (4, jI d), (5, jI v5_1), (6, jI v6_165), (7, jI v7), (8, jI v8_170), (9, jI v9_126)]) 8 dX9_bindsOf_407 rfl ev8_170 (by omega) (by decide) rfl ?_
                                refine j_goto (tgt := 71) dX9_bindsOf_410 (by decide) ?_
                                refine j_sub (ls' := [(0, jR 74), (1, jI i), (2, jI h), (3, jI m), (4, jI d), (5, jI v5_1), (6, jI v6_165), (7, jI v7), (8, jI v8_170)]) [0, 1, 2, 3, 4, 5, 6, 7, 8] rfl ?_
                                exact ih71 v6_165 v7 v8_170 N362 ⟨by omega, by rw [ev8_170, cAllT_p M i h8.1]; first | exact hT.1 | (rw [show v7 = v7 + 1 by omega]; exact hT.1), by rw [ev8_170, cAllT_p M i h8.1]; exact hT.2, by intro c z1 z2; first | rfl | exact hk c z1 z2 | (rw [jup_zz, jup_cell z1]; exact hk c z1 z2) | (rw [jup_zz, jup_cell z2]; exact hk c z1 z2) | exact hk1 c z1 z2 | (rw [jup_zz, jup_cell z1]; exact hk1 c z1 z2) | (rw [jup_zz, jup_cell z2]; exact hk1 c z1 z2) | exact hk3 c z1 z2 | (rw [jup_zz, jup_cell z1]; exact hk3 c z1 z2) | (rw [jup_zz, jup_cell z2]; exact hk3 c z1 z2)⟩ (by omega)
                              · skip
                                have hy := hl4 (v6_165 - 1) (by omega) (by omega)
                                refine j_aload_n 0 dX9_bindsOf_381 rfl rfl ?_
                                refine j_getr f_X9_50 r_74_26 dX9_bindsOf_382 ?_
                                refine j_iload 6 dX9_bindsOf_385 rfl ?_
                                refine j_iconst dX9_bindsOf_387 (by decide) ?_
                                refine j_isub dX9_bindsOf_388 (by omega) ?_
                                refine j_iconst dX9_bindsOf_389 (by decide) ?_
                                refine j_aload_n 0 dX9_bindsOf_390 rfl rfl ?_
                                refine j_getr f_X9_50 r_74_26 dX9_bindsOf_391 ?_
                                refine j_iload 6 dX9_bindsOf_394 rfl ?_
                                refine j_iconst dX9_bindsOf_396 (by decide) ?_
                                refine j_isub dX9_bindsOf_397 (by omega) ?_
                                refine j_iald a_88 dX9_bindsOf_398 (by omega) (by omega) ?_
                                refine j_isub dX9_bindsOf_399 (by omega) ?_
                                refine j_iast a_88 dX9_bindsOf_400 (by omega) (by omega) ?_
                                refine j_nmM (fun M_171 eM_171 => ?_)
                                obtain ⟨v7_172, ev7_172⟩ : ∃ y : Int, y = v7 + (-1) := ⟨_, rfl⟩
                                refine j_iinc (y := v7_172) (ls' := [(0, jR 74), (1, jI i), (2, jI h), (3, jI m), (4, jI d), (5, jI v5_1), (6, jI v6_165), (7, jI v7_172), (8, jI v8), (9, jI v9_126)]) 7 dX9_bindsOf_401 rfl ev7_172 (by omega) (by decide) rfl ?_
                                refine j_goto (tgt := 362) dX9_bindsOf_404 (by decide) ?_
                                exact ih362 v7_172 M_171 ⟨by rw [eM_171, jup_cell (show (87 : Int) ≠ 88 by decide), show v7_172 = v7 - 1 by omega]; exact bIn_not hb (by omega) (by omega) _ (by rw [jup_self]) (fun j j0 j1 => by rw [jup_at, if_neg (by omega)]), by omega, by intro c z1 z2; first | rfl | exact hk3 c z1 z2 | (rw [eM_171, jup_cell z1]; exact hk3 c z1 z2) | (rw [eM_171, jup_cell z2]; exact hk3 c z1 z2)⟩ (by omega)
                        exact lp362_166 _ v7 M_164 ⟨by first | (rw [show v7 = v7 - 1 by omega]; exact tk_close (by omega) ht.1 (ht.2.2.1 (by omega)).1 (ht.2.2.1 (by omega)).2 (ht.2.2.2.1 (by omega)) (bIn_stop (Or.inl rfl) hb (Or.inr ⟨by omega, fun _ => by omega⟩))) | (rw [eM_164, jup_cell (show (87 : Int) ≠ 88 by decide), show v6_165 = v6 + 1 by omega]; exact tk_test (by omega) (by omega) ht.1 (by omega) (by omega) hS hV (by rw [jup_self, er_161, hc, hc2]) (fun j j0 j1 => by rw [jup_at, if_neg (by omega)])), by omega, by intro c z1 z2; first | rfl | exact hk2 c z1 z2 | (rw [eM_164, jup_cell z1]; exact hk2 c z1 z2) | (rw [eM_164, jup_cell z2]; exact hk2 c z1 z2) | exact hk c z1 z2 | (rw [eM_164, jup_cell z1]; exact hk c z1 z2) | (rw [eM_164, jup_cell z2]; exact hk c z1 z2)⟩ (Nat.lt_succ_self _)
                      · skip
                        have lp256_173 : ∀ n256 : Nat, ∀ (v6 v7 : Int), ∀ N256 : jM, (bIn (eTest (fAge (M 83) (M 82) h d 0) (fAge (M 83) (M 82) h d 1) (M 80 h) (M 76 m) (M 82 h) m) 1 (cAllT (tPre M i v8.toNat)) (N256 87) (N256 88) v7 v6) ∧ (v7 ≤ 47) ∧ (∀ c, c ≠ 87 → c ≠ 88 → N256 c = M c) → v7.toNat < n256 → jG D_X9_bindsOf X FJ shJ 0 0 (jqI (q_X9_bindsOf M i h m d)) 256 [(0, jR 74), (1, jI i), (2, jI h), (3, jI m), (4, jI d), (5, jI v5_1), (6, jI v6), (7, jI v7), (8, jI v8), (9, jI v9_126)] ([]) N256 := by
                          intro n256
                          induction n256 with
                          | zero => intro v6 v7 N256 _ hz; exact absurd hz (Nat.not_lt_zero _)
                          | succ n256 ih256 =>
                            intro v6 v7 N256 hinv hm
                            obtain ⟨hb, h7, hk2⟩ := hinv
                            have hl := bIn_len hE hb
                            have hl1 := hl.1
                            have hl2 := hl.2.1
                            have hl3 := hl.2.2.1
                            have hl4 := hl.2.2.2
                            have ho := bIn_open hb (ht.2.2.2.1 (by omega))
                            refine j_aload_n 0 dX9_bindsOf_256 rfl rfl ?_
                            refine j_getr f_X9_47 r_74_25 dX9_bindsOf_257 ?_
                            refine j_iload 7 dX9_bindsOf_260 rfl ?_
                            refine j_iconst dX9_bindsOf_262 (by decide) ?_
                            refine j_isub dX9_bindsOf_263 (by omega) ?_
                            refine j_iald a_87 dX9_bindsOf_264 (by omega) (by omega) ?_
                            refine j_bipush dX9_bindsOf_265 (by decide) ?_
                            refine j_icmp_eq (tgt := 314) dX9_bindsOf_267 (by decide) (fun c267_174 => ?_) (fun c267_174 => ?_)
                            · skip
                              obtain ⟨v7_175, ev7_175⟩ : ∃ y : Int, y = v7 + (-1) := ⟨_, rfl⟩
                              refine j_iinc (y := v7_175) (ls' := [(0, jR 74), (1, jI i), (2, jI h), (3, jI m), (4, jI d), (5, jI v5_1), (6, jI v6), (7, jI v7_175), (8, jI v8), (9, jI v9_126)]) 7 dX9_bindsOf_314 rfl ev7_175 (by omega) (by decide) rfl ?_
                              refine j_goto (tgt := 362) dX9_bindsOf_317 (by decide) ?_
                              have lp362_176 : ∀ n362 : Nat, ∀ (v7 : Int), ∀ N362 : jM, (bIn (eTest (fAge (M 83) (M 82) h d 0) (fAge (M 83) (M 82) h d 1) (M 80 h) (M 76 m) (M 82 h) m) 3 (bZ3 (cAllT (tPre M i v8.toNat)) (tAt M i v8)) (N362 87) (N362 88) v7 v6) ∧ (v7 ≤ 47) ∧ (∀ c, c ≠ 87 → c ≠ 88 → N362 c = M c) → v7.toNat < n362 → jG D_X9_bindsOf X FJ shJ 0 0 (jqI (q_X9_bindsOf M i h m d)) 362 [(0, jR 74), (1, jI i), (2, jI h), (3, jI m), (4, jI d), (5, jI v5_1), (6, jI v6), (7, jI v7), (8, jI v8), (9, jI v9_126)] ([]) N362 := by
                                intro n362
                                induction n362 with
                                | zero => intro v7 N362 _ hz; exact absurd hz (Nat.not_lt_zero _)
                                | succ n362 ih362 =>
                                  intro v7 N362 hinv hm
                                  obtain ⟨hb, h7, hk3⟩ := hinv
                                  have hl := bIn_len hE hb
                                  have hl1 := hl.1
                                  have hl2 := hl.2.1
                                  have hl3 := hl.2.2.1
                                  have hl4 := hl.2.2.2
                                  refine j_iload 7 dX9_bindsOf_362 rfl ?_
                                  refine j_if_le (tgt := 407) dX9_bindsOf_364 (by decide) (fun c364_177 => ?_) (fun c364_177 => ?_)
                                  · skip
                                    have hT : aSt (N362 87) v7 ((cTok (cAllT (tPre M i v8.toNat)) (tAt M i v8)).1.map sgn) ∧ aSt (N362 88) v6 (rpn (eTest (fAge (M 83) (M 82) h d 0) (fAge (M 83) (M 82) h d 1) (M 80 h) (M 76 m) (M 82 h) m) (cTok (cAllT (tPre M i v8.toNat)) (tAt M i v8)).2) := by rw [tk_3 (by omega) (by omega) (by omega) (by omega)]; exact bIn_nst hb (by omega)
                                    obtain ⟨v8_178, ev8_178⟩ : ∃ y : Int, y = v8 + 1 := ⟨_, rfl⟩
                                    refine j_iinc (y := v8_178) (ls' := [(0, jR 74), (1, jI i), (2, jI h), (3, jI m), (4, jI d), (5, jI v5_1), (6, jI v6), (7, jI v7), (8, jI v8_178), (9, jI v9_126)]) 8 dX9_bindsOf_407 rfl ev8_178 (by omega) (by decide) rfl ?_
                                    refine j_goto (tgt := 71) dX9_bindsOf_410 (by decide) ?_
                                    refine j_sub (ls' := [(0, jR 74), (1, jI i), (2, jI h), (3, jI m), (4, jI d), (5, jI v5_1), (6, jI v6), (7, jI v7), (8, jI v8_178)]) [0, 1, 2, 3, 4, 5, 6, 7, 8] rfl ?_
                                    exact ih71 v6 v7 v8_178 N362 ⟨by omega, by rw [ev8_178, cAllT_p M i h8.1]; first | exact hT.1 | (rw [show v7 = v7 + 1 by omega]; exact hT.1), by rw [ev8_178, cAllT_p M i h8.1]; exact hT.2, by intro c z1 z2; first | rfl | exact hk c z1 z2 | (rw [jup_zz, jup_cell z1]; exact hk c z1 z2) | (rw [jup_zz, jup_cell z2]; exact hk c z1 z2) | exact hk1 c z1 z2 | (rw [jup_zz, jup_cell z1]; exact hk1 c z1 z2) | (rw [jup_zz, jup_cell z2]; exact hk1 c z1 z2) | exact hk3 c z1 z2 | (rw [jup_zz, jup_cell z1]; exact hk3 c z1 z2) | (rw [jup_zz, jup_cell z2]; exact hk3 c z1 z2)⟩ (by omega)
                                  · skip
                                    refine j_aload_n 0 dX9_bindsOf_367 rfl rfl ?_
                                    refine j_getr f_X9_47 r_74_25 dX9_bindsOf_368 ?_
                                    refine j_iload 7 dX9_bindsOf_371 rfl ?_
                                    refine j_iconst dX9_bindsOf_373 (by decide) ?_
                                    refine j_isub dX9_bindsOf_374 (by omega) ?_
                                    refine j_iald a_87 dX9_bindsOf_375 (by omega) (by omega) ?_
                                    refine j_bipush dX9_bindsOf_376 (by decide) ?_
                                    refine j_icmp_ne (tgt := 407) dX9_bindsOf_378 (by decide) (fun c378_179 => ?_) (fun c378_179 => ?_)
                                    · skip
                                      have hT : aSt (N362 87) v7 ((cTok (cAllT (tPre M i v8.toNat)) (tAt M i v8)).1.map sgn) ∧ aSt (N362 88) v6 (rpn (eTest (fAge (M 83) (M 82) h d 0) (fAge (M 83) (M 82) h d 1) (M 80 h) (M 76 m) (M 82 h) m) (cTok (cAllT (tPre M i v8.toNat)) (tAt M i v8)).2) := by rw [tk_3 (by omega) (by omega) (by omega) (by omega)]; exact bIn_nst hb (by omega)
                                      obtain ⟨v8_180, ev8_180⟩ : ∃ y : Int, y = v8 + 1 := ⟨_, rfl⟩
                                      refine j_iinc (y := v8_180) (ls' := [(0, jR 74), (1, jI i), (2, jI h), (3, jI m), (4, jI d), (5, jI v5_1), (6, jI v6), (7, jI v7), (8, jI v8_180), (9, jI v9_126)]) 8 dX9_bindsOf_407 rfl ev8_180 (by omega) (by decide) rfl ?_
                                      refine j_goto (tgt := 71) dX9_bindsOf_410 (by decide) ?_
                                      refine j_sub (ls' := [(0, jR 74), (1, jI i), (2, jI h), (3, jI m), (4, jI d), (5, jI v5_1), (6, jI v6), (7, jI v7), (8, jI v8_180)]) [0, 1, 2, 3, 4, 5, 6, 7, 8] rfl ?_
                                      exact ih71 v6 v7 v8_180 N362 ⟨by omega, by rw [ev8_180, cAllT_p M i h8.1]; first | exact hT.1 | (rw [show v7 = v7 + 1 by omega]; exact hT.1), by rw [ev8_180, cAllT_p M i h8.1]; exact hT.2, by intro c z1 z2; first | rfl | exact hk c z1 z2 | (rw [jup_zz, jup_cell z1]; exact hk c z1 z2) | (rw [jup_zz, jup_cell z2]; exact hk c z1 z2) | exact hk1 c z1 z2 | (rw [jup_zz, jup_cell z1]; exact hk1 c z1 z2) | (rw [jup_zz, jup_cell z2]; exact hk1 c z1 z2) | exact hk3 c z1 z2 | (rw [jup_zz, jup_cell z1]; exact hk3 c z1 z2) | (rw [jup_zz, jup_cell z2]; exact hk3 c z1 z2)⟩ (by omega)
                                    · skip
                                      have hy := hl4 (v6 - 1) (by omega) (by omega)
                                      refine j_aload_n 0 dX9_bindsOf_381 rfl rfl ?_
                                      refine j_getr f_X9_50 r_74_26 dX9_bindsOf_382 ?_
                                      refine j_iload 6 dX9_bindsOf_385 rfl ?_
                                      refine j_iconst dX9_bindsOf_387 (by decide) ?_
                                      refine j_isub dX9_bindsOf_388 (by omega) ?_
                                      refine j_iconst dX9_bindsOf_389 (by decide) ?_
                                      refine j_aload_n 0 dX9_bindsOf_390 rfl rfl ?_
                                      refine j_getr f_X9_50 r_74_26 dX9_bindsOf_391 ?_
                                      refine j_iload 6 dX9_bindsOf_394 rfl ?_
                                      refine j_iconst dX9_bindsOf_396 (by decide) ?_
                                      refine j_isub dX9_bindsOf_397 (by omega) ?_
                                      refine j_iald a_88 dX9_bindsOf_398 (by omega) (by omega) ?_
                                      refine j_isub dX9_bindsOf_399 (by omega) ?_
                                      refine j_iast a_88 dX9_bindsOf_400 (by omega) (by omega) ?_
                                      refine j_nmM (fun M_181 eM_181 => ?_)
                                      obtain ⟨v7_182, ev7_182⟩ : ∃ y : Int, y = v7 + (-1) := ⟨_, rfl⟩
                                      refine j_iinc (y := v7_182) (ls' := [(0, jR 74), (1, jI i), (2, jI h), (3, jI m), (4, jI d), (5, jI v5_1), (6, jI v6), (7, jI v7_182), (8, jI v8), (9, jI v9_126)]) 7 dX9_bindsOf_401 rfl ev7_182 (by omega) (by decide) rfl ?_
                                      refine j_goto (tgt := 362) dX9_bindsOf_404 (by decide) ?_
                                      exact ih362 v7_182 M_181 ⟨by rw [eM_181, jup_cell (show (87 : Int) ≠ 88 by decide), show v7_182 = v7 - 1 by omega]; exact bIn_not hb (by omega) (by omega) _ (by rw [jup_self]) (fun j j0 j1 => by rw [jup_at, if_neg (by omega)]), by omega, by intro c z1 z2; first | rfl | exact hk3 c z1 z2 | (rw [eM_181, jup_cell z1]; exact hk3 c z1 z2) | (rw [eM_181, jup_cell z2]; exact hk3 c z1 z2)⟩ (by omega)
                              exact lp362_176 _ v7_175 N256 ⟨by first | (rw [show v7_175 = v7 - 1 by omega]; exact tk_close (by omega) ht.1 (ht.2.2.1 (by omega)).1 (ht.2.2.1 (by omega)).2 (ht.2.2.2.1 (by omega)) (bIn_stop (Or.inl rfl) hb (Or.inr ⟨by omega, fun _ => by omega⟩))) | (rw [jup_zz, jup_cell (show (87 : Int) ≠ 88 by decide), show v6 = v6 + 1 by omega]; exact tk_test (by omega) (by omega) ht.1 (by omega) (by omega) hS hV (by rw [jup_self, er_161, hc, hc2]) (fun j j0 j1 => by rw [jup_at, if_neg (by omega)])), by omega, by intro c z1 z2; first | rfl | exact hk2 c z1 z2 | (rw [jup_zz, jup_cell z1]; exact hk2 c z1 z2) | (rw [jup_zz, jup_cell z2]; exact hk2 c z1 z2) | exact hk c z1 z2 | (rw [jup_zz, jup_cell z1]; exact hk c z1 z2) | (rw [jup_zz, jup_cell z2]; exact hk c z1 z2)⟩ (Nat.lt_succ_self _)
                            · skip
                              have hq := bIn_pop (Or.inl rfl) hb (by omega) (Or.inr ⟨rfl, by omega⟩)
                              have hq1 := hq.1
                              obtain ⟨v7_183, ev7_183⟩ : ∃ y : Int, y = v7 + (-1) := ⟨_, rfl⟩
                              refine j_iinc (y := v7_183) (ls' := [(0, jR 74), (1, jI i), (2, jI h), (3, jI m), (4, jI d), (5, jI v5_1), (6, jI v6), (7, jI v7_183), (8, jI v8), (9, jI v9_126)]) 7 dX9_bindsOf_270 rfl ev7_183 (by omega) (by decide) rfl ?_
                              obtain ⟨v6_184, ev6_184⟩ : ∃ y : Int, y = v6 + (-1) := ⟨_, rfl⟩
                              refine j_iinc (y := v6_184) (ls' := [(0, jR 74), (1, jI i), (2, jI h), (3, jI m), (4, jI d), (5, jI v5_1), (6, jI v6_184), (7, jI v7_183), (8, jI v8), (9, jI v9_126)]) 6 dX9_bindsOf_273 rfl ev6_184 (by omega) (by decide) rfl ?_
                              refine j_aload_n 0 dX9_bindsOf_276 rfl rfl ?_
                              refine j_getr f_X9_50 r_74_26 dX9_bindsOf_277 ?_
                              refine j_iload 6 dX9_bindsOf_280 rfl ?_
                              refine j_iconst dX9_bindsOf_282 (by decide) ?_
                              refine j_isub dX9_bindsOf_283 (by omega) ?_
                              refine j_aload_n 0 dX9_bindsOf_284 rfl rfl ?_
                              refine j_getr f_X9_47 r_74_25 dX9_bindsOf_285 ?_
                              refine j_iload 7 dX9_bindsOf_288 rfl ?_
                              refine j_iald a_87 dX9_bindsOf_290 (by omega) (by omega) ?_
                              refine j_aload_n 0 dX9_bindsOf_291 rfl rfl ?_
                              refine j_getr f_X9_50 r_74_26 dX9_bindsOf_292 ?_
                              refine j_iload 6 dX9_bindsOf_295 rfl ?_
                              refine j_iconst dX9_bindsOf_297 (by decide) ?_
                              refine j_isub dX9_bindsOf_298 (by omega) ?_
                              refine j_iald a_88 dX9_bindsOf_299 (by omega) (by omega) ?_
                              refine j_aload_n 0 dX9_bindsOf_300 rfl rfl ?_
                              refine j_getr f_X9_50 r_74_26 dX9_bindsOf_301 ?_
                              refine j_iload 6 dX9_bindsOf_304 rfl ?_
                              refine j_iald a_88 dX9_bindsOf_306 (by omega) (by omega) ?_
                              refine j_callSi l_X9_255 ⟨Nat.le_of_ble_eq_true rfl, Nat.le_of_ble_eq_true rfl⟩ ⟨rfl, rfl⟩ dX9_bindsOf_307 (c_X9_joins N256 ((N256 87 v7_183)) ((N256 88 (v6_184 - 1))) ((N256 88 v6_184))) rfl rfl (Nat.le_of_ble_eq_true rfl) (fun r_185 M_186 h_187 => ?_)
                              obtain ⟨er_185, nh_187⟩ := h_187
                              refine j_eqM nh_187 ?_
                              clear nh_187
                              refine j_iast a_88 dX9_bindsOf_310 (by omega) (by omega) ?_
                              refine j_nmM (fun M_188 eM_188 => ?_)
                              refine j_goto (tgt := 256) dX9_bindsOf_311 (by decide) ?_
                              exact ih256 v6_184 v7_183 M_188 ⟨by (have eq7 : v7_183 = v7 - 1 := by omega); (have eq6 : v6_184 = v6 - 1 := by omega); rw [eM_188, jup_cell (show (87 : Int) ≠ 88 by decide), er_185, eq7, eq6]; exact hq.2 _ (by rw [show v6 - 2 = v6 - 1 - 1 by omega, jup_self]) (fun j j0 j1 => by rw [jup_at, if_neg (by omega)]), by omega, by intro c z1 z2; first | rfl | exact hk2 c z1 z2 | (rw [eM_188, jup_cell z1]; exact hk2 c z1 z2) | (rw [eM_188, jup_cell z2]; exact hk2 c z1 z2)⟩ (by omega)
                        exact lp256_173 _ v6 v7 N71 ⟨by exact bIn_mk ht.1 (fun _ => (ht.2.2.1 (by omega)).1) (ht.2.2.1 (by omega)).2 hS hV, by omega, by exact hk⟩ (Nat.lt_succ_self _)
                    · skip
                      have lp150_189 : ∀ n150 : Nat, ∀ (v6 v7 : Int), ∀ N150 : jM, (bIn (eTest (fAge (M 83) (M 82) h d 0) (fAge (M 83) (M 82) h d 1) (M 80 h) (M 76 m) (M 82 h) m) (bP v9_126) (cAllT (tPre M i v8.toNat)) (N150 87) (N150 88) v7 v6) ∧ (v7 ≤ 47) ∧ (∀ c, c ≠ 87 → c ≠ 88 → N150 c = M c) → v7.toNat < n150 → jG D_X9_bindsOf X FJ shJ 0 0 (jqI (q_X9_bindsOf M i h m d)) 150 [(0, jR 74), (1, jI i), (2, jI h), (3, jI m), (4, jI d), (5, jI v5_1), (6, jI v6), (7, jI v7), (8, jI v8), (9, jI v9_126)] ([]) N150 := by
                        intro n150
                        induction n150 with
                        | zero => intro v6 v7 N150 _ hz; exact absurd hz (Nat.not_lt_zero _)
                        | succ n150 ih150 =>
                          intro v6 v7 N150 hinv hm
                          obtain ⟨hb, h7, hk1⟩ := hinv
                          have hl := bIn_len hE hb
                          have hl1 := hl.1
                          have hl2 := hl.2.1
                          have hl3 := hl.2.2.1
                          have hl4 := hl.2.2.2
                          refine j_iload 7 dX9_bindsOf_150 rfl ?_
                          refine j_if_le (tgt := 234) dX9_bindsOf_152 (by decide) (fun c152_190 => ?_) (fun c152_190 => ?_)
                          · skip
                            have hs := bIn_stop (bP_in _) hb (by first | exact Or.inl (by omega) | exact Or.inr ⟨by omega, fun z => by first | omega | (exfalso; unfold bP at z; rw [if_pos (by omega)] at z; omega)⟩)
                            refine j_aload_n 0 dX9_bindsOf_234 rfl rfl ?_
                            refine j_getr f_X9_47 r_74_25 dX9_bindsOf_235 ?_
                            refine j_iload 7 dX9_bindsOf_238 rfl ?_
                            refine j_iload 9 dX9_bindsOf_240 rfl ?_
                            refine j_iast a_87 dX9_bindsOf_242 (by omega) (by omega) ?_
                            refine j_nmM (fun M_191 eM_191 => ?_)
                            have hT : aSt (M_191 87) (v7 + 1) ((cTok (cAllT (tPre M i v8.toNat)) (tAt M i v8)).1.map sgn) ∧ aSt (M_191 88) v6 (rpn (eTest (fAge (M 83) (M 82) h d 0) (fAge (M 83) (M 82) h d 1) (M 80 h) (M 76 m) (M 82 h) m) (cTok (cAllT (tPre M i v8.toNat)) (tAt M i v8)).2) := by rw [eM_191, jup_cell (show (88 : Int) ≠ 87 by decide)]; exact tk_bin (by omega) (by rw [hc]; exact hs) (by rw [jup_self]; omega) (fun j j0 j1 => by rw [jup_at, if_neg (by omega)])
                            obtain ⟨v7_192, ev7_192⟩ : ∃ y : Int, y = v7 + 1 := ⟨_, rfl⟩
                            refine j_iinc (y := v7_192) (ls' := [(0, jR 74), (1, jI i), (2, jI h), (3, jI m), (4, jI d), (5, jI v5_1), (6, jI v6), (7, jI v7_192), (8, jI v8), (9, jI v9_126)]) 7 dX9_bindsOf_243 rfl ev7_192 (by omega) (by decide) rfl ?_
                            refine j_goto (tgt := 407) dX9_bindsOf_246 (by decide) ?_
                            obtain ⟨v8_193, ev8_193⟩ : ∃ y : Int, y = v8 + 1 := ⟨_, rfl⟩
                            refine j_iinc (y := v8_193) (ls' := [(0, jR 74), (1, jI i), (2, jI h), (3, jI m), (4, jI d), (5, jI v5_1), (6, jI v6), (7, jI v7_192), (8, jI v8_193), (9, jI v9_126)]) 8 dX9_bindsOf_407 rfl ev8_193 (by omega) (by decide) rfl ?_
                            refine j_goto (tgt := 71) dX9_bindsOf_410 (by decide) ?_
                            refine j_sub (ls' := [(0, jR 74), (1, jI i), (2, jI h), (3, jI m), (4, jI d), (5, jI v5_1), (6, jI v6), (7, jI v7_192), (8, jI v8_193)]) [0, 1, 2, 3, 4, 5, 6, 7, 8] rfl ?_
                            exact ih71 v6 v7_192 v8_193 M_191 ⟨by omega, by rw [ev8_193, cAllT_p M i h8.1]; first | exact hT.1 | (rw [show v7_192 = v7 + 1 by omega]; exact hT.1), by rw [ev8_193, cAllT_p M i h8.1]; exact hT.2, by intro c z1 z2; first | rfl | exact hk c z1 z2 | (rw [eM_191, jup_cell z1]; exact hk c z1 z2) | (rw [eM_191, jup_cell z2]; exact hk c z1 z2) | exact hk1 c z1 z2 | (rw [eM_191, jup_cell z1]; exact hk1 c z1 z2) | (rw [eM_191, jup_cell z2]; exact hk1 c z1 z2) | exact hk3 c z1 z2 | (rw [eM_191, jup_cell z1]; exact hk3 c z1 z2) | (rw [eM_191, jup_cell z2]; exact hk3 c z1 z2)⟩ (by omega)
                          · skip
                            refine j_aload_n 0 dX9_bindsOf_155 rfl rfl ?_
                            refine j_getr f_X9_47 r_74_25 dX9_bindsOf_156 ?_
                            refine j_iload 7 dX9_bindsOf_159 rfl ?_
                            refine j_iconst dX9_bindsOf_161 (by decide) ?_
                            refine j_isub dX9_bindsOf_162 (by omega) ?_
                            refine j_iald a_87 dX9_bindsOf_163 (by omega) (by omega) ?_
                            refine j_bipush dX9_bindsOf_164 (by decide) ?_
                            refine j_icmp_eq (tgt := 190) dX9_bindsOf_166 (by decide) (fun c166_194 => ?_) (fun c166_194 => ?_)
                            · skip
                              have hq := bIn_pop (bP_in _) hb (by omega) (by first | exact Or.inl (by omega) | exact Or.inr ⟨by unfold bP; rw [if_neg (by omega)], by omega⟩ | (exfalso; omega))
                              have hq1 := hq.1
                              obtain ⟨v7_195, ev7_195⟩ : ∃ y : Int, y = v7 + (-1) := ⟨_, rfl⟩
                              refine j_iinc (y := v7_195) (ls' := [(0, jR 74), (1, jI i), (2, jI h), (3, jI m), (4, jI d), (5, jI v5_1), (6, jI v6), (7, jI v7_195), (8, jI v8), (9, jI v9_126)]) 7 dX9_bindsOf_190 rfl ev7_195 (by omega) (by decide) rfl ?_
                              obtain ⟨v6_196, ev6_196⟩ : ∃ y : Int, y = v6 + (-1) := ⟨_, rfl⟩
                              refine j_iinc (y := v6_196) (ls' := [(0, jR 74), (1, jI i), (2, jI h), (3, jI m), (4, jI d), (5, jI v5_1), (6, jI v6_196), (7, jI v7_195), (8, jI v8), (9, jI v9_126)]) 6 dX9_bindsOf_193 rfl ev6_196 (by omega) (by decide) rfl ?_
                              refine j_aload_n 0 dX9_bindsOf_196 rfl rfl ?_
                              refine j_getr f_X9_50 r_74_26 dX9_bindsOf_197 ?_
                              refine j_iload 6 dX9_bindsOf_200 rfl ?_
                              refine j_iconst dX9_bindsOf_202 (by decide) ?_
                              refine j_isub dX9_bindsOf_203 (by omega) ?_
                              refine j_aload_n 0 dX9_bindsOf_204 rfl rfl ?_
                              refine j_getr f_X9_47 r_74_25 dX9_bindsOf_205 ?_
                              refine j_iload 7 dX9_bindsOf_208 rfl ?_
                              refine j_iald a_87 dX9_bindsOf_210 (by omega) (by omega) ?_
                              refine j_aload_n 0 dX9_bindsOf_211 rfl rfl ?_
                              refine j_getr f_X9_50 r_74_26 dX9_bindsOf_212 ?_
                              refine j_iload 6 dX9_bindsOf_215 rfl ?_
                              refine j_iconst dX9_bindsOf_217 (by decide) ?_
                              refine j_isub dX9_bindsOf_218 (by omega) ?_
                              refine j_iald a_88 dX9_bindsOf_219 (by omega) (by omega) ?_
                              refine j_aload_n 0 dX9_bindsOf_220 rfl rfl ?_
                              refine j_getr f_X9_50 r_74_26 dX9_bindsOf_221 ?_
                              refine j_iload 6 dX9_bindsOf_224 rfl ?_
                              refine j_iald a_88 dX9_bindsOf_226 (by omega) (by omega) ?_
                              refine j_callSi l_X9_255 ⟨Nat.le_of_ble_eq_true rfl, Nat.le_of_ble_eq_true rfl⟩ ⟨rfl, rfl⟩ dX9_bindsOf_227 (c_X9_joins N150 ((N150 87 v7_195)) ((N150 88 (v6_196 - 1))) ((N150 88 v6_196))) rfl rfl (Nat.le_of_ble_eq_true rfl) (fun r_197 M_198 h_199 => ?_)
                              obtain ⟨er_197, nh_199⟩ := h_199
                              refine j_eqM nh_199 ?_
                              clear nh_199
                              refine j_iast a_88 dX9_bindsOf_230 (by omega) (by omega) ?_
                              refine j_nmM (fun M_200 eM_200 => ?_)
                              refine j_goto (tgt := 150) dX9_bindsOf_231 (by decide) ?_
                              exact ih150 v6_196 v7_195 M_200 ⟨by (have eq7 : v7_195 = v7 - 1 := by omega); (have eq6 : v6_196 = v6 - 1 := by omega); rw [eM_200, jup_cell (show (87 : Int) ≠ 88 by decide), er_197, eq7, eq6]; exact hq.2 _ (by rw [show v6 - 2 = v6 - 1 - 1 by omega, jup_self]) (fun j j0 j1 => by rw [jup_at, if_neg (by omega)]), by omega, by intro c z1 z2; first | rfl | exact hk1 c z1 z2 | (rw [eM_200, jup_cell z1]; exact hk1 c z1 z2) | (rw [eM_200, jup_cell z2]; exact hk1 c z1 z2)⟩ (by omega)
                            · skip
                              refine j_iload 9 dX9_bindsOf_169 rfl ?_
                              refine j_bipush dX9_bindsOf_171 (by decide) ?_
                              refine j_icmp_ne (tgt := 234) dX9_bindsOf_173 (by decide) (fun c173_201 => ?_) (fun c173_201 => ?_)
                              · skip
                                have hs := bIn_stop (bP_in _) hb (by first | exact Or.inl (by omega) | exact Or.inr ⟨by omega, fun z => by first | omega | (exfalso; unfold bP at z; rw [if_pos (by omega)] at z; omega)⟩)
                                refine j_aload_n 0 dX9_bindsOf_234 rfl rfl ?_
                                refine j_getr f_X9_47 r_74_25 dX9_bindsOf_235 ?_
                                refine j_iload 7 dX9_bindsOf_238 rfl ?_
                                refine j_iload 9 dX9_bindsOf_240 rfl ?_
                                refine j_iast a_87 dX9_bindsOf_242 (by omega) (by omega) ?_
                                refine j_nmM (fun M_202 eM_202 => ?_)
                                have hT : aSt (M_202 87) (v7 + 1) ((cTok (cAllT (tPre M i v8.toNat)) (tAt M i v8)).1.map sgn) ∧ aSt (M_202 88) v6 (rpn (eTest (fAge (M 83) (M 82) h d 0) (fAge (M 83) (M 82) h d 1) (M 80 h) (M 76 m) (M 82 h) m) (cTok (cAllT (tPre M i v8.toNat)) (tAt M i v8)).2) := by rw [eM_202, jup_cell (show (88 : Int) ≠ 87 by decide)]; exact tk_bin (by omega) (by rw [hc]; exact hs) (by rw [jup_self]; omega) (fun j j0 j1 => by rw [jup_at, if_neg (by omega)])
                                obtain ⟨v7_203, ev7_203⟩ : ∃ y : Int, y = v7 + 1 := ⟨_, rfl⟩
                                refine j_iinc (y := v7_203) (ls' := [(0, jR 74), (1, jI i), (2, jI h), (3, jI m), (4, jI d), (5, jI v5_1), (6, jI v6), (7, jI v7_203), (8, jI v8), (9, jI v9_126)]) 7 dX9_bindsOf_243 rfl ev7_203 (by omega) (by decide) rfl ?_
                                refine j_goto (tgt := 407) dX9_bindsOf_246 (by decide) ?_
                                obtain ⟨v8_204, ev8_204⟩ : ∃ y : Int, y = v8 + 1 := ⟨_, rfl⟩
                                refine j_iinc (y := v8_204) (ls' := [(0, jR 74), (1, jI i), (2, jI h), (3, jI m), (4, jI d), (5, jI v5_1), (6, jI v6), (7, jI v7_203), (8, jI v8_204), (9, jI v9_126)]) 8 dX9_bindsOf_407 rfl ev8_204 (by omega) (by decide) rfl ?_
                                refine j_goto (tgt := 71) dX9_bindsOf_410 (by decide) ?_
                                refine j_sub (ls' := [(0, jR 74), (1, jI i), (2, jI h), (3, jI m), (4, jI d), (5, jI v5_1), (6, jI v6), (7, jI v7_203), (8, jI v8_204)]) [0, 1, 2, 3, 4, 5, 6, 7, 8] rfl ?_
                                exact ih71 v6 v7_203 v8_204 M_202 ⟨by omega, by rw [ev8_204, cAllT_p M i h8.1]; first | exact hT.1 | (rw [show v7_203 = v7 + 1 by omega]; exact hT.1), by rw [ev8_204, cAllT_p M i h8.1]; exact hT.2, by intro c z1 z2; first | rfl | exact hk c z1 z2 | (rw [eM_202, jup_cell z1]; exact hk c z1 z2) | (rw [eM_202, jup_cell z2]; exact hk c z1 z2) | exact hk1 c z1 z2 | (rw [eM_202, jup_cell z1]; exact hk1 c z1 z2) | (rw [eM_202, jup_cell z2]; exact hk1 c z1 z2) | exact hk3 c z1 z2 | (rw [eM_202, jup_cell z1]; exact hk3 c z1 z2) | (rw [eM_202, jup_cell z2]; exact hk3 c z1 z2)⟩ (by omega)
                              · skip
                                refine j_aload_n 0 dX9_bindsOf_176 rfl rfl ?_
                                refine j_getr f_X9_47 r_74_25 dX9_bindsOf_177 ?_
                                refine j_iload 7 dX9_bindsOf_180 rfl ?_
                                refine j_iconst dX9_bindsOf_182 (by decide) ?_
                                refine j_isub dX9_bindsOf_183 (by omega) ?_
                                refine j_iald a_87 dX9_bindsOf_184 (by omega) (by omega) ?_
                                refine j_bipush dX9_bindsOf_185 (by decide) ?_
                                refine j_icmp_ne (tgt := 234) dX9_bindsOf_187 (by decide) (fun c187_205 => ?_) (fun c187_205 => ?_)
                                · skip
                                  have hs := bIn_stop (bP_in _) hb (by first | exact Or.inl (by omega) | exact Or.inr ⟨by omega, fun z => by first | omega | (exfalso; unfold bP at z; rw [if_pos (by omega)] at z; omega)⟩)
                                  refine j_aload_n 0 dX9_bindsOf_234 rfl rfl ?_
                                  refine j_getr f_X9_47 r_74_25 dX9_bindsOf_235 ?_
                                  refine j_iload 7 dX9_bindsOf_238 rfl ?_
                                  refine j_iload 9 dX9_bindsOf_240 rfl ?_
                                  refine j_iast a_87 dX9_bindsOf_242 (by omega) (by omega) ?_
                                  refine j_nmM (fun M_206 eM_206 => ?_)
                                  have hT : aSt (M_206 87) (v7 + 1) ((cTok (cAllT (tPre M i v8.toNat)) (tAt M i v8)).1.map sgn) ∧ aSt (M_206 88) v6 (rpn (eTest (fAge (M 83) (M 82) h d 0) (fAge (M 83) (M 82) h d 1) (M 80 h) (M 76 m) (M 82 h) m) (cTok (cAllT (tPre M i v8.toNat)) (tAt M i v8)).2) := by rw [eM_206, jup_cell (show (88 : Int) ≠ 87 by decide)]; exact tk_bin (by omega) (by rw [hc]; exact hs) (by rw [jup_self]; omega) (fun j j0 j1 => by rw [jup_at, if_neg (by omega)])
                                  obtain ⟨v7_207, ev7_207⟩ : ∃ y : Int, y = v7 + 1 := ⟨_, rfl⟩
                                  refine j_iinc (y := v7_207) (ls' := [(0, jR 74), (1, jI i), (2, jI h), (3, jI m), (4, jI d), (5, jI v5_1), (6, jI v6), (7, jI v7_207), (8, jI v8), (9, jI v9_126)]) 7 dX9_bindsOf_243 rfl ev7_207 (by omega) (by decide) rfl ?_
                                  refine j_goto (tgt := 407) dX9_bindsOf_246 (by decide) ?_
                                  obtain ⟨v8_208, ev8_208⟩ : ∃ y : Int, y = v8 + 1 := ⟨_, rfl⟩
                                  refine j_iinc (y := v8_208) (ls' := [(0, jR 74), (1, jI i), (2, jI h), (3, jI m), (4, jI d), (5, jI v5_1), (6, jI v6), (7, jI v7_207), (8, jI v8_208), (9, jI v9_126)]) 8 dX9_bindsOf_407 rfl ev8_208 (by omega) (by decide) rfl ?_
                                  refine j_goto (tgt := 71) dX9_bindsOf_410 (by decide) ?_
                                  refine j_sub (ls' := [(0, jR 74), (1, jI i), (2, jI h), (3, jI m), (4, jI d), (5, jI v5_1), (6, jI v6), (7, jI v7_207), (8, jI v8_208)]) [0, 1, 2, 3, 4, 5, 6, 7, 8] rfl ?_
                                  exact ih71 v6 v7_207 v8_208 M_206 ⟨by omega, by rw [ev8_208, cAllT_p M i h8.1]; first | exact hT.1 | (rw [show v7_207 = v7 + 1 by omega]; exact hT.1), by rw [ev8_208, cAllT_p M i h8.1]; exact hT.2, by intro c z1 z2; first | rfl | exact hk c z1 z2 | (rw [eM_206, jup_cell z1]; exact hk c z1 z2) | (rw [eM_206, jup_cell z2]; exact hk c z1 z2) | exact hk1 c z1 z2 | (rw [eM_206, jup_cell z1]; exact hk1 c z1 z2) | (rw [eM_206, jup_cell z2]; exact hk1 c z1 z2) | exact hk3 c z1 z2 | (rw [eM_206, jup_cell z1]; exact hk3 c z1 z2) | (rw [eM_206, jup_cell z2]; exact hk3 c z1 z2)⟩ (by omega)
                                · skip
                                  have hq := bIn_pop (bP_in _) hb (by omega) (by first | exact Or.inl (by omega) | exact Or.inr ⟨by unfold bP; rw [if_neg (by omega)], by omega⟩ | (exfalso; omega))
                                  have hq1 := hq.1
                                  obtain ⟨v7_209, ev7_209⟩ : ∃ y : Int, y = v7 + (-1) := ⟨_, rfl⟩
                                  refine j_iinc (y := v7_209) (ls' := [(0, jR 74), (1, jI i), (2, jI h), (3, jI m), (4, jI d), (5, jI v5_1), (6, jI v6), (7, jI v7_209), (8, jI v8), (9, jI v9_126)]) 7 dX9_bindsOf_190 rfl ev7_209 (by omega) (by decide) rfl ?_
                                  obtain ⟨v6_210, ev6_210⟩ : ∃ y : Int, y = v6 + (-1) := ⟨_, rfl⟩
                                  refine j_iinc (y := v6_210) (ls' := [(0, jR 74), (1, jI i), (2, jI h), (3, jI m), (4, jI d), (5, jI v5_1), (6, jI v6_210), (7, jI v7_209), (8, jI v8), (9, jI v9_126)]) 6 dX9_bindsOf_193 rfl ev6_210 (by omega) (by decide) rfl ?_
                                  refine j_aload_n 0 dX9_bindsOf_196 rfl rfl ?_
                                  refine j_getr f_X9_50 r_74_26 dX9_bindsOf_197 ?_
                                  refine j_iload 6 dX9_bindsOf_200 rfl ?_
                                  refine j_iconst dX9_bindsOf_202 (by decide) ?_
                                  refine j_isub dX9_bindsOf_203 (by omega) ?_
                                  refine j_aload_n 0 dX9_bindsOf_204 rfl rfl ?_
                                  refine j_getr f_X9_47 r_74_25 dX9_bindsOf_205 ?_
                                  refine j_iload 7 dX9_bindsOf_208 rfl ?_
                                  refine j_iald a_87 dX9_bindsOf_210 (by omega) (by omega) ?_
                                  refine j_aload_n 0 dX9_bindsOf_211 rfl rfl ?_
                                  refine j_getr f_X9_50 r_74_26 dX9_bindsOf_212 ?_
                                  refine j_iload 6 dX9_bindsOf_215 rfl ?_
                                  refine j_iconst dX9_bindsOf_217 (by decide) ?_
                                  refine j_isub dX9_bindsOf_218 (by omega) ?_
                                  refine j_iald a_88 dX9_bindsOf_219 (by omega) (by omega) ?_
                                  refine j_aload_n 0 dX9_bindsOf_220 rfl rfl ?_
                                  refine j_getr f_X9_50 r_74_26 dX9_bindsOf_221 ?_
                                  refine j_iload 6 dX9_bindsOf_224 rfl ?_
                                  refine j_iald a_88 dX9_bindsOf_226 (by omega) (by omega) ?_
                                  refine j_callSi l_X9_255 ⟨Nat.le_of_ble_eq_true rfl, Nat.le_of_ble_eq_true rfl⟩ ⟨rfl, rfl⟩ dX9_bindsOf_227 (c_X9_joins N150 ((N150 87 v7_209)) ((N150 88 (v6_210 - 1))) ((N150 88 v6_210))) rfl rfl (Nat.le_of_ble_eq_true rfl) (fun r_211 M_212 h_213 => ?_)
                                  obtain ⟨er_211, nh_213⟩ := h_213
                                  refine j_eqM nh_213 ?_
                                  clear nh_213
                                  refine j_iast a_88 dX9_bindsOf_230 (by omega) (by omega) ?_
                                  refine j_nmM (fun M_214 eM_214 => ?_)
                                  refine j_goto (tgt := 150) dX9_bindsOf_231 (by decide) ?_
                                  exact ih150 v6_210 v7_209 M_214 ⟨by (have eq7 : v7_209 = v7 - 1 := by omega); (have eq6 : v6_210 = v6 - 1 := by omega); rw [eM_214, jup_cell (show (87 : Int) ≠ 88 by decide), er_211, eq7, eq6]; exact hq.2 _ (by rw [show v6 - 2 = v6 - 1 - 1 by omega, jup_self]) (fun j j0 j1 => by rw [jup_at, if_neg (by omega)]), by omega, by intro c z1 z2; first | rfl | exact hk1 c z1 z2 | (rw [eM_214, jup_cell z1]; exact hk1 c z1 z2) | (rw [eM_214, jup_cell z2]; exact hk1 c z1 z2)⟩ (by omega)
                      exact lp150_189 _ v6 v7 N71 ⟨by exact bIn_mk ht.1 (fun _ => (ht.2.2.1 (by omega)).1) (ht.2.2.1 (by omega)).2 hS hV, by omega, by exact hk⟩ (Nat.lt_succ_self _)
                · skip
                  refine j_aload_n 0 dX9_bindsOf_121 rfl rfl ?_
                  refine j_getr f_X9_47 r_74_25 dX9_bindsOf_122 ?_
                  refine j_iload 7 dX9_bindsOf_125 rfl ?_
                  refine j_iload 9 dX9_bindsOf_127 rfl ?_
                  refine j_iast a_87 dX9_bindsOf_129 (by omega) (by omega) ?_
                  refine j_nmM (fun M_215 eM_215 => ?_)
                  have hT : aSt (M_215 87) (v7 + 1) ((cTok (cAllT (tPre M i v8.toNat)) (tAt M i v8)).1.map sgn) ∧ aSt (M_215 88) v6 (rpn (eTest (fAge (M 83) (M 82) h d 0) (fAge (M 83) (M 82) h d 1) (M 80 h) (M 76 m) (M 82 h) m) (cTok (cAllT (tPre M i v8.toNat)) (tAt M i v8)).2) := by rw [eM_215, jup_cell (show (88 : Int) ≠ 87 by decide)]; exact tk_push (by omega) hS hV (by rw [jup_self]; omega) (fun j j0 j1 => by rw [jup_at, if_neg (by omega)])
                  obtain ⟨v7_216, ev7_216⟩ : ∃ y : Int, y = v7 + 1 := ⟨_, rfl⟩
                  refine j_iinc (y := v7_216) (ls' := [(0, jR 74), (1, jI i), (2, jI h), (3, jI m), (4, jI d), (5, jI v5_1), (6, jI v6), (7, jI v7_216), (8, jI v8), (9, jI v9_126)]) 7 dX9_bindsOf_130 rfl ev7_216 (by omega) (by decide) rfl ?_
                  refine j_goto (tgt := 407) dX9_bindsOf_133 (by decide) ?_
                  obtain ⟨v8_217, ev8_217⟩ : ∃ y : Int, y = v8 + 1 := ⟨_, rfl⟩
                  refine j_iinc (y := v8_217) (ls' := [(0, jR 74), (1, jI i), (2, jI h), (3, jI m), (4, jI d), (5, jI v5_1), (6, jI v6), (7, jI v7_216), (8, jI v8_217), (9, jI v9_126)]) 8 dX9_bindsOf_407 rfl ev8_217 (by omega) (by decide) rfl ?_
                  refine j_goto (tgt := 71) dX9_bindsOf_410 (by decide) ?_
                  refine j_sub (ls' := [(0, jR 74), (1, jI i), (2, jI h), (3, jI m), (4, jI d), (5, jI v5_1), (6, jI v6), (7, jI v7_216), (8, jI v8_217)]) [0, 1, 2, 3, 4, 5, 6, 7, 8] rfl ?_
                  exact ih71 v6 v7_216 v8_217 M_215 ⟨by omega, by rw [ev8_217, cAllT_p M i h8.1]; first | exact hT.1 | (rw [show v7_216 = v7 + 1 by omega]; exact hT.1), by rw [ev8_217, cAllT_p M i h8.1]; exact hT.2, by intro c z1 z2; first | rfl | exact hk c z1 z2 | (rw [eM_215, jup_cell z1]; exact hk c z1 z2) | (rw [eM_215, jup_cell z2]; exact hk c z1 z2) | exact hk1 c z1 z2 | (rw [eM_215, jup_cell z1]; exact hk1 c z1 z2) | (rw [eM_215, jup_cell z2]; exact hk1 c z1 z2) | exact hk3 c z1 z2 | (rw [eM_215, jup_cell z1]; exact hk3 c z1 z2) | (rw [eM_215, jup_cell z2]; exact hk3 c z1 z2)⟩ (by omega)
        exact lp71_113 _ 0 0 0 M ⟨by omega, by rfl, by rfl, by intro c _ _; rfl⟩ (Nat.lt_succ_self _)
      · skip
        refine j_iconst dX9_bindsOf_60 (by decide) ?_
        refine j_iret rfl rfl rfl rfl dX9_bindsOf_61 ?_
        exact ⟨by unfold rB; rw [if_pos (by omega)], fun c _ _ => rfl⟩
