abbrev q_X7_waysToMakeUp (M : jM)  (q D w : Int) : Int → jM → Prop := fun r N => r = zV w D.toNat q ∧ (∀ c, c ≠ 34 → c ≠ 35 → N c = M c)
set_option maxHeartbeats 4000000 in
set_option maxRecDepth 20000 in
theorem c_X7_waysToMakeUp {X : jX} (M : jM)  (q D w : Int) (hq : 0 ≤ q ∧ q ≤ 134) (hD : 0 ≤ D ∧ D ≤ 10) (hw : 0 ≤ w ∧ w ≤ 16) : jC yX7_waysToMakeUp D_X7_waysToMakeUp X FJ shJ [jR 28, jI q, jI D, jI w] M (jqL (q_X7_waysToMakeUp M q D w)) := by
  refine jC_of (by decide) rfl (fun ad => Nat.le_of_ble_eq_true rfl) (by decide) ?_
  show jG D_X7_waysToMakeUp X FJ shJ 0 0 (jqL (q_X7_waysToMakeUp M q D w)) 0 [(0, jR 28), (1, jI q), (2, jI D), (3, jI w)] [] M
  refine j_iconst dX7_waysToMakeUp_0 (by decide) ?_
  refine j_iload_n 1 dX7_waysToMakeUp_1 rfl rfl ?_
  refine j_sipush dX7_waysToMakeUp_2 (by decide) ?_
  refine j_mmin lm_X7_63 lm_min ⟨Nat.le_of_ble_eq_true rfl, Nat.le_of_ble_eq_true rfl⟩ ⟨Nat.le_of_ble_eq_true rfl, Nat.le_of_ble_eq_true rfl⟩ dX7_waysToMakeUp_5 ?_
  refine j_mmax lm_X7_55 lm_max ⟨Nat.le_of_ble_eq_true rfl, Nat.le_of_ble_eq_true rfl⟩ ⟨Nat.le_of_ble_eq_true rfl, Nat.le_of_ble_eq_true rfl⟩ dX7_waysToMakeUp_8 ?_
  refine j_nm (fun v4_1 ev4_1 => ?_)
  refine j_istore (ls' := [(0, jR 28), (1, jI q), (2, jI D), (3, jI w), (4, jI v4_1)]) dX7_waysToMakeUp_11 (by decide) rfl ?_
  have e4 : v4_1 = q := by omega
  refine j_aload_n 0 dX7_waysToMakeUp_13 rfl rfl ?_
  refine j_getr f_X7_27 r_28_9 dX7_waysToMakeUp_14 ?_
  refine j_astore (ls' := [(0, jR 28), (1, jI q), (2, jI D), (3, jI w), (4, jI v4_1), (5, jR 34)]) dX7_waysToMakeUp_17 (by decide) rfl ?_
  refine j_aload_n 0 dX7_waysToMakeUp_19 rfl rfl ?_
  refine j_getr f_X7_31 r_28_10 dX7_waysToMakeUp_20 ?_
  refine j_astore (ls' := [(0, jR 28), (1, jI q), (2, jI D), (3, jI w), (4, jI v4_1), (5, jR 34), (6, jR 35)]) dX7_waysToMakeUp_23 (by decide) rfl ?_
  refine j_iconst dX7_waysToMakeUp_25 (by decide) ?_
  refine j_istore (ls' := [(0, jR 28), (1, jI q), (2, jI D), (3, jI w), (4, jI v4_1), (5, jR 34), (6, jR 35), (7, jI 0)]) dX7_waysToMakeUp_26 (by decide) rfl ?_
  have lp28_2 : ∀ n28 : Nat, ∀ (v7 : Int), ∀ N28 : jM, (0 ≤ v7 ∧ v7 ≤ q + 1) ∧ (∀ k, 0 ≤ k → k < v7 → N28 34 k = zV w 0 k) ∧ (∀ c, c ≠ 34 → c ≠ 35 → N28 c = M c) → (q + 1 - v7).toNat < n28 → jG D_X7_waysToMakeUp X FJ shJ 0 0 (jqL (q_X7_waysToMakeUp M q D w)) 28 [(0, jR 28), (1, jI q), (2, jI D), (3, jI w), (4, jI v4_1), (5, jR 34), (6, jR 35), (7, jI v7)] ([]) N28 := by
    intro n28
    induction n28 with
    | zero => intro v7 N28 _ hz; exact absurd hz (Nat.not_lt_zero _)
    | succ n28 ih28 =>
      intro v7 N28 hinv hm
      obtain ⟨h1, hv, hk⟩ := hinv
      refine j_iload 7 dX7_waysToMakeUp_28 rfl ?_
      refine j_iload 4 dX7_waysToMakeUp_30 rfl ?_
      refine j_icmp_gt (tgt := 56) dX7_waysToMakeUp_32 (by decide) (fun c32_3 => ?_) (fun c32_3 => ?_)
      · skip
        refine j_iconst dX7_waysToMakeUp_56 (by decide) ?_
        refine j_istore (ls' := [(0, jR 28), (1, jI q), (2, jI D), (3, jI w), (4, jI v4_1), (5, jR 34), (6, jR 35), (7, jI 0)]) dX7_waysToMakeUp_57 (by decide) rfl ?_
        have lp59_4 : ∀ n59 : Nat, ∀ (v5 v6 v7 : Int), ∀ N59 : jM, ((v5 = 34 ∧ v6 = 35) ∨ (v5 = 35 ∧ v6 = 34)) ∧ (0 ≤ v7 ∧ v7 ≤ D) ∧ (∀ k, 0 ≤ k → k ≤ q → N59 v5 k = zV w v7.toNat k) ∧ (∀ c, c ≠ 34 → c ≠ 35 → N59 c = M c) → (D - v7).toNat < n59 → jG D_X7_waysToMakeUp X FJ shJ 0 0 (jqL (q_X7_waysToMakeUp M q D w)) 59 [(0, jR 28), (1, jI q), (2, jI D), (3, jI w), (4, jI v4_1), (5, jR v5), (6, jR v6), (7, jI v7)] ([]) N59 := by
          intro n59
          induction n59 with
          | zero => intro v5 v6 v7 N59 _ hz; exact absurd hz (Nat.not_lt_zero _)
          | succ n59 ih59 =>
            intro v5 v6 v7 N59 hinv hm
            obtain ⟨h5, h7, hv2, hk2⟩ := hinv
            refine j_iload 7 dX7_waysToMakeUp_59 rfl ?_
            refine j_iload_n 2 dX7_waysToMakeUp_61 rfl rfl ?_
            refine j_icmp_ge (tgt := 142) dX7_waysToMakeUp_62 (by decide) (fun c62_5 => ?_) (fun c62_5 => ?_)
            · skip
              refine j_aload 5 dX7_waysToMakeUp_142 rfl ?_
              refine j_iload 4 dX7_waysToMakeUp_144 rfl ?_
              refine j_lald (a_ways h5).1 dX7_waysToMakeUp_146 (by omega) (by omega) ?_
              refine j_lret rfl rfl rfl rfl dX7_waysToMakeUp_147 ?_
              refine ⟨?_, hk2⟩; rw [hv2 _ (by omega) (by omega)]; rw [show v7 = D by omega, e4]
            · skip
              refine j_lconst (v := 0) dX7_waysToMakeUp_65 rfl ?_
              refine j_lstore (ls' := [(0, jR 28), (1, jI q), (2, jI D), (3, jI w), (4, jI v4_1), (5, jR v5), (6, jR v6), (7, jI v7), (8, jL 0)]) dX7_waysToMakeUp_66 (by decide) rfl ?_
              refine j_iconst dX7_waysToMakeUp_68 (by decide) ?_
              refine j_istore (ls' := [(0, jR 28), (1, jI q), (2, jI D), (3, jI w), (4, jI v4_1), (5, jR v5), (6, jR v6), (7, jI v7), (8, jL 0), (10, jI 0)]) dX7_waysToMakeUp_69 (by decide) rfl ?_
              have lp71_6 : ∀ n71 : Nat, ∀ (v8 v10 : Int), ∀ N71 : jM, (0 ≤ v10 ∧ v10 ≤ q + 1) ∧ (v8 = zP (zV w v7.toNat) v10.toNat - zP (zV w v7.toNat) (v10 - 1 - w).toNat) ∧ (∀ k, 0 ≤ k → k < v10 → N71 v6 k = zV w (v7.toNat + 1) k) ∧ (∀ k, 0 ≤ k → k ≤ q → N71 v5 k = zV w v7.toNat k) ∧ (∀ c, c ≠ 34 → c ≠ 35 → N71 c = M c) → (q + 1 - v10).toNat < n71 → jG D_X7_waysToMakeUp X FJ shJ 0 0 (jqL (q_X7_waysToMakeUp M q D w)) 71 [(0, jR 28), (1, jI q), (2, jI D), (3, jI w), (4, jI v4_1), (5, jR v5), (6, jR v6), (7, jI v7), (8, jL v8), (10, jI v10)] ([]) N71 := by
                intro n71
                induction n71 with
                | zero => intro v8 v10 N71 _ hz; exact absurd hz (Nat.not_lt_zero _)
                | succ n71 ih71 =>
                  intro v8 v10 N71 hinv hm
                  obtain ⟨g1, gs, hn, ho, hk3⟩ := hinv
                  refine j_iload 9 dX7_waysToMakeUp_71 rfl ?_
                  refine j_iload 4 dX7_waysToMakeUp_73 rfl ?_
                  refine j_icmp_gt (tgt := 124) dX7_waysToMakeUp_75 (by decide) (fun c75_7 => ?_) (fun c75_7 => ?_)
                  · skip
                    refine j_aload 5 dX7_waysToMakeUp_124 rfl ?_
                    refine j_astore (ls' := [(0, jR 28), (1, jI q), (2, jI D), (3, jI w), (4, jI v4_1), (5, jR v5), (6, jR v6), (7, jI v7), (8, jL v8), (10, jR v5)]) dX7_waysToMakeUp_126 (by decide) rfl ?_
                    refine j_aload 6 dX7_waysToMakeUp_128 rfl ?_
                    refine j_astore (ls' := [(0, jR 28), (1, jI q), (2, jI D), (3, jI w), (4, jI v4_1), (5, jR v6), (6, jR v6), (7, jI v7), (8, jL v8), (10, jR v5)]) dX7_waysToMakeUp_130 (by decide) rfl ?_
                    refine j_aload 9 dX7_waysToMakeUp_132 rfl ?_
                    refine j_astore (ls' := [(0, jR 28), (1, jI q), (2, jI D), (3, jI w), (4, jI v4_1), (5, jR v6), (6, jR v5), (7, jI v7), (8, jL v8), (10, jR v5)]) dX7_waysToMakeUp_134 (by decide) rfl ?_
                    obtain ⟨v7_8, ev7_8⟩ : ∃ y : Int, y = v7 + 1 := ⟨_, rfl⟩
                    refine j_iinc (y := v7_8) (ls' := [(0, jR 28), (1, jI q), (2, jI D), (3, jI w), (4, jI v4_1), (5, jR v6), (6, jR v5), (7, jI v7_8), (8, jL v8), (10, jR v5)]) 7 dX7_waysToMakeUp_136 rfl ev7_8 (by omega) (by decide) rfl ?_
                    refine j_goto (tgt := 59) dX7_waysToMakeUp_139 (by decide) ?_
                    refine j_sub (ls' := [(0, jR 28), (1, jI q), (2, jI D), (3, jI w), (4, jI v4_1), (5, jR v6), (6, jR v5), (7, jI v7_8)]) [0, 1, 2, 3, 4, 5, 6, 7] rfl ?_
                    exact ih59 v6 v5 v7_8 N71 ⟨by omega, by omega, by intro k k0 k1; rw [ev7_8, toNat_s h7.1]; exact hn k k0 (by omega), by exact hk3⟩ (by omega)
                  · skip
                    refine j_lload 8 dX7_waysToMakeUp_78 rfl ?_
                    refine j_aload 5 dX7_waysToMakeUp_80 rfl ?_
                    refine j_iload 9 dX7_waysToMakeUp_82 rfl ?_
                    refine j_lald (a_ways h5).1 dX7_waysToMakeUp_84 (by omega) (by omega) ?_
                    refine j_ladd dX7_waysToMakeUp_85 ?_
                    refine j_nmL (fun v8_9 ev8_9 => ?_)
                    refine j_lstore (ls' := [(0, jR 28), (1, jI q), (2, jI D), (3, jI w), (4, jI v4_1), (5, jR v5), (6, jR v6), (7, jI v7), (8, jL v8_9), (10, jI v10)]) dX7_waysToMakeUp_86 (by decide) rfl ?_
                    refine j_iload 9 dX7_waysToMakeUp_88 rfl ?_
                    refine j_iload_n 3 dX7_waysToMakeUp_90 rfl rfl ?_
                    refine j_isub dX7_waysToMakeUp_91 (by omega) ?_
                    refine j_iconst dX7_waysToMakeUp_92 (by decide) ?_
                    refine j_isub dX7_waysToMakeUp_93 (by omega) ?_
                    refine j_nm (fun v11_10 ev11_10 => ?_)
                    refine j_istore (ls' := [(0, jR 28), (1, jI q), (2, jI D), (3, jI w), (4, jI v4_1), (5, jR v5), (6, jR v6), (7, jI v7), (8, jL v8_9), (10, jI v10), (11, jI v11_10)]) dX7_waysToMakeUp_94 (by decide) rfl ?_
                    refine j_iload 10 dX7_waysToMakeUp_96 rfl ?_
                    refine j_if_lt (tgt := 111) dX7_waysToMakeUp_98 (by decide) (fun c98_11 => ?_) (fun c98_11 => ?_)
                    · skip
                      have ho1 := ho v10 g1.1 (by omega)
                      have hs : v8_9 = zV w (v7.toNat + 1) v10 := zV_in g1.1 gs (by first | (right; omega; done) | (left; refine ⟨by omega, ?_⟩; have ho2 := ho v11_10 (by omega) (by omega); rw [← ev11_10]; omega))
                      refine j_aload 6 dX7_waysToMakeUp_111 rfl ?_
                      refine j_iload 9 dX7_waysToMakeUp_113 rfl ?_
                      refine j_lload 8 dX7_waysToMakeUp_115 rfl ?_
                      refine j_last (a_ways h5).2 dX7_waysToMakeUp_117 (by omega) (by omega) ?_
                      refine j_nmM (fun M_12 eM_12 => ?_)
                      obtain ⟨v10_13, ev10_13⟩ : ∃ y : Int, y = v10 + 1 := ⟨_, rfl⟩
                      refine j_iinc (y := v10_13) (ls' := [(0, jR 28), (1, jI q), (2, jI D), (3, jI w), (4, jI v4_1), (5, jR v5), (6, jR v6), (7, jI v7), (8, jL v8_9), (10, jI v10_13), (11, jI v11_10)]) 9 dX7_waysToMakeUp_118 rfl ev10_13 (by omega) (by decide) rfl ?_
                      refine j_goto (tgt := 71) dX7_waysToMakeUp_121 (by decide) ?_
                      refine j_sub (ls' := [(0, jR 28), (1, jI q), (2, jI D), (3, jI w), (4, jI v4_1), (5, jR v5), (6, jR v6), (7, jI v7), (8, jL v8_9), (10, jI v10_13)]) [0, 1, 2, 3, 4, 5, 6, 7, 8, 9] rfl ?_
                      exact ih71 v8_9 v10_13 M_12 ⟨by omega, by rw [ev10_13]; exact zV_to hs g1.1, by intro k k0 k1; rw [eM_12, jup_at]; by_cases hl : k = v10; (· rw [hl, if_pos rfl]; exact hs); (· rw [if_neg hl]; exact hn k k0 (by omega)), by intro k k0 k1; rw [eM_12, jup_cell (by omega)]; exact ho k k0 k1, by intro c z1 z2; rw [eM_12, jup_cell (by omega)]; exact hk3 c z1 z2⟩ (by omega)
                    · skip
                      refine j_lload 8 dX7_waysToMakeUp_101 rfl ?_
                      refine j_aload 5 dX7_waysToMakeUp_103 rfl ?_
                      refine j_iload 10 dX7_waysToMakeUp_105 rfl ?_
                      refine j_lald (a_ways h5).1 dX7_waysToMakeUp_107 (by omega) (by omega) ?_
                      refine j_lsub dX7_waysToMakeUp_108 ?_
                      refine j_nmL (fun v8_14 ev8_14 => ?_)
                      refine j_lstore (ls' := [(0, jR 28), (1, jI q), (2, jI D), (3, jI w), (4, jI v4_1), (5, jR v5), (6, jR v6), (7, jI v7), (8, jL v8_14), (10, jI v10), (11, jI v11_10)]) dX7_waysToMakeUp_109 (by decide) rfl ?_
                      have ho1 := ho v10 g1.1 (by omega)
                      have hs : v8_14 = zV w (v7.toNat + 1) v10 := zV_in g1.1 gs (by first | (right; omega; done) | (left; refine ⟨by omega, ?_⟩; have ho2 := ho v11_10 (by omega) (by omega); rw [← ev11_10]; omega))
                      refine j_aload 6 dX7_waysToMakeUp_111 rfl ?_
                      refine j_iload 9 dX7_waysToMakeUp_113 rfl ?_
                      refine j_lload 8 dX7_waysToMakeUp_115 rfl ?_
                      refine j_last (a_ways h5).2 dX7_waysToMakeUp_117 (by omega) (by omega) ?_
                      refine j_nmM (fun M_15 eM_15 => ?_)
                      obtain ⟨v10_16, ev10_16⟩ : ∃ y : Int, y = v10 + 1 := ⟨_, rfl⟩
                      refine j_iinc (y := v10_16) (ls' := [(0, jR 28), (1, jI q), (2, jI D), (3, jI w), (4, jI v4_1), (5, jR v5), (6, jR v6), (7, jI v7), (8, jL v8_14), (10, jI v10_16), (11, jI v11_10)]) 9 dX7_waysToMakeUp_118 rfl ev10_16 (by omega) (by decide) rfl ?_
                      refine j_goto (tgt := 71) dX7_waysToMakeUp_121 (by decide) ?_
                      refine j_sub (ls' := [(0, jR 28), (1, jI q), (2, jI D), (3, jI w), (4, jI v4_1), (5, jR v5), (6, jR v6), (7, jI v7), (8, jL v8_14), (10, jI v10_16)]) [0, 1, 2, 3, 4, 5, 6, 7, 8, 9] rfl ?_
                      exact ih71 v8_14 v10_16 M_15 ⟨by omega, by rw [ev10_16]; exact zV_to hs g1.1, by intro k k0 k1; rw [eM_15, jup_at]; by_cases hl : k = v10; (· rw [hl, if_pos rfl]; exact hs); (· rw [if_neg hl]; exact hn k k0 (by omega)), by intro k k0 k1; rw [eM_15, jup_cell (by omega)]; exact ho k k0 k1, by intro c z1 z2; rw [eM_15, jup_cell (by omega)]; exact hk3 c z1 z2⟩ (by omega)
              exact lp71_6 _ 0 0 N59 ⟨by omega, by rw [show ((0 : Int) - 1 - w).toNat = 0 by omega]; rfl, by intro k k0 k1; omega, by exact hv2, by exact hk2⟩ (Nat.lt_succ_self _)
        exact lp59_4 _ 34 35 0 N28 ⟨by omega, by omega, by intro k k0 k1; exact hv k k0 (by omega), by exact hk⟩ (Nat.lt_succ_self _)
      · skip
        refine j_aload 5 dX7_waysToMakeUp_35 rfl ?_
        refine j_iload 7 dX7_waysToMakeUp_37 rfl ?_
        refine j_iload 7 dX7_waysToMakeUp_39 rfl ?_
        have hJ_17 : ∀ zz : Int, (¬ v7 = 0 ∧ zz = 0) ∨ (v7 = 0 ∧ zz = 1) → jG D_X7_waysToMakeUp X FJ shJ 0 0 (jqL (q_X7_waysToMakeUp M q D w)) 49 [(0, jR 28), (1, jI q), (2, jI D), (3, jI w), (4, jI v4_1), (5, jR 34), (6, jR 35), (7, jI v7)] (jL zz :: jI v7 :: jR 34 :: []) N28 := by
          intro t_18 et_18
          refine j_last a_34 dX7_waysToMakeUp_49 (by omega) (by omega) ?_
          refine j_nmM (fun M_19 eM_19 => ?_)
          obtain ⟨v7_20, ev7_20⟩ : ∃ y : Int, y = v7 + 1 := ⟨_, rfl⟩
          refine j_iinc (y := v7_20) (ls' := [(0, jR 28), (1, jI q), (2, jI D), (3, jI w), (4, jI v4_1), (5, jR 34), (6, jR 35), (7, jI v7_20)]) 7 dX7_waysToMakeUp_50 rfl ev7_20 (by omega) (by decide) rfl ?_
          refine j_goto (tgt := 28) dX7_waysToMakeUp_53 (by decide) ?_
          exact ih28 v7_20 M_19 ⟨by omega, by intro k k0 k1; rw [eM_19, jup_at]; show _ = if k = 0 then 1 else 0; by_cases hl : k = v7; (· rw [if_pos hl]; split <;> omega); (· rw [if_neg hl]; exact hv k k0 (by omega)), by intro c z1 z2; rw [eM_19, jup_cell z1]; exact hk c z1 z2⟩ (by omega)
        refine j_if_ne (tgt := 48) dX7_waysToMakeUp_41 (by decide) (fun c41_21 => ?_) (fun c41_21 => ?_)
        · skip
          refine j_lconst (v := 0) dX7_waysToMakeUp_48 rfl ?_
          exact hJ_17 _ (Or.inl ⟨c41_21, rfl⟩)
        · skip
          refine j_lconst (v := 1) dX7_waysToMakeUp_44 rfl ?_
          refine j_goto (tgt := 49) dX7_waysToMakeUp_45 (by decide) ?_
          exact hJ_17 _ (Or.inr (⟨c41_21, rfl⟩))
  exact lp28_2 _ 0 M ⟨by omega, by intro k k0 k1; omega, by intro c _ _; rfl⟩ (Nat.lt_succ_self _)
abbrev q_X9_lost (M : jM)  (m D w : Int) : Int → jM → Prop := fun r N => r = (if 0 ≤ m ∧ m ≤ 2000 ∧ 1 ≤ D ∧ D ≤ 10 ∧ 0 ≤ w ∧ w ≤ 240 then zV (w / 15) D.toNat ((m + 14) / 15) else -1) ∧ (∀ c, c ≠ 109 → c ≠ 110 → N c = jup M 74 0 0 c)
set_option maxHeartbeats 4000000 in
set_option maxRecDepth 20000 in
theorem c_X9_lost {X : jX} (M : jM)  (m D w : Int)  : jC yX9_lost D_X9_lost X FJ shJ [jR 74, jI m, jI D, jI w] M (jqL (q_X9_lost M m D w)) := by
  refine jC_of (by decide) rfl (fun ad => Nat.le_of_ble_eq_true rfl) (by decide) ?_
  show jG D_X9_lost X FJ shJ 0 0 (jqL (q_X9_lost M m D w)) 0 [(0, jR 74), (1, jI m), (2, jI D), (3, jI w)] [] M
  refine j_aload_n 0 dX9_lost_0 rfl rfl ?_
  refine j_iconst dX9_lost_1 (by decide) ?_
  refine j_puti (k' := 0) f_X9_124 o_74_0 dX9_lost_2 rfl ?_
  refine j_nmM (fun M_1 eM_1 => ?_)
  refine j_iload_n 1 dX9_lost_5 rfl rfl ?_
  refine j_iconst dX9_lost_6 (by decide) ?_
  refine j_sipush dX9_lost_7 (by decide) ?_
  refine j_callSi l_X9_137 ⟨Nat.le_of_ble_eq_true rfl, Nat.le_of_ble_eq_true rfl⟩ ⟨rfl, rfl⟩ dX9_lost_10 (c_X9_in M_1 m 0 2000) rfl rfl (Nat.le_of_ble_eq_true rfl) (fun r_2 M_3 h_4 => ?_)
  obtain ⟨er_2, nh_4⟩ := h_4
  refine j_eqM nh_4 ?_
  clear nh_4
  refine j_if_eq (tgt := 37) dX9_lost_13 (by decide) (fun c13_5 => ?_) (fun c13_5 => ?_)
  · skip
    refine j_ldc2_w (n := (-1)) dX9_lost_37 c_X9_322 ?_
    refine j_lret rfl rfl rfl rfl dX9_lost_40 ?_
    exact ⟨by rw [if_neg (by omega)], fun c _ _ => by rw [eM_1]⟩
  · skip
    refine j_iload_n 2 dX9_lost_16 rfl rfl ?_
    refine j_iconst dX9_lost_17 (by decide) ?_
    refine j_bipush dX9_lost_18 (by decide) ?_
    refine j_callSi l_X9_137 ⟨Nat.le_of_ble_eq_true rfl, Nat.le_of_ble_eq_true rfl⟩ ⟨rfl, rfl⟩ dX9_lost_20 (c_X9_in M_1 D 1 10) rfl rfl (Nat.le_of_ble_eq_true rfl) (fun r_6 M_7 h_8 => ?_)
    obtain ⟨er_6, nh_8⟩ := h_8
    refine j_eqM nh_8 ?_
    clear nh_8
    refine j_if_eq (tgt := 37) dX9_lost_23 (by decide) (fun c23_9 => ?_) (fun c23_9 => ?_)
    · skip
      refine j_ldc2_w (n := (-1)) dX9_lost_37 c_X9_322 ?_
      refine j_lret rfl rfl rfl rfl dX9_lost_40 ?_
      exact ⟨by rw [if_neg (by omega)], fun c _ _ => by rw [eM_1]⟩
    · skip
      refine j_iload_n 3 dX9_lost_26 rfl rfl ?_
      refine j_iconst dX9_lost_27 (by decide) ?_
      refine j_sipush dX9_lost_28 (by decide) ?_
      refine j_callSi l_X9_137 ⟨Nat.le_of_ble_eq_true rfl, Nat.le_of_ble_eq_true rfl⟩ ⟨rfl, rfl⟩ dX9_lost_31 (c_X9_in M_1 w 0 240) rfl rfl (Nat.le_of_ble_eq_true rfl) (fun r_10 M_11 h_12 => ?_)
      obtain ⟨er_10, nh_12⟩ := h_12
      refine j_eqM nh_12 ?_
      clear nh_12
      refine j_if_ne (tgt := 41) dX9_lost_34 (by decide) (fun c34_13 => ?_) (fun c34_13 => ?_)
      · skip
        refine j_iload_n 1 dX9_lost_41 rfl rfl ?_
        refine j_bipush dX9_lost_42 (by decide) ?_
        refine j_iadd dX9_lost_44 (by omega) ?_
        refine j_bipush dX9_lost_45 (by decide) ?_
        refine j_idiv dX9_lost_47 (by omega) (by omega) ?_
        refine j_nm (fun v4_14 ev4_14 => ?_)
        refine j_istore (ls' := [(0, jR 74), (1, jI m), (2, jI D), (3, jI w), (4, jI v4_14)]) dX9_lost_48 (by decide) rfl ?_
        refine j_iconst dX9_lost_50 (by decide) ?_
        refine j_istore (ls' := [(0, jR 74), (1, jI m), (2, jI D), (3, jI w), (4, jI v4_14), (5, jI 0)]) dX9_lost_51 (by decide) rfl ?_
        have lp53_15 : ∀ n53 : Nat, ∀ (v5 : Int), ∀ N53 : jM, (0 ≤ v5 ∧ v5 ≤ 140) ∧ (∀ k, 0 ≤ k → k < v5 → N53 109 k = zV (w / 15) 0 k) ∧ (∀ c, c ≠ 109 → c ≠ 110 → N53 c = M_1 c) → (140 - v5).toNat < n53 → jG D_X9_lost X FJ shJ 0 0 (jqL (q_X9_lost M m D w)) 53 [(0, jR 74), (1, jI m), (2, jI D), (3, jI w), (4, jI v4_14), (5, jI v5)] ([]) N53 := by
          intro n53
          induction n53 with
          | zero => intro v5 N53 _ hz; exact absurd hz (Nat.not_lt_zero _)
          | succ n53 ih53 =>
            intro v5 N53 hinv hm
            obtain ⟨h1, hv, hk⟩ := hinv
            refine j_iload 5 dX9_lost_53 rfl ?_
            refine j_sipush dX9_lost_55 (by decide) ?_
            refine j_icmp_ge (tgt := 84) dX9_lost_58 (by decide) (fun c58_16 => ?_) (fun c58_16 => ?_)
            · skip
              refine j_iconst dX9_lost_84 (by decide) ?_
              refine j_istore (ls' := [(0, jR 74), (1, jI m), (2, jI D), (3, jI w), (4, jI v4_14), (5, jI 0)]) dX9_lost_85 (by decide) rfl ?_
              have lp87_17 : ∀ n87 : Nat, ∀ (v5 : Int), ∀ N87 : jM, (0 ≤ v5 ∧ v5 ≤ D) ∧ (∀ k, 0 ≤ k → k ≤ v4_14 → N87 109 k = zV (w / 15) v5.toNat k) ∧ (∀ c, c ≠ 109 → c ≠ 110 → N87 c = M_1 c) → (D - v5).toNat < n87 → jG D_X9_lost X FJ shJ 0 0 (jqL (q_X9_lost M m D w)) 87 [(0, jR 74), (1, jI m), (2, jI D), (3, jI w), (4, jI v4_14), (5, jI v5)] ([]) N87 := by
                intro n87
                induction n87 with
                | zero => intro v5 N87 _ hz; exact absurd hz (Nat.not_lt_zero _)
                | succ n87 ih87 =>
                  intro v5 N87 hinv hm
                  obtain ⟨h5, hv2, hk2⟩ := hinv
                  refine j_iload 5 dX9_lost_87 rfl ?_
                  refine j_iload_n 2 dX9_lost_89 rfl rfl ?_
                  refine j_icmp_ge (tgt := 198) dX9_lost_90 (by decide) (fun c90_18 => ?_) (fun c90_18 => ?_)
                  · skip
                    refine j_aload_n 0 dX9_lost_198 rfl rfl ?_
                    refine j_getr f_X9_114 r_74_50 dX9_lost_199 ?_
                    refine j_iload 4 dX9_lost_202 rfl ?_
                    refine j_lald a_109 dX9_lost_204 (by omega) (by omega) ?_
                    refine j_lret rfl rfl rfl rfl dX9_lost_205 ?_
                    refine ⟨?_, fun c z1 z2 => by rw [hk2 c z1 z2, eM_1]⟩
                    rw [hv2 _ (by omega) (by omega), if_pos (by omega), show v5 = D by omega]
                    rw [ev4_14]
                  · skip
                    refine j_iconst dX9_lost_93 (by decide) ?_
                    refine j_istore (ls' := [(0, jR 74), (1, jI m), (2, jI D), (3, jI w), (4, jI v4_14), (5, jI v5), (6, jI 0)]) dX9_lost_94 (by decide) rfl ?_
                    have lp96_19 : ∀ n96 : Nat, ∀ (v6 : Int), ∀ N96 : jM, (0 ≤ v6 ∧ v6 ≤ v4_14 + 1) ∧ (∀ k, 0 ≤ k → k ≤ v4_14 → N96 109 k = zV (w / 15) v5.toNat k) ∧ (∀ k, 0 ≤ k → k < v6 → N96 110 k = zV (w / 15) (v5.toNat + 1) k) ∧ (∀ c, c ≠ 109 → c ≠ 110 → N96 c = M_1 c) → (v4_14 + 1 - v6).toNat < n96 → jG D_X9_lost X FJ shJ 0 0 (jqL (q_X9_lost M m D w)) 96 [(0, jR 74), (1, jI m), (2, jI D), (3, jI w), (4, jI v4_14), (5, jI v5), (6, jI v6)] ([]) N96 := by
                      intro n96
                      induction n96 with
                      | zero => intro v6 N96 _ hz; exact absurd hz (Nat.not_lt_zero _)
                      | succ n96 ih96 =>
                        intro v6 N96 hinv hm
                        obtain ⟨g1, ho, hn, hk3⟩ := hinv
                        refine j_iload 6 dX9_lost_96 rfl ?_
                        refine j_iload 4 dX9_lost_98 rfl ?_
                        refine j_icmp_gt (tgt := 162) dX9_lost_100 (by decide) (fun c100_20 => ?_) (fun c100_20 => ?_)
                        · skip
                          refine j_iconst dX9_lost_162 (by decide) ?_
                          refine j_istore (ls' := [(0, jR 74), (1, jI m), (2, jI D), (3, jI w), (4, jI v4_14), (5, jI v5), (6, jI 0)]) dX9_lost_163 (by decide) rfl ?_
                          have lp165_21 : ∀ n165 : Nat, ∀ (v6 : Int), ∀ N165 : jM, (0 ≤ v6 ∧ v6 ≤ v4_14 + 1) ∧ (∀ k, 0 ≤ k → k < v6 → N165 109 k = zV (w / 15) (v5.toNat + 1) k) ∧ (∀ k, 0 ≤ k → k ≤ v4_14 → N165 110 k = zV (w / 15) (v5.toNat + 1) k) ∧ (∀ c, c ≠ 109 → c ≠ 110 → N165 c = M_1 c) → (v4_14 + 1 - v6).toNat < n165 → jG D_X9_lost X FJ shJ 0 0 (jqL (q_X9_lost M m D w)) 165 [(0, jR 74), (1, jI m), (2, jI D), (3, jI w), (4, jI v4_14), (5, jI v5), (6, jI v6)] ([]) N165 := by
                            intro n165
                            induction n165 with
                            | zero => intro v6 N165 _ hz; exact absurd hz (Nat.not_lt_zero _)
                            | succ n165 ih165 =>
                              intro v6 N165 hinv hm
                              obtain ⟨y1, hd, hm2, hk5⟩ := hinv
                              refine j_iload 6 dX9_lost_165 rfl ?_
                              refine j_iload 4 dX9_lost_167 rfl ?_
                              refine j_icmp_gt (tgt := 192) dX9_lost_169 (by decide) (fun c169_22 => ?_) (fun c169_22 => ?_)
                              · skip
                                obtain ⟨v5_23, ev5_23⟩ : ∃ y : Int, y = v5 + 1 := ⟨_, rfl⟩
                                refine j_iinc (y := v5_23) (ls' := [(0, jR 74), (1, jI m), (2, jI D), (3, jI w), (4, jI v4_14), (5, jI v5_23), (6, jI v6)]) 5 dX9_lost_192 rfl ev5_23 (by omega) (by decide) rfl ?_
                                refine j_goto (tgt := 87) dX9_lost_195 (by decide) ?_
                                refine j_sub (ls' := [(0, jR 74), (1, jI m), (2, jI D), (3, jI w), (4, jI v4_14), (5, jI v5_23)]) [0, 1, 2, 3, 4, 5] rfl ?_
                                exact ih87 v5_23 N165 ⟨by omega, by intro k k0 k1; rw [ev5_23, toNat_s h5.1]; exact hd k k0 (by omega), by exact hk5⟩ (by omega)
                              · skip
                                refine j_aload_n 0 dX9_lost_172 rfl rfl ?_
                                refine j_getr f_X9_114 r_74_50 dX9_lost_173 ?_
                                refine j_iload 6 dX9_lost_176 rfl ?_
                                refine j_aload_n 0 dX9_lost_178 rfl rfl ?_
                                refine j_getr f_X9_117 r_74_51 dX9_lost_179 ?_
                                refine j_iload 6 dX9_lost_182 rfl ?_
                                refine j_lald a_110 dX9_lost_184 (by omega) (by omega) ?_
                                refine j_last a_109 dX9_lost_185 (by omega) (by omega) ?_
                                refine j_nmM (fun M_24 eM_24 => ?_)
                                obtain ⟨v6_25, ev6_25⟩ : ∃ y : Int, y = v6 + 1 := ⟨_, rfl⟩
                                refine j_iinc (y := v6_25) (ls' := [(0, jR 74), (1, jI m), (2, jI D), (3, jI w), (4, jI v4_14), (5, jI v5), (6, jI v6_25)]) 6 dX9_lost_186 rfl ev6_25 (by omega) (by decide) rfl ?_
                                refine j_goto (tgt := 165) dX9_lost_189 (by decide) ?_
                                exact ih165 v6_25 M_24 ⟨by omega, by intro k k0 k1; rw [eM_24, jup_at]; by_cases hl : k = v6; (· rw [hl, if_pos rfl]; exact hm2 _ (by omega) (by omega)); (· rw [if_neg hl]; exact hd k k0 (by omega)), by intro k k0 k1; rw [eM_24, jup_cell (by decide)]; exact hm2 k k0 k1, by intro c z1 z2; rw [eM_24, jup_cell z1]; exact hk5 c z1 z2⟩ (by omega)
                          exact lp165_21 _ 0 N96 ⟨by omega, by intro k k0 k1; omega, by intro k k0 k1; exact hn k k0 (by omega), by exact hk3⟩ (Nat.lt_succ_self _)
                        · skip
                          refine j_aload_n 0 dX9_lost_103 rfl rfl ?_
                          refine j_getr f_X9_117 r_74_51 dX9_lost_104 ?_
                          refine j_iload 6 dX9_lost_107 rfl ?_
                          refine j_lconst (v := 0) dX9_lost_109 rfl ?_
                          refine j_last a_110 dX9_lost_110 (by omega) (by omega) ?_
                          refine j_nmM (fun M_26 eM_26 => ?_)
                          refine j_iconst dX9_lost_111 (by decide) ?_
                          refine j_istore (ls' := [(0, jR 74), (1, jI m), (2, jI D), (3, jI w), (4, jI v4_14), (5, jI v5), (6, jI v6), (7, jI 0)]) dX9_lost_112 (by decide) rfl ?_
                          have lp114_27 : ∀ n114 : Nat, ∀ (v7 : Int), ∀ N114 : jM, (0 ≤ v7 ∧ v7 ≤ v6 + 1 ∧ v7 ≤ (w / 15) + 1) ∧ (N114 110 v6 = zP (zV (w / 15) v5.toNat) (v6 + 1).toNat - zP (zV (w / 15) v5.toNat) (v6 + 1 - v7).toNat) ∧ (∀ k, 0 ≤ k → k ≤ v4_14 → N114 109 k = zV (w / 15) v5.toNat k) ∧ (∀ k, 0 ≤ k → k < v6 → N114 110 k = zV (w / 15) (v5.toNat + 1) k) ∧ (∀ c, c ≠ 109 → c ≠ 110 → N114 c = M_1 c) → (v6 + 1 - v7).toNat < n114 → jG D_X9_lost X FJ shJ 0 0 (jqL (q_X9_lost M m D w)) 114 [(0, jR 74), (1, jI m), (2, jI D), (3, jI w), (4, jI v4_14), (5, jI v5), (6, jI v6), (7, jI v7)] ([]) N114 := by
                            intro n114
                            induction n114 with
                            | zero => intro v7 N114 _ hz; exact absurd hz (Nat.not_lt_zero _)
                            | succ n114 ih114 =>
                              intro v7 N114 hinv hm
                              obtain ⟨x1, hc, ho2, hn2, hk4⟩ := hinv
                              refine j_iload 7 dX9_lost_114 rfl ?_
                              refine j_iload_n 3 dX9_lost_116 rfl rfl ?_
                              refine j_bipush dX9_lost_117 (by decide) ?_
                              refine j_idiv dX9_lost_119 (by omega) (by omega) ?_
                              refine j_icmp_gt (tgt := 156) dX9_lost_120 (by decide) (fun c120_28 => ?_) (fun c120_28 => ?_)
                              · skip
                                obtain ⟨v6_29, ev6_29⟩ : ∃ y : Int, y = v6 + 1 := ⟨_, rfl⟩
                                refine j_iinc (y := v6_29) (ls' := [(0, jR 74), (1, jI m), (2, jI D), (3, jI w), (4, jI v4_14), (5, jI v5), (6, jI v6_29), (7, jI v7)]) 6 dX9_lost_156 rfl ev6_29 (by omega) (by decide) rfl ?_
                                refine j_goto (tgt := 96) dX9_lost_159 (by decide) ?_
                                refine j_sub (ls' := [(0, jR 74), (1, jI m), (2, jI D), (3, jI w), (4, jI v4_14), (5, jI v5), (6, jI v6_29)]) [0, 1, 2, 3, 4, 5, 6] rfl ?_
                                exact ih96 v6_29 N114 ⟨by omega, by exact ho2, by intro k k0 k1; by_cases hl : k = v6; (· rw [hl, hc]; show _ = zP (zV (w / 15) v5.toNat) (v6 + 1).toNat - zP (zV (w / 15) v5.toNat) (v6 - (w / 15)).toNat; rw [show (v6 + 1 - v7).toNat = (v6 - (w / 15)).toNat by omega]); (· exact hn2 k k0 (by omega)), by exact hk4⟩ (by omega)
                              · skip
                                refine j_iload 7 dX9_lost_123 rfl ?_
                                refine j_iload 6 dX9_lost_125 rfl ?_
                                refine j_icmp_gt (tgt := 156) dX9_lost_127 (by decide) (fun c127_30 => ?_) (fun c127_30 => ?_)
                                · skip
                                  obtain ⟨v6_31, ev6_31⟩ : ∃ y : Int, y = v6 + 1 := ⟨_, rfl⟩
                                  refine j_iinc (y := v6_31) (ls' := [(0, jR 74), (1, jI m), (2, jI D), (3, jI w), (4, jI v4_14), (5, jI v5), (6, jI v6_31), (7, jI v7)]) 6 dX9_lost_156 rfl ev6_31 (by omega) (by decide) rfl ?_
                                  refine j_goto (tgt := 96) dX9_lost_159 (by decide) ?_
                                  refine j_sub (ls' := [(0, jR 74), (1, jI m), (2, jI D), (3, jI w), (4, jI v4_14), (5, jI v5), (6, jI v6_31)]) [0, 1, 2, 3, 4, 5, 6] rfl ?_
                                  exact ih96 v6_31 N114 ⟨by omega, by exact ho2, by intro k k0 k1; by_cases hl : k = v6; (· rw [hl, hc]; show _ = zP (zV (w / 15) v5.toNat) (v6 + 1).toNat - zP (zV (w / 15) v5.toNat) (v6 - (w / 15)).toNat; rw [show (v6 + 1 - v7).toNat = (v6 - (w / 15)).toNat by omega]); (· exact hn2 k k0 (by omega)), by exact hk4⟩ (by omega)
                                · skip
                                  refine j_aload_n 0 dX9_lost_130 rfl rfl ?_
                                  refine j_getr f_X9_117 r_74_51 dX9_lost_131 ?_
                                  refine j_iload 6 dX9_lost_134 rfl ?_
                                  refine j_dup2 dX9_lost_136 rfl rfl ?_
                                  refine j_lald a_110 dX9_lost_137 (by omega) (by omega) ?_
                                  refine j_aload_n 0 dX9_lost_138 rfl rfl ?_
                                  refine j_getr f_X9_114 r_74_50 dX9_lost_139 ?_
                                  refine j_iload 6 dX9_lost_142 rfl ?_
                                  refine j_iload 7 dX9_lost_144 rfl ?_
                                  refine j_isub dX9_lost_146 (by omega) ?_
                                  refine j_lald a_109 dX9_lost_147 (by omega) (by omega) ?_
                                  refine j_ladd dX9_lost_148 ?_
                                  refine j_last a_110 dX9_lost_149 (by omega) (by omega) ?_
                                  refine j_nmM (fun M_32 eM_32 => ?_)
                                  obtain ⟨v7_33, ev7_33⟩ : ∃ y : Int, y = v7 + 1 := ⟨_, rfl⟩
                                  refine j_iinc (y := v7_33) (ls' := [(0, jR 74), (1, jI m), (2, jI D), (3, jI w), (4, jI v4_14), (5, jI v5), (6, jI v6), (7, jI v7_33)]) 7 dX9_lost_150 rfl ev7_33 (by omega) (by decide) rfl ?_
                                  refine j_goto (tgt := 114) dX9_lost_153 (by decide) ?_
                                  exact ih114 v7_33 M_32 ⟨by omega, by rw [eM_32, jup_self, hc, ho2 _ (by omega) (by omega), ev7_33, show v6 + 1 - v7 = v6 - v7 + 1 by omega, zP_s (show 0 ≤ v6 - v7 by omega), show v6 + 1 - (v7 + 1) = v6 - v7 by omega]; omega, by intro k k0 k1; rw [eM_32, jup_cell (by decide)]; exact ho2 k k0 k1, by intro k k0 k1; rw [eM_32, jup_at, if_neg (by omega)]; exact hn2 k k0 k1, by intro c z1 z2; rw [eM_32, jup_cell z2]; exact hk4 c z1 z2⟩ (by omega)
                          exact lp114_27 _ 0 M_26 ⟨by omega, by rw [eM_26, jup_self, show v6 + 1 - 0 = v6 + 1 by omega]; omega, by intro k k0 k1; rw [eM_26, jup_cell (by decide)]; exact ho k k0 k1, by intro k k0 k1; rw [eM_26, jup_at, if_neg (by omega)]; exact hn k k0 k1, by intro c z1 z2; rw [eM_26, jup_cell z2]; exact hk3 c z1 z2⟩ (Nat.lt_succ_self _)
                    exact lp96_19 _ 0 N87 ⟨by omega, by exact hv2, by intro k k0 k1; omega, by exact hk2⟩ (Nat.lt_succ_self _)
              exact lp87_17 _ 0 N53 ⟨by omega, by intro k k0 k1; exact hv k k0 (by omega), by exact hk⟩ (Nat.lt_succ_self _)
            · skip
              refine j_aload_n 0 dX9_lost_61 rfl rfl ?_
              refine j_getr f_X9_114 r_74_50 dX9_lost_62 ?_
              refine j_iload 5 dX9_lost_65 rfl ?_
              refine j_iload 5 dX9_lost_67 rfl ?_
              have hJ_34 : ∀ zz : Int, (¬ v5 = 0 ∧ zz = 0) ∨ (v5 = 0 ∧ zz = 1) → jG D_X9_lost X FJ shJ 0 0 (jqL (q_X9_lost M m D w)) 77 [(0, jR 74), (1, jI m), (2, jI D), (3, jI w), (4, jI v4_14), (5, jI v5)] (jL zz :: jI v5 :: jR 109 :: []) N53 := by
                intro t_35 et_35
                refine j_last a_109 dX9_lost_77 (by omega) (by omega) ?_
                refine j_nmM (fun M_36 eM_36 => ?_)
                obtain ⟨v5_37, ev5_37⟩ : ∃ y : Int, y = v5 + 1 := ⟨_, rfl⟩
                refine j_iinc (y := v5_37) (ls' := [(0, jR 74), (1, jI m), (2, jI D), (3, jI w), (4, jI v4_14), (5, jI v5_37)]) 5 dX9_lost_78 rfl ev5_37 (by omega) (by decide) rfl ?_
                refine j_goto (tgt := 53) dX9_lost_81 (by decide) ?_
                exact ih53 v5_37 M_36 ⟨by omega, by intro k k0 k1; rw [eM_36, jup_at]; show _ = if k = 0 then 1 else 0; by_cases hl : k = v5; (· rw [if_pos hl]; split <;> omega); (· rw [if_neg hl]; exact hv k k0 (by omega)), by intro c z1 z2; rw [eM_36, jup_cell z1]; exact hk c z1 z2⟩ (by omega)
              refine j_if_ne (tgt := 76) dX9_lost_69 (by decide) (fun c69_38 => ?_) (fun c69_38 => ?_)
              · skip
                refine j_lconst (v := 0) dX9_lost_76 rfl ?_
                exact hJ_34 _ (Or.inl ⟨c69_38, rfl⟩)
              · skip
                refine j_lconst (v := 1) dX9_lost_72 rfl ?_
                refine j_goto (tgt := 77) dX9_lost_73 (by decide) ?_
                exact hJ_34 _ (Or.inr (⟨c69_38, rfl⟩))
        exact lp53_15 _ 0 M_1 ⟨by omega, by intro k k0 k1; omega, by intro c _ _; rfl⟩ (Nat.lt_succ_self _)
      · skip
        refine j_ldc2_w (n := (-1)) dX9_lost_37 c_X9_322 ?_
        refine j_lret rfl rfl rfl rfl dX9_lost_40 ?_
        exact ⟨by rw [if_neg (by omega)], fun c _ _ => by rw [eM_1]⟩
abbrev q_X8_lost (M : jM)  (m D w : Int) : Int → jM → Prop := fun r N => r = (if 0 ≤ m ∧ m ≤ 2000 ∧ 1 ≤ D ∧ D ≤ 10 ∧ 0 ≤ w ∧ w ≤ 240 then zV (w / 15) D.toNat ((m + 14) / 15) else -1) ∧ (∀ c, c ≠ 34 → c ≠ 35 → N c = M c)
set_option maxHeartbeats 4000000 in
set_option maxRecDepth 20000 in
theorem c_X8_lost {X : jX} (M : jM)  (m D w : Int)  : jC yX8_lost D_X8_lost X FJ shJ [jR 0, jI m, jI D, jI w] M (jqL (q_X8_lost M m D w)) := by
  refine jC_of (by decide) rfl (fun ad => Nat.le_of_ble_eq_true rfl) (by decide) ?_
  show jG D_X8_lost X FJ shJ 0 0 (jqL (q_X8_lost M m D w)) 0 [(0, jR 0), (1, jI m), (2, jI D), (3, jI w)] [] M
  refine j_iload_n 1 dX8_lost_0 rfl rfl ?_
  refine j_iconst dX8_lost_1 (by decide) ?_
  refine j_sipush dX8_lost_2 (by decide) ?_
  refine j_callSi l_X8_74 ⟨Nat.le_of_ble_eq_true rfl, Nat.le_of_ble_eq_true rfl⟩ ⟨rfl, rfl⟩ dX8_lost_5 (c_X8_within M m 0 2000) rfl rfl (Nat.le_of_ble_eq_true rfl) (fun r_1 M_2 h_3 => ?_)
  obtain ⟨er_1, nh_3⟩ := h_3
  refine j_eqM nh_3 ?_
  clear nh_3
  refine j_if_eq (tgt := 32) dX8_lost_8 (by decide) (fun c8_4 => ?_) (fun c8_4 => ?_)
  · skip
    refine j_ldc2_w (n := (-1)) dX8_lost_32 c_X8_228 ?_
    refine j_lret rfl rfl rfl rfl dX8_lost_35 ?_
    exact ⟨by rw [if_neg (by omega)], fun c _ _ => rfl⟩
  · skip
    refine j_iload_n 2 dX8_lost_11 rfl rfl ?_
    refine j_iconst dX8_lost_12 (by decide) ?_
    refine j_bipush dX8_lost_13 (by decide) ?_
    refine j_callSi l_X8_74 ⟨Nat.le_of_ble_eq_true rfl, Nat.le_of_ble_eq_true rfl⟩ ⟨rfl, rfl⟩ dX8_lost_15 (c_X8_within M D 1 10) rfl rfl (Nat.le_of_ble_eq_true rfl) (fun r_5 M_6 h_7 => ?_)
    obtain ⟨er_5, nh_7⟩ := h_7
    refine j_eqM nh_7 ?_
    clear nh_7
    refine j_if_eq (tgt := 32) dX8_lost_18 (by decide) (fun c18_8 => ?_) (fun c18_8 => ?_)
    · skip
      refine j_ldc2_w (n := (-1)) dX8_lost_32 c_X8_228 ?_
      refine j_lret rfl rfl rfl rfl dX8_lost_35 ?_
      exact ⟨by rw [if_neg (by omega)], fun c _ _ => rfl⟩
    · skip
      refine j_iload_n 3 dX8_lost_21 rfl rfl ?_
      refine j_iconst dX8_lost_22 (by decide) ?_
      refine j_sipush dX8_lost_23 (by decide) ?_
      refine j_callSi l_X8_74 ⟨Nat.le_of_ble_eq_true rfl, Nat.le_of_ble_eq_true rfl⟩ ⟨rfl, rfl⟩ dX8_lost_26 (c_X8_within M w 0 240) rfl rfl (Nat.le_of_ble_eq_true rfl) (fun r_9 M_10 h_11 => ?_)
      obtain ⟨er_9, nh_11⟩ := h_11
      refine j_eqM nh_11 ?_
      clear nh_11
      refine j_if_ne (tgt := 36) dX8_lost_29 (by decide) (fun c29_12 => ?_) (fun c29_12 => ?_)
      · skip
        refine j_aload_n 0 dX8_lost_36 rfl rfl ?_
        refine j_getr f_X8_35 r_0_4 dX8_lost_37 ?_
        refine j_iload_n 1 dX8_lost_40 rfl rfl ?_
        refine j_bipush dX8_lost_41 (by decide) ?_
        refine j_iadd dX8_lost_43 (by omega) ?_
        refine j_iconst dX8_lost_44 (by decide) ?_
        refine j_isub dX8_lost_45 (by omega) ?_
        refine j_bipush dX8_lost_46 (by decide) ?_
        refine j_idiv dX8_lost_48 (by omega) (by omega) ?_
        refine j_iload_n 2 dX8_lost_49 rfl rfl ?_
        refine j_iload_n 3 dX8_lost_50 rfl rfl ?_
        refine j_bipush dX8_lost_51 (by decide) ?_
        refine j_idiv dX8_lost_53 (by omega) (by omega) ?_
        refine j_callVl l_X8_230 ⟨Nat.le_of_ble_eq_true rfl, Nat.le_of_ble_eq_true rfl⟩ ⟨rfl, rfl⟩ dX8_lost_54 ob_28 (c_X7_waysToMakeUp M ((((m + 15) - 1) / 15)) D ((w / 15)) (by first | assumption | omega) (by first | assumption | omega) (by first | assumption | omega)) rfl rfl (Nat.le_of_ble_eq_true rfl) (fun r_13 M_14 h_15 => ?_)
        obtain ⟨ez, frh_15⟩ := h_15
        refine j_lret rfl rfl rfl rfl dX8_lost_57 ?_
        refine ⟨?_, frh_15⟩
        rw [if_pos (by omega)]
        rw [show m + 15 - 1 = m + 14 by omega] at ez
        exact ez
      · skip
        refine j_ldc2_w (n := (-1)) dX8_lost_32 c_X8_228 ?_
        refine j_lret rfl rfl rfl rfl dX8_lost_35 ?_
        exact ⟨by rw [if_neg (by omega)], fun c _ _ => rfl⟩
