abbrev q_X7_isShift (M : jM)  (s p most q : Int) : Int → jM → Prop := fun r N => ((r = 1 ∧ (wSum (M 29) s p.toNat ≤ most ∧ zL s p.toNat ≤ q)) ∨ (r = 0 ∧ ¬ (wSum (M 29) s p.toNat ≤ most ∧ zL s p.toNat ≤ q))) ∧ N = M
set_option maxHeartbeats 4000000 in
set_option maxRecDepth 20000 in
theorem c_X7_isShift {X : jX} (M : jM)  (s p most q : Int) (h_cminutes : ∀ i, 0 ≤ M 29 i ∧ M 29 i ≤ 300) (h0 : (0 ≤ s ∧ s < 64) ∧ 0 ≤ p ∧ p ≤ 6) : jC yX7_isShift D_X7_isShift X FJ shJ [jR 28, jI s, jI p, jI most, jI q] M (jqI (q_X7_isShift M s p most q)) := by
  refine jC_of (by decide) rfl (fun ad => Nat.le_of_ble_eq_true rfl) (by decide) ?_
  show jG D_X7_isShift X FJ shJ 0 0 (jqI (q_X7_isShift M s p most q)) 0 [(0, jR 28), (1, jI s), (2, jI p), (3, jI most), (4, jI q)] [] M
  refine j_iconst dX7_isShift_0 (by decide) ?_
  refine j_istore (ls' := [(0, jR 28), (1, jI s), (2, jI p), (3, jI most), (4, jI q), (5, jI 0)]) dX7_isShift_1 (by decide) rfl ?_
  refine j_iconst dX7_isShift_3 (by decide) ?_
  refine j_istore (ls' := [(0, jR 28), (1, jI s), (2, jI p), (3, jI most), (4, jI q), (5, jI 0), (6, jI 0)]) dX7_isShift_4 (by decide) rfl ?_
  refine j_iconst dX7_isShift_6 (by decide) ?_
  refine j_istore (ls' := [(0, jR 28), (1, jI s), (2, jI p), (3, jI most), (4, jI q), (5, jI 0), (6, jI 0), (7, jI 0)]) dX7_isShift_7 (by decide) rfl ?_
  refine j_iconst dX7_isShift_9 (by decide) ?_
  refine j_istore (ls' := [(0, jR 28), (1, jI s), (2, jI p), (3, jI most), (4, jI q), (5, jI 0), (6, jI 0), (7, jI 0), (8, jI 0)]) dX7_isShift_10 (by decide) rfl ?_
  have lp12_1 : ∀ n12 : Nat, ∀ (v5 v6 v7 v8 : Int), (0 ≤ v8 ∧ v8 ≤ p) ∧ (v5 = wSum (M 29) s v8.toNat) ∧ (v6 = zR s v8.toNat) ∧ (v7 = zL s v8.toNat) → (p - v8).toNat < n12 → jG D_X7_isShift X FJ shJ 0 0 (jqI (q_X7_isShift M s p most q)) 12 [(0, jR 28), (1, jI s), (2, jI p), (3, jI most), (4, jI q), (5, jI v5), (6, jI v6), (7, jI v7), (8, jI v8)] ([]) M := by
    intro n12
    induction n12 with
    | zero => intro v5 v6 v7 v8  _ hz; exact absurd hz (Nat.not_lt_zero _)
    | succ n12 ih12 =>
      intro v5 v6 v7 v8  hinv hm
      obtain ⟨h1, h2, h3, h4⟩ := hinv
      have q1 := wSum_in3 h_cminutes s v8.toNat
      have q2 := zR_in s v8.toNat
      have q3 := zL_in s v8.toNat
      have e8 := toNat_c h1.1
      have q4 := @zL_s s v8 h1.1
      refine j_iload 8 dX7_isShift_12 rfl ?_
      refine j_iload_n 2 dX7_isShift_14 rfl rfl ?_
      refine j_icmp_ge (tgt := 64) dX7_isShift_15 (by decide) (fun c15_2 => ?_) (fun c15_2 => ?_)
      · skip
        refine j_iload 5 dX7_isShift_64 rfl ?_
        refine j_iload_n 3 dX7_isShift_66 rfl rfl ?_
        have hJ_3 : ∀ zz : Int, (most < v5 ∧ zz = 0) ∨ (¬ (most < v5) ∧ q < v7 ∧ zz = 0) ∨ (¬ (most < v5) ∧ ¬ (q < v7) ∧ zz = 1) → jG D_X7_isShift X FJ shJ 0 0 (jqI (q_X7_isShift M s p most q)) 82 [(0, jR 28), (1, jI s), (2, jI p), (3, jI most), (4, jI q), (5, jI v5), (6, jI v6), (7, jI v7), (8, jI v8)] (jI zz :: []) M := by
          intro t_4 et_4
          refine j_zret rfl rfl rfl rfl dX7_isShift_82 (by omega) ?_
          have e6 : v8 = p := by omega
          rw [e6] at h2 h4
          exact ⟨by omega, rfl⟩
        refine j_icmp_gt (tgt := 81) dX7_isShift_67 (by decide) (fun c67_5 => ?_) (fun c67_5 => ?_)
        · skip
          refine j_iconst dX7_isShift_81 (by decide) ?_
          exact hJ_3 _ (Or.inl ⟨c67_5, rfl⟩)
        · skip
          refine j_iload 7 dX7_isShift_70 rfl ?_
          refine j_iload 4 dX7_isShift_72 rfl ?_
          refine j_icmp_gt (tgt := 81) dX7_isShift_74 (by decide) (fun c74_6 => ?_) (fun c74_6 => ?_)
          · skip
            refine j_iconst dX7_isShift_81 (by decide) ?_
            exact hJ_3 _ (Or.inr (Or.inl ⟨c67_5, c74_6, rfl⟩))
          · skip
            refine j_iconst dX7_isShift_77 (by decide) ?_
            refine j_goto (tgt := 82) dX7_isShift_78 (by decide) ?_
            exact hJ_3 _ (Or.inr (Or.inr (⟨c67_5, c74_6, rfl⟩)))
      · skip
        refine j_iload_n 1 dX7_isShift_18 rfl rfl ?_
        refine j_iload 8 dX7_isShift_19 rfl ?_
        refine j_ishr dX7_isShift_21 ?_
        refine j_iconst dX7_isShift_22 (by decide) ?_
        refine j_iand dX7_isShift_23 ?_
        refine j_iconst dX7_isShift_24 (by decide) ?_
        refine j_icmp_ne (tgt := 55) dX7_isShift_25 (by decide) (fun c25_7 => ?_) (fun c25_7 => ?_)
        · skip
          have hbit := bit_no (x := s) (k := v8) (by omega) (by omega) c25_7
          have w1 := zR_n h1.1 hbit
          have w2 := wSum_n (mn := M 29) h1.1 hbit
          refine j_iconst dX7_isShift_55 (by decide) ?_
          refine j_istore (ls' := [(0, jR 28), (1, jI s), (2, jI p), (3, jI most), (4, jI q), (5, jI v5), (6, jI 0), (7, jI v7), (8, jI v8)]) dX7_isShift_56 (by decide) rfl ?_
          obtain ⟨v8_8, ev8_8⟩ : ∃ y : Int, y = v8 + 1 := ⟨_, rfl⟩
          refine j_iinc (y := v8_8) (ls' := [(0, jR 28), (1, jI s), (2, jI p), (3, jI most), (4, jI q), (5, jI v5), (6, jI 0), (7, jI v7), (8, jI v8_8)]) 8 dX7_isShift_58 rfl ev8_8 (by omega) (by decide) rfl ?_
          refine j_goto (tgt := 12) dX7_isShift_61 (by decide) ?_
          exact ih12 v5 0 v7 v8_8 ⟨by omega, by rw [ev8_8]; omega, by rw [ev8_8]; omega, by rw [ev8_8]; omega⟩ (by omega)
        · skip
          have hbit := bit_yes (x := s) (k := v8) (by omega) (by omega) c25_7
          have w1 := zR_y h1.1 hbit
          have w2 := wSum_y (mn := M 29) h1.1 hbit
          refine j_iload 5 dX7_isShift_28 rfl ?_
          refine j_aload_n 0 dX7_isShift_30 rfl rfl ?_
          refine j_getr f_X7_11 r_28_0 dX7_isShift_31 ?_
          refine j_iload 8 dX7_isShift_34 rfl ?_
          refine j_iald a_29 dX7_isShift_36 (by omega) (by omega) ?_
          have g_9 := h_cminutes v8
          refine j_iadd dX7_isShift_37 (by omega) ?_
          refine j_nm (fun v5_10 ev5_10 => ?_)
          refine j_istore (ls' := [(0, jR 28), (1, jI s), (2, jI p), (3, jI most), (4, jI q), (5, jI v5_10), (6, jI v6), (7, jI v7), (8, jI v8)]) dX7_isShift_38 (by decide) rfl ?_
          obtain ⟨v6_11, ev6_11⟩ : ∃ y : Int, y = v6 + 1 := ⟨_, rfl⟩
          refine j_iinc (y := v6_11) (ls' := [(0, jR 28), (1, jI s), (2, jI p), (3, jI most), (4, jI q), (5, jI v5_10), (6, jI v6_11), (7, jI v7), (8, jI v8)]) 6 dX7_isShift_40 rfl ev6_11 (by omega) (by decide) rfl ?_
          refine j_iload 7 dX7_isShift_43 rfl ?_
          refine j_iload 6 dX7_isShift_45 rfl ?_
          refine j_mmax lm_X7_55 lm_max ⟨Nat.le_of_ble_eq_true rfl, Nat.le_of_ble_eq_true rfl⟩ ⟨Nat.le_of_ble_eq_true rfl, Nat.le_of_ble_eq_true rfl⟩ dX7_isShift_47 ?_
          refine j_nm (fun v7_12 ev7_12 => ?_)
          refine j_istore (ls' := [(0, jR 28), (1, jI s), (2, jI p), (3, jI most), (4, jI q), (5, jI v5_10), (6, jI v6_11), (7, jI v7_12), (8, jI v8)]) dX7_isShift_50 (by decide) rfl ?_
          refine j_goto (tgt := 58) dX7_isShift_52 (by decide) ?_
          obtain ⟨v8_13, ev8_13⟩ : ∃ y : Int, y = v8 + 1 := ⟨_, rfl⟩
          refine j_iinc (y := v8_13) (ls' := [(0, jR 28), (1, jI s), (2, jI p), (3, jI most), (4, jI q), (5, jI v5_10), (6, jI v6_11), (7, jI v7_12), (8, jI v8_13)]) 8 dX7_isShift_58 rfl ev8_13 (by omega) (by decide) rfl ?_
          refine j_goto (tgt := 12) dX7_isShift_61 (by decide) ?_
          exact ih12 v5_10 v6_11 v7_12 v8_13 ⟨by omega, by rw [ev8_13]; omega, by rw [ev8_13]; omega, by rw [ev8_13]; omega⟩ (by omega)
  exact lp12_1 _ 0 0 0 0 ⟨by first | omega | rfl, by first | omega | rfl, by first | omega | rfl, by first | omega | rfl⟩ (Nat.lt_succ_self _)
abbrev q_X9_isRow (M : jM)  (s p most q : Int) : Int → jM → Prop := fun r N => ((r = 1 ∧ (wSum (M 97) s p.toNat ≤ most ∧ zL s p.toNat ≤ q)) ∨ (r = 0 ∧ ¬ (wSum (M 97) s p.toNat ≤ most ∧ zL s p.toNat ≤ q))) ∧ N = M
set_option maxHeartbeats 4000000 in
set_option maxRecDepth 20000 in
theorem c_X9_isRow {X : jX} (M : jM)  (s p most q : Int) (h_rminutes : ∀ i, 0 ≤ M 97 i ∧ M 97 i ≤ 300) (h0 : (0 ≤ s ∧ s < 64) ∧ 0 ≤ p ∧ p ≤ 6 ∧ 1 ≤ q) : jC yX9_isRow D_X9_isRow X FJ shJ [jR 74, jI s, jI p, jI most, jI q] M (jqI (q_X9_isRow M s p most q)) := by
  refine jC_of (by decide) rfl (fun ad => Nat.le_of_ble_eq_true rfl) (by decide) ?_
  show jG D_X9_isRow X FJ shJ 0 0 (jqI (q_X9_isRow M s p most q)) 0 [(0, jR 74), (1, jI s), (2, jI p), (3, jI most), (4, jI q)] [] M
  refine j_iconst dX9_isRow_0 (by decide) ?_
  refine j_istore (ls' := [(0, jR 74), (1, jI s), (2, jI p), (3, jI most), (4, jI q), (5, jI 0)]) dX9_isRow_1 (by decide) rfl ?_
  refine j_iconst dX9_isRow_3 (by decide) ?_
  refine j_istore (ls' := [(0, jR 74), (1, jI s), (2, jI p), (3, jI most), (4, jI q), (5, jI 0), (6, jI 0)]) dX9_isRow_4 (by decide) rfl ?_
  refine j_iconst dX9_isRow_6 (by decide) ?_
  refine j_istore (ls' := [(0, jR 74), (1, jI s), (2, jI p), (3, jI most), (4, jI q), (5, jI 0), (6, jI 0), (7, jI 1)]) dX9_isRow_7 (by decide) rfl ?_
  refine j_iconst dX9_isRow_9 (by decide) ?_
  refine j_istore (ls' := [(0, jR 74), (1, jI s), (2, jI p), (3, jI most), (4, jI q), (5, jI 0), (6, jI 0), (7, jI 1), (8, jI 0)]) dX9_isRow_10 (by decide) rfl ?_
  have lp12_1 : ∀ n12 : Nat, ∀ (v5 v6 v7 v8 : Int), (0 ≤ v8 ∧ v8 ≤ p) ∧ (v5 = wSum (M 97) s v8.toNat) ∧ (v6 = zR s v8.toNat) ∧ ((v7 = 1 ∧ zL s v8.toNat ≤ q) ∨ (v7 = 0 ∧ ¬ zL s v8.toNat ≤ q)) → (p - v8).toNat < n12 → jG D_X9_isRow X FJ shJ 0 0 (jqI (q_X9_isRow M s p most q)) 12 [(0, jR 74), (1, jI s), (2, jI p), (3, jI most), (4, jI q), (5, jI v5), (6, jI v6), (7, jI v7), (8, jI v8)] ([]) M := by
    intro n12
    induction n12 with
    | zero => intro v5 v6 v7 v8  _ hz; exact absurd hz (Nat.not_lt_zero _)
    | succ n12 ih12 =>
      intro v5 v6 v7 v8  hinv hm
      obtain ⟨h1, h2, h3, h4⟩ := hinv
      have q1 := wSum_in3 h_rminutes s v8.toNat
      have q2 := zR_in s v8.toNat
      have q3 := zL_in s v8.toNat
      have e8 := toNat_c h1.1
      have q4 := @zL_s s v8 h1.1
      refine j_iload 8 dX9_isRow_12 rfl ?_
      refine j_iload_n 2 dX9_isRow_14 rfl rfl ?_
      refine j_icmp_ge (tgt := 94) dX9_isRow_15 (by decide) (fun c15_2 => ?_) (fun c15_2 => ?_)
      · skip
        refine j_iload 7 dX9_isRow_94 rfl ?_
        have hJ_3 : ∀ zz : Int, (v7 = 0 ∧ zz = 0) ∨ (¬ v7 = 0 ∧ most < v5 ∧ zz = 0) ∨ (¬ v7 = 0 ∧ ¬ (most < v5) ∧ zz = 1) → jG D_X9_isRow X FJ shJ 0 0 (jqI (q_X9_isRow M s p most q)) 110 [(0, jR 74), (1, jI s), (2, jI p), (3, jI most), (4, jI q), (5, jI v5), (6, jI v6), (7, jI v7), (8, jI v8)] (jI zz :: []) M := by
          intro t_4 et_4
          refine j_zret rfl rfl rfl rfl dX9_isRow_110 (by omega) ?_
          have e6 : v8 = p := by omega
          rw [e6] at h2 h4
          exact ⟨by omega, rfl⟩
        refine j_if_eq (tgt := 109) dX9_isRow_96 (by decide) (fun c96_5 => ?_) (fun c96_5 => ?_)
        · skip
          refine j_iconst dX9_isRow_109 (by decide) ?_
          exact hJ_3 _ (Or.inl ⟨c96_5, rfl⟩)
        · skip
          refine j_iload 5 dX9_isRow_99 rfl ?_
          refine j_iload_n 3 dX9_isRow_101 rfl rfl ?_
          refine j_icmp_gt (tgt := 109) dX9_isRow_102 (by decide) (fun c102_6 => ?_) (fun c102_6 => ?_)
          · skip
            refine j_iconst dX9_isRow_109 (by decide) ?_
            exact hJ_3 _ (Or.inr (Or.inl ⟨c96_5, c102_6, rfl⟩))
          · skip
            refine j_iconst dX9_isRow_105 (by decide) ?_
            refine j_goto (tgt := 110) dX9_isRow_106 (by decide) ?_
            exact hJ_3 _ (Or.inr (Or.inr (⟨c96_5, c102_6, rfl⟩)))
      · skip
        refine j_iload_n 1 dX9_isRow_18 rfl rfl ?_
        refine j_iload 8 dX9_isRow_19 rfl ?_
        refine j_ishr dX9_isRow_21 ?_
        refine j_iconst dX9_isRow_22 (by decide) ?_
        refine j_iand dX9_isRow_23 ?_
        refine j_iconst dX9_isRow_24 (by decide) ?_
        have hJ_7 : ∀ zz : Int, (¬ (jand (jshr s v8) 1) = 1 ∧ zz = 0) ∨ ((jand (jshr s v8) 1) = 1 ∧ zz = 1) → jG D_X9_isRow X FJ shJ 0 0 (jqI (q_X9_isRow M s p most q)) 33 [(0, jR 74), (1, jI s), (2, jI p), (3, jI most), (4, jI q), (5, jI v5), (6, jI v6), (7, jI v7), (8, jI v8)] (jI zz :: []) M := by
          intro t_8 et_8
          refine j_istore (ls' := [(0, jR 74), (1, jI s), (2, jI p), (3, jI most), (4, jI q), (5, jI v5), (6, jI v6), (7, jI v7), (8, jI v8), (9, jI t_8)]) dX9_isRow_33 (by decide) rfl ?_
          have gg := h_rminutes v8
          have hb : (tb s v8 = true ∧ t_8 = 1 ∧ zR s (v8 + 1).toNat = zR s v8.toNat + 1 ∧ wSum (M 97) s (v8 + 1).toNat = wSum (M 97) s v8.toNat + M 97 v8) ∨ (¬ tb s v8 = true ∧ t_8 = 0 ∧ zR s (v8 + 1).toNat = 0 ∧ wSum (M 97) s (v8 + 1).toNat = wSum (M 97) s v8.toNat) := by rcases et_8 with ⟨a, b⟩ | ⟨a, b⟩; (· have hbit := bit_no (x := s) (k := v8) (by omega) (by omega) a; exact Or.inr ⟨hbit, b, zR_n h1.1 hbit, wSum_n h1.1 hbit⟩); (· have hbit := bit_yes (x := s) (k := v8) (by omega) (by omega) a; exact Or.inl ⟨hbit, b, zR_y h1.1 hbit, wSum_y h1.1 hbit⟩)
          refine j_iload 5 dX9_isRow_35 rfl ?_
          refine j_iload 9 dX9_isRow_37 rfl ?_
          have hJ_9 : ∀ zz : Int, (t_8 = 0 ∧ zz = 0) ∨ (¬ t_8 = 0 ∧ zz = (M 97 v8)) → jG D_X9_isRow X FJ shJ 0 0 (jqI (q_X9_isRow M s p most q)) 53 [(0, jR 74), (1, jI s), (2, jI p), (3, jI most), (4, jI q), (5, jI v5), (6, jI v6), (7, jI v7), (8, jI v8), (9, jI t_8)] (jI zz :: jI v5 :: []) M := by
            intro t_10 et_10
            refine j_iadd dX9_isRow_53 (by omega) ?_
            refine j_nm (fun v5_11 ev5_11 => ?_)
            refine j_istore (ls' := [(0, jR 74), (1, jI s), (2, jI p), (3, jI most), (4, jI q), (5, jI v5_11), (6, jI v6), (7, jI v7), (8, jI v8), (9, jI t_8)]) dX9_isRow_54 (by decide) rfl ?_
            refine j_iload 9 dX9_isRow_56 rfl ?_
            have hJ_12 : ∀ zz : Int, (t_8 = 0 ∧ zz = 0) ∨ (¬ t_8 = 0 ∧ zz = (v6 + 1)) → jG D_X9_isRow X FJ shJ 0 0 (jqI (q_X9_isRow M s p most q)) 69 [(0, jR 74), (1, jI s), (2, jI p), (3, jI most), (4, jI q), (5, jI v5_11), (6, jI v6), (7, jI v7), (8, jI v8), (9, jI t_8)] (jI zz :: []) M := by
              intro t_13 et_13
              refine j_istore (ls' := [(0, jR 74), (1, jI s), (2, jI p), (3, jI most), (4, jI q), (5, jI v5_11), (6, jI t_13), (7, jI v7), (8, jI v8), (9, jI t_8)]) dX9_isRow_69 (by decide) rfl ?_
              refine j_iload 7 dX9_isRow_71 rfl ?_
              refine j_iload 6 dX9_isRow_73 rfl ?_
              refine j_iload 4 dX9_isRow_75 rfl ?_
              have hJ_14 : ∀ zz : Int, (q < t_13 ∧ zz = 0) ∨ (¬ (q < t_13) ∧ zz = 1) → jG D_X9_isRow X FJ shJ 0 0 (jqI (q_X9_isRow M s p most q)) 85 [(0, jR 74), (1, jI s), (2, jI p), (3, jI most), (4, jI q), (5, jI v5_11), (6, jI t_13), (7, jI v7), (8, jI v8), (9, jI t_8)] (jI zz :: jI v7 :: []) M := by
                intro t_15 et_15
                refine j_iand dX9_isRow_85 ?_
                refine j_nm (fun v7_16 ev7_16 => ?_)
                refine j_istore (ls' := [(0, jR 74), (1, jI s), (2, jI p), (3, jI most), (4, jI q), (5, jI v5_11), (6, jI t_13), (7, jI v7_16), (8, jI v8), (9, jI t_8)]) dX9_isRow_86 (by decide) rfl ?_
                obtain ⟨v8_17, ev8_17⟩ : ∃ y : Int, y = v8 + 1 := ⟨_, rfl⟩
                refine j_iinc (y := v8_17) (ls' := [(0, jR 74), (1, jI s), (2, jI p), (3, jI most), (4, jI q), (5, jI v5_11), (6, jI t_13), (7, jI v7_16), (8, jI v8_17), (9, jI t_8)]) 8 dX9_isRow_88 rfl ev8_17 (by omega) (by decide) rfl ?_
                refine j_goto (tgt := 12) dX9_isRow_91 (by decide) ?_
                refine j_sub (ls' := [(0, jR 74), (1, jI s), (2, jI p), (3, jI most), (4, jI q), (5, jI v5_11), (6, jI t_13), (7, jI v7_16), (8, jI v8_17)]) [0, 1, 2, 3, 4, 5, 6, 7, 8] rfl ?_
                exact ih12 v5_11 t_13 v7_16 v8_17 ⟨by omega, by rw [ev8_17]; omega, by rw [ev8_17]; omega, by rw [ev8_17]; have j1 : jand 1 1 = 1 := (by decide); have j2 : jand 1 0 = 0 := (by decide); have j3 : jand 0 1 = 0 := (by decide); have j4 : jand 0 0 = 0 := (by decide); rcases h4 with ⟨a, b⟩ | ⟨a, b⟩ <;> rw [a] at ev7_16 <;> grind⟩ (by omega)
              refine j_icmp_gt (tgt := 84) dX9_isRow_77 (by decide) (fun c77_18 => ?_) (fun c77_18 => ?_)
              · skip
                refine j_iconst dX9_isRow_84 (by decide) ?_
                exact hJ_14 _ (Or.inl ⟨c77_18, rfl⟩)
              · skip
                refine j_iconst dX9_isRow_80 (by decide) ?_
                refine j_goto (tgt := 85) dX9_isRow_81 (by decide) ?_
                exact hJ_14 _ (Or.inr (⟨c77_18, rfl⟩))
            refine j_if_eq (tgt := 68) dX9_isRow_58 (by decide) (fun c58_19 => ?_) (fun c58_19 => ?_)
            · skip
              refine j_iconst dX9_isRow_68 (by decide) ?_
              exact hJ_12 _ (Or.inl ⟨c58_19, rfl⟩)
            · skip
              refine j_iload 6 dX9_isRow_61 rfl ?_
              refine j_iconst dX9_isRow_63 (by decide) ?_
              refine j_iadd dX9_isRow_64 (by omega) ?_
              refine j_goto (tgt := 69) dX9_isRow_65 (by decide) ?_
              exact hJ_12 _ (Or.inr (⟨c58_19, rfl⟩))
          refine j_if_eq (tgt := 52) dX9_isRow_39 (by decide) (fun c39_20 => ?_) (fun c39_20 => ?_)
          · skip
            refine j_iconst dX9_isRow_52 (by decide) ?_
            exact hJ_9 _ (Or.inl ⟨c39_20, rfl⟩)
          · skip
            refine j_aload_n 0 dX9_isRow_42 rfl rfl ?_
            refine j_getr f_X9_77 r_74_36 dX9_isRow_43 ?_
            refine j_iload 8 dX9_isRow_46 rfl ?_
            refine j_iald a_97 dX9_isRow_48 (by omega) (by omega) ?_
            have g_21 := h_rminutes v8
            refine j_goto (tgt := 53) dX9_isRow_49 (by decide) ?_
            exact hJ_9 _ (Or.inr (⟨c39_20, rfl⟩))
        refine j_icmp_ne (tgt := 32) dX9_isRow_25 (by decide) (fun c25_22 => ?_) (fun c25_22 => ?_)
        · skip
          refine j_iconst dX9_isRow_32 (by decide) ?_
          exact hJ_7 _ (Or.inl ⟨c25_22, rfl⟩)
        · skip
          refine j_iconst dX9_isRow_28 (by decide) ?_
          refine j_goto (tgt := 33) dX9_isRow_29 (by decide) ?_
          exact hJ_7 _ (Or.inr (⟨c25_22, rfl⟩))
  exact lp12_1 _ 0 0 1 0 ⟨by first | omega | (left; exact ⟨rfl, by show (0 : Int) ≤ q; omega⟩) | rfl, by first | omega | (left; exact ⟨rfl, by show (0 : Int) ≤ q; omega⟩) | rfl, by first | omega | (left; exact ⟨rfl, by show (0 : Int) ≤ q; omega⟩) | rfl, by first | omega | (left; exact ⟨rfl, by show (0 : Int) ≤ q; omega⟩) | rfl⟩ (Nat.lt_succ_self _)
abbrev q_X7_needing (M : jM)  (p k : Int) : Int → jM → Prop := fun r N => (zNb (M 30) p k r) ∧ N = M
set_option maxHeartbeats 4000000 in
set_option maxRecDepth 20000 in
theorem c_X7_needing {X : jX} (M : jM)  (p k : Int) (h_cneeds : ∀ i, 0 ≤ M 30 i ∧ M 30 i ≤ 3) (h0 : 0 ≤ p ∧ p ≤ 6) : jC yX7_needing D_X7_needing X FJ shJ [jR 28, jI p, jI k] M (jqI (q_X7_needing M p k)) := by
  refine jC_of (by decide) rfl (fun ad => Nat.le_of_ble_eq_true rfl) (by decide) ?_
  show jG D_X7_needing X FJ shJ 0 0 (jqI (q_X7_needing M p k)) 0 [(0, jR 28), (1, jI p), (2, jI k)] [] M
  refine j_iconst dX7_needing_0 (by decide) ?_
  refine j_istore_n (ls' := [(0, jR 28), (1, jI p), (2, jI k), (3, jI 0)]) dX7_needing_1 rfl (by decide) rfl ?_
  refine j_iconst dX7_needing_2 (by decide) ?_
  refine j_istore (ls' := [(0, jR 28), (1, jI p), (2, jI k), (3, jI 0), (4, jI 0)]) dX7_needing_3 (by decide) rfl ?_
  have lp5_1 : ∀ n5 : Nat, ∀ (v3 v4 : Int), (0 ≤ v4 ∧ v4 ≤ p) ∧ (zNb (M 30) v4 k v3) → (p - v4).toNat < n5 → jG D_X7_needing X FJ shJ 0 0 (jqI (q_X7_needing M p k)) 5 [(0, jR 28), (1, jI p), (2, jI k), (3, jI v3), (4, jI v4)] ([]) M := by
    intro n5
    induction n5 with
    | zero => intro v3 v4  _ hz; exact absurd hz (Nat.not_lt_zero _)
    | succ n5 ih5 =>
      intro v3 v4  hinv hm
      obtain ⟨h1, h2⟩ := hinv
      refine j_iload 4 dX7_needing_5 rfl ?_
      refine j_iload_n 1 dX7_needing_7 rfl rfl ?_
      refine j_icmp_ge (tgt := 35) dX7_needing_8 (by decide) (fun c8_2 => ?_) (fun c8_2 => ?_)
      · skip
        refine j_iload_n 3 dX7_needing_35 rfl rfl ?_
        refine j_iret rfl rfl rfl rfl dX7_needing_36 ?_
        have e6 : v4 = p := by omega
        rw [e6] at h2
        exact ⟨h2, rfl⟩
      · skip
        refine j_aload_n 0 dX7_needing_11 rfl rfl ?_
        refine j_getr f_X7_15 r_28_1 dX7_needing_12 ?_
        refine j_iload 4 dX7_needing_15 rfl ?_
        refine j_iald a_30 dX7_needing_17 (by omega) (by omega) ?_
        have g_3 := h_cneeds v4
        refine j_iload_n 2 dX7_needing_18 rfl rfl ?_
        refine j_icmp_lt (tgt := 29) dX7_needing_19 (by decide) (fun c19_4 => ?_) (fun c19_4 => ?_)
        · skip
          obtain ⟨v4_5, ev4_5⟩ : ∃ y : Int, y = v4 + 1 := ⟨_, rfl⟩
          refine j_iinc (y := v4_5) (ls' := [(0, jR 28), (1, jI p), (2, jI k), (3, jI v3), (4, jI v4_5)]) 4 dX7_needing_29 rfl ev4_5 (by omega) (by decide) rfl ?_
          refine j_goto (tgt := 5) dX7_needing_32 (by decide) ?_
          exact ih5 v3 v4_5 ⟨by omega, by rw [ev4_5]; first | (rw [ev3]; exact zNb_step (by omega) h2 (by omega)) | exact zNb_skip (by omega) h2 (by omega)⟩ (by omega)
        · skip
          refine j_iload_n 3 dX7_needing_22 rfl rfl ?_
          refine j_iconst dX7_needing_23 (by decide) ?_
          refine j_iload 4 dX7_needing_24 rfl ?_
          refine j_ishl dX7_needing_26 ?_
          refine j_ior dX7_needing_27 ?_
          refine j_nm (fun v3_6 ev3_6 => ?_)
          refine j_istore_n (ls' := [(0, jR 28), (1, jI p), (2, jI k), (3, jI v3_6), (4, jI v4)]) dX7_needing_28 rfl (by decide) rfl ?_
          obtain ⟨v4_7, ev4_7⟩ : ∃ y : Int, y = v4 + 1 := ⟨_, rfl⟩
          refine j_iinc (y := v4_7) (ls' := [(0, jR 28), (1, jI p), (2, jI k), (3, jI v3_6), (4, jI v4_7)]) 4 dX7_needing_29 rfl ev4_7 (by omega) (by decide) rfl ?_
          refine j_goto (tgt := 5) dX7_needing_32 (by decide) ?_
          exact ih5 v3_6 v4_7 ⟨by omega, by rw [ev4_7]; first | (rw [ev3_6]; exact zNb_step (by omega) h2 (by omega)) | exact zNb_skip (by omega) h2 (by omega)⟩ (by omega)
  exact lp5_1 _ 0 0 ⟨by omega, by refine ⟨⟨by decide, by decide⟩, fun i => ?_⟩; rw [zero_bit rfl, decide_eq_false (by omega)]⟩ (Nat.lt_succ_self _)
abbrev q_X7_wanted (M : jM)  (a b : Int) : Int → jM → Prop := fun r N => (zWt (M 28 2) (M 28 3) (M 28 4) a b r) ∧ N = M
set_option maxHeartbeats 4000000 in
set_option maxRecDepth 20000 in
theorem c_X7_wanted {X : jX} (M : jM)  (a b : Int) (h0 : jn (M 28 2) ∧ jn (M 28 3) ∧ jn (M 28 4) ∧ jn a ∧ jn b) : jC yX7_wanted D_X7_wanted X FJ shJ [jR 28, jI a, jI b] M (jqI (q_X7_wanted M a b)) := by
  refine jC_of (by decide) rfl (fun ad => Nat.le_of_ble_eq_true rfl) (by decide) ?_
  show jG D_X7_wanted X FJ shJ 0 0 (jqI (q_X7_wanted M a b)) 0 [(0, jR 28), (1, jI a), (2, jI b)] [] M
  obtain ⟨u1, u2, u3, u4, u5⟩ := h0
  refine j_iload_n 1 dX7_wanted_0 rfl rfl ?_
  refine j_iload_n 2 dX7_wanted_1 rfl rfl ?_
  refine j_ior dX7_wanted_2 ?_
  refine j_nm (fun v3_1 ev3_1 => ?_)
  refine j_istore_n (ls' := [(0, jR 28), (1, jI a), (2, jI b), (3, jI v3_1)]) dX7_wanted_3 rfl (by decide) rfl ?_
  refine j_iload_n 1 dX7_wanted_4 rfl rfl ?_
  refine j_iload_n 2 dX7_wanted_5 rfl rfl ?_
  refine j_iand dX7_wanted_6 ?_
  refine j_nm (fun v4_2 ev4_2 => ?_)
  refine j_istore (ls' := [(0, jR 28), (1, jI a), (2, jI b), (3, jI v3_1), (4, jI v4_2)]) dX7_wanted_7 (by decide) rfl ?_
  refine j_aload_n 0 dX7_wanted_9 rfl rfl ?_
  refine j_geti (k' := 3) f_X7_42 o_28_3 dX7_wanted_10 rfl ?_
  refine j_iload_n 3 dX7_wanted_13 rfl rfl ?_
  refine j_iconst dX7_wanted_14 (by decide) ?_
  refine j_ixor dX7_wanted_15 ?_
  refine j_iand dX7_wanted_16 ?_
  refine j_if_ne (tgt := 32) dX7_wanted_17 (by decide) (fun c17_3 => ?_) (fun c17_3 => ?_)
  · skip
    refine j_bipush dX7_wanted_32 (by decide) ?_
    refine j_iret rfl rfl rfl rfl dX7_wanted_34 ?_
    first | (refine ⟨zWt_no u2 u3 u4 u5 ?_, rfl⟩; rw [ev3_1, ev4_2] at *; first | (left; assumption) | (right; assumption)) | (refine ⟨?_, rfl⟩; rw [ev3_1, ev4_2] at *; exact zWt_yes u1 u2 u3 u4 u5 (by assumption) (by assumption))
  · skip
    refine j_aload_n 0 dX7_wanted_20 rfl rfl ?_
    refine j_geti (k' := 4) f_X7_45 o_28_4 dX7_wanted_21 rfl ?_
    refine j_iload 4 dX7_wanted_24 rfl ?_
    refine j_iconst dX7_wanted_26 (by decide) ?_
    refine j_ixor dX7_wanted_27 ?_
    refine j_iand dX7_wanted_28 ?_
    refine j_if_eq (tgt := 35) dX7_wanted_29 (by decide) (fun c29_4 => ?_) (fun c29_4 => ?_)
    · skip
      refine j_aload_n 0 dX7_wanted_35 rfl rfl ?_
      refine j_geti (k' := 2) f_X7_38 o_28_2 dX7_wanted_36 rfl ?_
      refine j_iload_n 3 dX7_wanted_39 rfl rfl ?_
      refine j_iconst dX7_wanted_40 (by decide) ?_
      refine j_ixor dX7_wanted_41 ?_
      refine j_iand dX7_wanted_42 ?_
      refine j_aload_n 0 dX7_wanted_43 rfl rfl ?_
      refine j_geti (k' := 3) f_X7_42 o_28_3 dX7_wanted_44 rfl ?_
      refine j_iload 4 dX7_wanted_47 rfl ?_
      refine j_iconst dX7_wanted_49 (by decide) ?_
      refine j_ixor dX7_wanted_50 ?_
      refine j_iand dX7_wanted_51 ?_
      refine j_ior dX7_wanted_52 ?_
      refine j_aload_n 0 dX7_wanted_53 rfl rfl ?_
      refine j_geti (k' := 4) f_X7_45 o_28_4 dX7_wanted_54 rfl ?_
      refine j_ior dX7_wanted_57 ?_
      refine j_iret rfl rfl rfl rfl dX7_wanted_58 ?_
      first | (refine ⟨zWt_no u2 u3 u4 u5 ?_, rfl⟩; rw [ev3_1, ev4_2] at *; first | (left; assumption) | (right; assumption)) | (refine ⟨?_, rfl⟩; rw [ev3_1, ev4_2] at *; exact zWt_yes u1 u2 u3 u4 u5 (by assumption) (by assumption))
    · skip
      refine j_bipush dX7_wanted_32 (by decide) ?_
      refine j_iret rfl rfl rfl rfl dX7_wanted_34 ?_
      first | (refine ⟨zWt_no u2 u3 u4 u5 ?_, rfl⟩; rw [ev3_1, ev4_2] at *; first | (left; assumption) | (right; assumption)) | (refine ⟨?_, rfl⟩; rw [ev3_1, ev4_2] at *; exact zWt_yes u1 u2 u3 u4 u5 (by assumption) (by assumption))
abbrev q_X7_prepare (M : jM)  (p most q : Int) : jM → Prop := fun N => zPrep N (M 29) (M 30) p most q (2 ^ p.toNat) ∧ (∀ c, c ≠ 28 → c ≠ 31 → c ≠ 32 → c ≠ 33 → N c = M c)
set_option maxHeartbeats 4000000 in
set_option maxRecDepth 20000 in
theorem c_X7_prepare {X : jX} (M : jM)  (p most q : Int) (h_cneeds : ∀ i, 0 ≤ M 30 i ∧ M 30 i ≤ 3) (h_cminutes : ∀ i, 0 ≤ M 29 i ∧ M 29 i ≤ 300) (h0 : 1 ≤ p ∧ p ≤ 6 ∧ 0 ≤ most ∧ 1 ≤ q) : jC yX7_prepare D_X7_prepare X FJ shJ [jR 28, jI p, jI most, jI q] M (jqV (q_X7_prepare M p most q)) := by
  refine jC_of (by decide) rfl (fun ad => Nat.le_of_ble_eq_true rfl) (by decide) ?_
  show jG D_X7_prepare X FJ shJ 0 0 (jqV (q_X7_prepare M p most q)) 0 [(0, jR 28), (1, jI p), (2, jI most), (3, jI q)] [] M
  have hp2 := p2n (n := p) (by omega)
  have hp1 : (0 : Int) < 2 ^ p.toNat := Int.pow_pos (by decide)
  refine j_aload_n 0 dX7_prepare_0 rfl rfl ?_
  refine j_aload_n 0 dX7_prepare_1 rfl rfl ?_
  refine j_iload_n 1 dX7_prepare_2 rfl rfl ?_
  refine j_iconst dX7_prepare_3 (by decide) ?_
  refine j_callVi l_X7_34 ⟨Nat.le_of_ble_eq_true rfl, Nat.le_of_ble_eq_true rfl⟩ ⟨rfl, rfl⟩ dX7_prepare_4 ob_28 (c_X7_needing M p 1 h_cneeds (by first | assumption | omega)) rfl rfl (Nat.le_of_ble_eq_true rfl) (fun r_1 M_2 h_3 => ?_)
  obtain ⟨er_1, nh_3⟩ := h_3
  refine j_eqM nh_3 ?_
  clear nh_3
  refine j_puti (k' := 2) f_X7_38 o_28_2 dX7_prepare_7 rfl ?_
  refine j_nmM (fun M_4 eM_4 => ?_)
  refine j_aload_n 0 dX7_prepare_10 rfl rfl ?_
  refine j_aload_n 0 dX7_prepare_11 rfl rfl ?_
  refine j_iload_n 1 dX7_prepare_12 rfl rfl ?_
  refine j_iconst dX7_prepare_13 (by decide) ?_
  refine j_callVi l_X7_34 ⟨Nat.le_of_ble_eq_true rfl, Nat.le_of_ble_eq_true rfl⟩ ⟨rfl, rfl⟩ dX7_prepare_14 ob_28 (c_X7_needing M_4 p 2 (by rw [((congrFun eM_4 30).trans (jup_cell (by decide)))]; exact h_cneeds) (by first | assumption | omega)) rfl rfl (Nat.le_of_ble_eq_true rfl) (fun r_5 M_6 h_7 => ?_)
  obtain ⟨er_5, nh_7⟩ := h_7
  refine j_eqM nh_7 ?_
  clear nh_7
  simp only [((congrFun eM_4 30).trans (jup_cell (by decide)))] at er_5
  refine j_puti (k' := 3) f_X7_42 o_28_3 dX7_prepare_17 rfl ?_
  refine j_nmM (fun M_8 eM_8 => ?_)
  refine j_aload_n 0 dX7_prepare_20 rfl rfl ?_
  refine j_aload_n 0 dX7_prepare_21 rfl rfl ?_
  refine j_iload_n 1 dX7_prepare_22 rfl rfl ?_
  refine j_iconst dX7_prepare_23 (by decide) ?_
  refine j_callVi l_X7_34 ⟨Nat.le_of_ble_eq_true rfl, Nat.le_of_ble_eq_true rfl⟩ ⟨rfl, rfl⟩ dX7_prepare_24 ob_28 (c_X7_needing M_8 p 3 (by rw [(Eq.trans ((congrFun eM_8 30).trans (jup_cell (by decide))) ((congrFun eM_4 30).trans (jup_cell (by decide))))]; exact h_cneeds) (by first | assumption | omega)) rfl rfl (Nat.le_of_ble_eq_true rfl) (fun r_9 M_10 h_11 => ?_)
  obtain ⟨er_9, nh_11⟩ := h_11
  refine j_eqM nh_11 ?_
  clear nh_11
  simp only [(Eq.trans ((congrFun eM_8 30).trans (jup_cell (by decide))) ((congrFun eM_4 30).trans (jup_cell (by decide))))] at er_9
  refine j_puti (k' := 4) f_X7_45 o_28_4 dX7_prepare_27 rfl ?_
  refine j_nmM (fun M_12 eM_12 => ?_)
  refine j_aload_n 0 dX7_prepare_30 rfl rfl ?_
  refine j_iconst dX7_prepare_31 (by decide) ?_
  refine j_puti (k' := 6) f_X7_48 o_28_6 dX7_prepare_32 rfl ?_
  refine j_nmM (fun M_13 eM_13 => ?_)
  refine j_iconst dX7_prepare_35 (by decide) ?_
  refine j_istore (ls' := [(0, jR 28), (1, jI p), (2, jI most), (3, jI q), (4, jI 0)]) dX7_prepare_36 (by decide) rfl ?_
  have lp38_14 : ∀ n38 : Nat, ∀ (v4 : Int), ∀ N38 : jM, (0 ≤ v4 ∧ v4 ≤ (2 ^ p.toNat)) ∧ (N38 28 6 = zIdx (M 29) p most q v4) ∧ (zList (N38 31) (M 29) p most q v4) ∧ (zNb (M 30) p 1 (N38 28 2) ∧ zNb (M 30) p 2 (N38 28 3) ∧ zNb (M 30) p 3 (N38 28 4)) ∧ (∀ c, c ≠ 28 → c ≠ 31 → c ≠ 32 → c ≠ 33 → N38 c = M c) → ((2 ^ p.toNat) - v4).toNat < n38 → jG D_X7_prepare X FJ shJ 0 0 (jqV (q_X7_prepare M p most q)) 38 [(0, jR 28), (1, jI p), (2, jI most), (3, jI q), (4, jI v4)] ([]) N38 := by
    intro n38
    induction n38 with
    | zero => intro v4 N38 _ hz; exact absurd hz (Nat.not_lt_zero _)
    | succ n38 ih38 =>
      intro v4 N38 hinv hm
      obtain ⟨h1, h6, hl, hb, hk⟩ := hinv
      have i1 := zIdx_in (mn := M 29) (p := p) (most := most) (q := q) h1.1
      rw [← h6] at i1
      refine j_iload 4 dX7_prepare_38 rfl ?_
      refine j_iconst dX7_prepare_40 (by decide) ?_
      refine j_iload_n 1 dX7_prepare_41 rfl rfl ?_
      refine j_ishl dX7_prepare_42 ?_
      refine j_icmp_ge (tgt := 85) dX7_prepare_43 (by decide) (fun c43_15 => ?_) (fun c43_15 => ?_)
      · skip
        have e38 : v4 = 2 ^ p.toNat := by omega
        rw [e38] at h6 hl i1
        refine j_iconst dX7_prepare_85 (by decide) ?_
        refine j_istore (ls' := [(0, jR 28), (1, jI p), (2, jI most), (3, jI q), (4, jI 0)]) dX7_prepare_86 (by decide) rfl ?_
        have lp88_16 : ∀ n88 : Nat, ∀ (v4 : Int), ∀ N88 : jM, (0 ≤ v4 ∧ v4 ≤ (2 ^ p.toNat)) ∧ (N88 28 = N38 28) ∧ (N88 31 = N38 31) ∧ (∀ w, 0 ≤ w → w < v4 → N88 32 w = zP (zWith (N38 31) w) (N38 28 6).toNat ∧ zLeast (N38 31) w (N38 28 6) (N88 32 w) (N88 33 w)) ∧ (∀ c, c ≠ 28 → c ≠ 31 → c ≠ 32 → c ≠ 33 → N88 c = M c) → ((2 ^ p.toNat) - v4).toNat < n88 → jG D_X7_prepare X FJ shJ 0 0 (jqV (q_X7_prepare M p most q)) 88 [(0, jR 28), (1, jI p), (2, jI most), (3, jI q), (4, jI v4)] ([]) N88 := by
          intro n88
          induction n88 with
          | zero => intro v4 N88 _ hz; exact absurd hz (Nat.not_lt_zero _)
          | succ n88 ih88 =>
            intro v4 N88 hinv hm
            obtain ⟨g1, gb, gL, gw, hk2⟩ := hinv
            have g6 := congrFun gb 6
            refine j_iload 4 dX7_prepare_88 rfl ?_
            refine j_iconst dX7_prepare_90 (by decide) ?_
            refine j_iload_n 1 dX7_prepare_91 rfl rfl ?_
            refine j_ishl dX7_prepare_92 ?_
            refine j_icmp_ge (tgt := 169) dX7_prepare_93 (by decide) (fun c93_17 => ?_) (fun c93_17 => ?_)
            · skip
              refine j_vret rfl rfl rfl rfl dX7_prepare_169 ?_
              have e88 : v4 = 2 ^ p.toNat := by omega
              rw [e88, h6] at gw
              refine ⟨⟨by rw [gb]; exact hb, by rw [gb]; exact h6, by rw [gL]; exact hl, by rw [gL]; exact gw⟩, hk2⟩
            · skip
              refine j_aload_n 0 dX7_prepare_96 rfl rfl ?_
              refine j_getr f_X7_21 r_28_7 dX7_prepare_97 ?_
              refine j_iload 4 dX7_prepare_100 rfl ?_
              refine j_iconst dX7_prepare_102 (by decide) ?_
              refine j_iast a_32 dX7_prepare_103 (by omega) (by omega) ?_
              refine j_nmM (fun M_18 eM_18 => ?_)
              refine j_aload_n 0 dX7_prepare_104 rfl rfl ?_
              refine j_geti (k' := 6) f_X7_48 o_28_6 dX7_prepare_105 rfl ?_
              refine j_eq (congrFun ((congrFun eM_18 28).trans (jup_cell (by decide))) 6) ?_
              refine j_iconst dX7_prepare_108 (by decide) ?_
              refine j_isub dX7_prepare_109 (by omega) ?_
              refine j_nm (fun v5_19 ev5_19 => ?_)
              refine j_istore (ls' := [(0, jR 28), (1, jI p), (2, jI most), (3, jI q), (4, jI v4), (5, jI v5_19)]) dX7_prepare_110 (by decide) rfl ?_
              have lp112_20 : ∀ n112 : Nat, ∀ (v5 : Int), ∀ N112 : jM, (-1 ≤ v5 ∧ v5 < N38 28 6) ∧ (N112 28 = N38 28) ∧ (N112 31 = N38 31) ∧ (N112 32 v4 = zP (zWith (N38 31) v4)  (N38 28 6).toNat - zP (zWith (N38 31) v4)  (v5 + 1).toNat) ∧ (zLf (N38 31) v4 v5 (N38 28 6) (N112 32 v4) (N112 33 v4)) ∧ (∀ w, 0 ≤ w → w < v4 → N112 32 w = zP (zWith (N38 31) w) (N38 28 6).toNat ∧ zLeast (N38 31) w (N38 28 6) (N112 32 w) (N112 33 w)) ∧ (∀ c, c ≠ 28 → c ≠ 31 → c ≠ 32 → c ≠ 33 → N112 c = M c) → (v5 + 1).toNat < n112 → jG D_X7_prepare X FJ shJ 0 0 (jqV (q_X7_prepare M p most q)) 112 [(0, jR 28), (1, jI p), (2, jI most), (3, jI q), (4, jI v4), (5, jI v5)] ([]) N112 := by
                intro n112
                induction n112 with
                | zero => intro v5 N112 _ hz; exact absurd hz (Nat.not_lt_zero _)
                | succ n112 ih112 =>
                  intro v5 N112 hinv hm
                  obtain ⟨x1, xb, xL, xc, xl, xw, xk⟩ := hinv
                  have y1 := zW_in (N38 31) v4 (N38 28 6).toNat
                  have y2 := zW_in (N38 31) v4 (v5 + 1).toNat
                  have y3 := congrFun xL v5
                  refine j_iload 5 dX7_prepare_112 rfl ?_
                  refine j_if_lt (tgt := 163) dX7_prepare_114 (by decide) (fun c114_21 => ?_) (fun c114_21 => ?_)
                  · skip
                    obtain ⟨v4_22, ev4_22⟩ : ∃ y : Int, y = v4 + 1 := ⟨_, rfl⟩
                    refine j_iinc (y := v4_22) (ls' := [(0, jR 28), (1, jI p), (2, jI most), (3, jI q), (4, jI v4_22), (5, jI v5)]) 4 dX7_prepare_163 rfl ev4_22 (by omega) (by decide) rfl ?_
                    refine j_goto (tgt := 88) dX7_prepare_166 (by decide) ?_
                    refine j_sub (ls' := [(0, jR 28), (1, jI p), (2, jI most), (3, jI q), (4, jI v4_22)]) [0, 1, 2, 3, 4] rfl ?_
                    exact ih88 v4_22 N112 ⟨by omega, by exact xb, by exact xL, by intro w w0 w1; by_cases hw : w = v4; (· rw [hw]; rw [show (v5 + 1).toNat = 0 by omega] at xc; refine ⟨by rw [xc]; show _ - 0 = _; omega, fun hx => ?_⟩; rcases xl with z | ⟨k, z1, z2, z3, z4⟩; (· omega); (· exact ⟨k, z1, z2, z3, fun k' a b => z4 k' (by omega) b⟩)); (· exact xw w w0 (by omega)), by exact xk⟩ (by omega)
                  · skip
                    refine j_aload_n 0 dX7_prepare_117 rfl rfl ?_
                    refine j_getr f_X7_18 r_28_5 dX7_prepare_118 ?_
                    refine j_iload 5 dX7_prepare_121 rfl ?_
                    refine j_iald a_31 dX7_prepare_123 (by omega) (by omega) ?_
                    refine j_iload 4 dX7_prepare_124 rfl ?_
                    refine j_iand dX7_prepare_126 ?_
                    refine j_iload 4 dX7_prepare_127 rfl ?_
                    refine j_icmp_ne (tgt := 157) dX7_prepare_129 (by decide) (fun c129_23 => ?_) (fun c129_23 => ?_)
                    · skip
                      obtain ⟨v5_24, ev5_24⟩ : ∃ y : Int, y = v5 + (-1) := ⟨_, rfl⟩
                      refine j_iinc (y := v5_24) (ls' := [(0, jR 28), (1, jI p), (2, jI most), (3, jI q), (4, jI v4), (5, jI v5_24)]) 5 dX7_prepare_157 rfl ev5_24 (by omega) (by decide) rfl ?_
                      refine j_goto (tgt := 112) dX7_prepare_160 (by decide) ?_
                      exact ih112 v5_24 N112 ⟨by omega, by first | exact xb | (rw [jup_zz, jup_cell (by decide), jup_cell (by decide)]; exact xb), by first | exact xL | (rw [jup_zz, jup_cell (by decide), jup_cell (by decide)]; exact xL), by rw [ev5_24, show v5 + -1 + 1 = v5 by omega]; have y4 := zP_s (f := zWith (N38 31) v4) (k := v5) (by omega); first | (rw [jup_zz, if_pos rfl]; rw [show zWith (N38 31) v4 v5 = 1 from if_pos (by rw [← y3]; assumption)] at y4; omega) | (rw [show zWith (N38 31) v4 v5 = 0 from if_neg (by rw [← y3]; assumption)] at y4; omega), by rw [ev5_24]; first | (right; refine ⟨v5, ⟨by omega, by omega⟩, ?_, by (rw [← y3]; assumption), fun k' a b => by omega⟩; rw [jup_zz, if_pos rfl]; exact y3) | (rcases xl with z | ⟨k, z1, z2, z3, z4⟩; (· exact Or.inl z); (· exact Or.inr ⟨k, z1, z2, z3, fun k' a b => by (by_cases hk5 : k' = v5; (· rw [hk5, ← y3]; assumption); (· exact z4 k' (by omega) b))⟩)), by first | exact xw | (intro w w0 w1; have e32 : N112 32 w = N112 32 w := (by rw [jup_zz, if_neg (by omega)]); have e33 : N112 33 w = N112 33 w := (by rw [jup_zz, jup_at, if_neg (by omega), jup_cellk (by decide)]); rw [e32, e33]; exact xw w w0 w1), by intro c z1 z2 z3 z4; first | (rw [jup_zz, jup_cell z4, jup_cell z3]; exact xk c z1 z2 z3 z4) | exact xk c z1 z2 z3 z4⟩ (by omega)
                    · skip
                      refine j_aload_n 0 dX7_prepare_132 rfl rfl ?_
                      refine j_getr f_X7_21 r_28_7 dX7_prepare_133 ?_
                      refine j_iload 4 dX7_prepare_136 rfl ?_
                      refine j_dup2 dX7_prepare_138 rfl rfl ?_
                      refine j_iald a_32 dX7_prepare_139 (by omega) (by omega) ?_
                      refine j_iconst dX7_prepare_140 (by decide) ?_
                      refine j_iadd dX7_prepare_141 (by omega) ?_
                      refine j_iast a_32 dX7_prepare_142 (by omega) (by omega) ?_
                      refine j_nmM (fun M_25 eM_25 => ?_)
                      refine j_aload_n 0 dX7_prepare_143 rfl rfl ?_
                      refine j_getr f_X7_24 r_28_8 dX7_prepare_144 ?_
                      refine j_iload 4 dX7_prepare_147 rfl ?_
                      refine j_aload_n 0 dX7_prepare_149 rfl rfl ?_
                      refine j_getr f_X7_18 r_28_5 dX7_prepare_150 ?_
                      refine j_iload 5 dX7_prepare_153 rfl ?_
                      refine j_iald a_31 dX7_prepare_155 (by omega) (by omega) ?_
                      refine j_eq (congrFun ((congrFun eM_25 31).trans (jup_cell (by decide))) v5) ?_
                      refine j_iast a_33 dX7_prepare_156 (by omega) (by omega) ?_
                      refine j_nmM (fun M_26 eM_26 => ?_)
                      obtain ⟨v5_27, ev5_27⟩ : ∃ y : Int, y = v5 + (-1) := ⟨_, rfl⟩
                      refine j_iinc (y := v5_27) (ls' := [(0, jR 28), (1, jI p), (2, jI most), (3, jI q), (4, jI v4), (5, jI v5_27)]) 5 dX7_prepare_157 rfl ev5_27 (by omega) (by decide) rfl ?_
                      refine j_goto (tgt := 112) dX7_prepare_160 (by decide) ?_
                      exact ih112 v5_27 M_26 ⟨by omega, by first | exact xb | (rw [eM_26, eM_25, jup_cell (by decide), jup_cell (by decide)]; exact xb), by first | exact xL | (rw [eM_26, eM_25, jup_cell (by decide), jup_cell (by decide)]; exact xL), by rw [ev5_27, show v5 + -1 + 1 = v5 by omega]; have y4 := zP_s (f := zWith (N38 31) v4) (k := v5) (by omega); first | (rw [eM_26, jup_cellk (by decide), eM_25, jup_at, if_pos rfl]; rw [show zWith (N38 31) v4 v5 = 1 from if_pos (by rw [← y3]; assumption)] at y4; omega) | (rw [show zWith (N38 31) v4 v5 = 0 from if_neg (by rw [← y3]; assumption)] at y4; omega), by rw [ev5_27]; first | (right; refine ⟨v5, ⟨by omega, by omega⟩, ?_, by (rw [← y3]; assumption), fun k' a b => by omega⟩; rw [eM_26, jup_at, eM_25, jup_cellk (by decide), if_pos rfl]; exact y3) | (rcases xl with z | ⟨k, z1, z2, z3, z4⟩; (· exact Or.inl z); (· exact Or.inr ⟨k, z1, z2, z3, fun k' a b => by (by_cases hk5 : k' = v5; (· rw [hk5, ← y3]; assumption); (· exact z4 k' (by omega) b))⟩)), by first | exact xw | (intro w w0 w1; have e32 : M_26 32 w = N112 32 w := (by rw [eM_26, jup_cellk (by decide), eM_25, jup_at, if_neg (by omega)]); have e33 : M_26 33 w = N112 33 w := (by rw [eM_26, eM_25, jup_at, if_neg (by omega), jup_cellk (by decide)]); rw [e32, e33]; exact xw w w0 w1), by intro c z1 z2 z3 z4; first | (rw [eM_26, eM_25, jup_cell z4, jup_cell z3]; exact xk c z1 z2 z3 z4) | exact xk c z1 z2 z3 z4⟩ (by omega)
              exact lp112_20 _ v5_19 M_18 ⟨by omega, by rw [eM_18, jup_cell (by decide)]; exact gb, by rw [eM_18, jup_cell (by decide)]; exact gL, by rw [eM_18, jup_at, if_pos rfl, show (v5_19 + 1) = N38 28 6 by omega]; omega, by left; rw [eM_18, jup_at, if_pos rfl], by intro w w0 w1; have e32 : M_18 32 w = N88 32 w := (by rw [eM_18, jup_at, if_neg (by omega)]); have e33 : M_18 33 w = N88 33 w := (by rw [eM_18, jup_cellk (by decide)]); rw [e32, e33]; exact gw w w0 w1, by intro c z1 z2 z3 z4; rw [eM_18, jup_cell z3]; exact hk2 c z1 z2 z3 z4⟩ (Nat.lt_succ_self _)
        exact lp88_16 _ 0 N38 ⟨by omega, by rfl, by rfl, by intro w w0 w1; omega, by exact hk⟩ (Nat.lt_succ_self _)
      · skip
        refine j_aload_n 0 dX7_prepare_46 rfl rfl ?_
        refine j_iload 4 dX7_prepare_47 rfl ?_
        refine j_iload_n 1 dX7_prepare_49 rfl rfl ?_
        refine j_iload_n 2 dX7_prepare_50 rfl rfl ?_
        refine j_iload_n 3 dX7_prepare_51 rfl rfl ?_
        refine j_callVi l_X7_51 ⟨Nat.le_of_ble_eq_true rfl, Nat.le_of_ble_eq_true rfl⟩ ⟨rfl, rfl⟩ dX7_prepare_52 ob_28 (c_X7_isShift N38 v4 p most q (by rw [(hk 29 (by decide) (by decide) (by decide) (by decide))]; exact h_cminutes) (by first | assumption | omega)) rfl rfl (Nat.le_of_ble_eq_true rfl) (fun r_28 M_29 h_30 => ?_)
        obtain ⟨er_28, nh_30⟩ := h_30
        refine j_eqM nh_30 ?_
        clear nh_30
        simp only [(hk 29 (by decide) (by decide) (by decide) (by decide))] at er_28
        refine j_if_eq (tgt := 79) dX7_prepare_55 (by decide) (fun c55_31 => ?_) (fun c55_31 => ?_)
        · skip
          obtain ⟨v4_32, ev4_32⟩ : ∃ y : Int, y = v4 + 1 := ⟨_, rfl⟩
          refine j_iinc (y := v4_32) (ls' := [(0, jR 28), (1, jI p), (2, jI most), (3, jI q), (4, jI v4_32)]) 4 dX7_prepare_79 rfl ev4_32 (by omega) (by decide) rfl ?_
          refine j_goto (tgt := 38) dX7_prepare_82 (by decide) ?_
          exact ih38 v4_32 N38 ⟨by omega, by have e1 : zIV (M 29) p most q v4 = 1 ∨ zIV (M 29) p most q v4 = 0 := (by unfold zIV; split <;> simp); rw [ev4_32, zIdx_s h1.1]; first | (rw [jup_zz, h6, show zIV (M 29) p most q v4 = 1 from if_pos (by unfold zOk; omega)]; done) | (rw [h6, show zIV (M 29) p most q v4 = 0 from if_neg (by unfold zOk; omega)]; omega), by unfold zList; intro s s0 s1 so; by_cases hs : s = v4; (· rw [hs] at so ⊢; unfold zOk at so; first | (exfalso; omega) | (rw [jup_zz, if_pos h6.symm])); (· have q7 := zIdx_lt (mn := M 29) (p := p) (most := most) (q := q) s0 (show s < v4 by omega) so; first | exact hl s s0 (by omega) so | (rw [jup_zz, if_neg (by rw [h6]; omega)]; exact hl s s0 (by omega) so)), by first | exact hb | (refine ⟨?_, ?_, ?_⟩; (· rw [jup_zz]; exact hb.1); (· rw [jup_zz]; exact hb.2.1); (· rw [jup_zz]; exact hb.2.2)), by intro c z1 z2 z3 z4; first | (rw [jup_zz, jup_cell z1, jup_cell z2]; exact hk c z1 z2 z3 z4) | exact hk c z1 z2 z3 z4⟩ (by omega)
        · skip
          refine j_aload_n 0 dX7_prepare_58 rfl rfl ?_
          refine j_getr f_X7_18 r_28_5 dX7_prepare_59 ?_
          refine j_aload_n 0 dX7_prepare_62 rfl rfl ?_
          refine j_geti (k' := 6) f_X7_48 o_28_6 dX7_prepare_63 rfl ?_
          refine j_iload 4 dX7_prepare_66 rfl ?_
          refine j_iast a_31 dX7_prepare_68 (by omega) (by omega) ?_
          refine j_nmM (fun M_33 eM_33 => ?_)
          refine j_aload_n 0 dX7_prepare_69 rfl rfl ?_
          refine j_dup dX7_prepare_70 rfl ?_
          refine j_geti (k' := 6) f_X7_48 o_28_6 dX7_prepare_71 rfl ?_
          refine j_eq (congrFun ((congrFun eM_33 28).trans (jup_cell (by decide))) 6) ?_
          refine j_iconst dX7_prepare_74 (by decide) ?_
          refine j_iadd dX7_prepare_75 (by omega) ?_
          refine j_puti (k' := 6) f_X7_48 o_28_6 dX7_prepare_76 rfl ?_
          refine j_nmM (fun M_34 eM_34 => ?_)
          obtain ⟨v4_35, ev4_35⟩ : ∃ y : Int, y = v4 + 1 := ⟨_, rfl⟩
          refine j_iinc (y := v4_35) (ls' := [(0, jR 28), (1, jI p), (2, jI most), (3, jI q), (4, jI v4_35)]) 4 dX7_prepare_79 rfl ev4_35 (by omega) (by decide) rfl ?_
          refine j_goto (tgt := 38) dX7_prepare_82 (by decide) ?_
          exact ih38 v4_35 M_34 ⟨by omega, by have e1 : zIV (M 29) p most q v4 = 1 ∨ zIV (M 29) p most q v4 = 0 := (by unfold zIV; split <;> simp); rw [ev4_35, zIdx_s h1.1]; first | (rw [eM_34, jup_self, h6, show zIV (M 29) p most q v4 = 1 from if_pos (by unfold zOk; omega)]; done) | (rw [h6, show zIV (M 29) p most q v4 = 0 from if_neg (by unfold zOk; omega)]; omega), by unfold zList; intro s s0 s1 so; by_cases hs : s = v4; (· rw [hs] at so ⊢; unfold zOk at so; first | (exfalso; omega) | (rw [eM_34, jup_cellk (by decide), eM_33, jup_at, if_pos h6.symm])); (· have q7 := zIdx_lt (mn := M 29) (p := p) (most := most) (q := q) s0 (show s < v4 by omega) so; first | exact hl s s0 (by omega) so | (rw [eM_34, jup_cellk (by decide), eM_33, jup_at, if_neg (by rw [h6]; omega)]; exact hl s s0 (by omega) so)), by first | exact hb | (refine ⟨?_, ?_, ?_⟩; (· rw [eM_34, jup_ne (by simp), eM_33, jup_ne (by simp)]; exact hb.1); (· rw [eM_34, jup_ne (by simp), eM_33, jup_ne (by simp)]; exact hb.2.1); (· rw [eM_34, jup_ne (by simp), eM_33, jup_ne (by simp)]; exact hb.2.2)), by intro c z1 z2 z3 z4; first | (rw [eM_34, eM_33, jup_cell z1, jup_cell z2]; exact hk c z1 z2 z3 z4) | exact hk c z1 z2 z3 z4⟩ (by omega)
  exact lp38_14 _ 0 M_13 ⟨by omega, by rw [eM_13, jup_self]; rfl, by unfold zList; intro s s0 s1; omega, by refine ⟨?_, ?_, ?_⟩; (· rw [eM_13, jup_ne (by simp), eM_12, jup_ne (by simp), eM_8, jup_ne (by simp), eM_4, jup_self]; exact er_1); (· rw [eM_13, jup_ne (by simp), eM_12, jup_ne (by simp), eM_8, jup_self]; exact er_5); (· rw [eM_13, jup_ne (by simp), eM_12, jup_self]; exact er_9), by intro c z1 z2 z3 z4; rw [eM_13, eM_12, eM_8, eM_4, jup_cell z1, jup_cell z1, jup_cell z1, jup_cell z1]⟩ (Nat.lt_succ_self _)
