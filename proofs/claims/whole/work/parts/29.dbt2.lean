theorem pRg_cg {M N : jM} (h : pRg M) (a : N 16 6 = M 16 6) (b : N 22 = M 22) (c : N 23 = M 23) (d : N 24 = M 24) (e : N 25 = M 25) (f : N 26 = M 26) : pRg N := by
  unfold pRg
  rw [a, b, c, d, e, f]
  exact h
abbrev q_J6_bitCount_0f7a4 (M : jM)  (i : Int) : Int → jM → Prop := fun r N => r = zOnes i 16 ∧ N = M
set_option maxHeartbeats 4000000 in
set_option maxRecDepth 20000 in
theorem c_J6_bitCount_0f7a4 {X : jX} (M : jM)  (i : Int) (h0 : 0 ≤ i ∧ i < 4096) : jC yJ6_bitCount_0f7a4 D_J6_bitCount_0f7a4 X FJ shJ [jI i] M (jqI (q_J6_bitCount_0f7a4 M i)) := by
  refine jC_of (by decide) rfl (fun ad => Nat.le_of_ble_eq_true rfl) (by decide) ?_
  show jG D_J6_bitCount_0f7a4 X FJ shJ 0 0 (jqI (q_J6_bitCount_0f7a4 M i)) 0 [(0, jI i)] [] M
  obtain ⟨b1, b2, b3, b4, b5, b6⟩ := bc_i h0
  refine j_iload_n 0 dJ6_bitCount_0f7a4_0 rfl rfl ?_
  refine j_iload_n 0 dJ6_bitCount_0f7a4_1 rfl rfl ?_
  refine j_iconst dJ6_bitCount_0f7a4_2 (by decide) ?_
  refine j_iushr dJ6_bitCount_0f7a4_3 ?_
  refine j_ldc_w (n := 1431655765) dJ6_bitCount_0f7a4_4 c_J6_265 (by decide) ?_
  refine j_iand dJ6_bitCount_0f7a4_7 ?_
  refine j_isub dJ6_bitCount_0f7a4_8 (by exact b1) ?_
  refine j_nm (fun v0_1 ev0_1 => ?_)
  refine j_istore_n (ls' := [(0, jI v0_1)]) dJ6_bitCount_0f7a4_9 rfl (by decide) rfl ?_
  have w1 : v0_1 = bc1 i := ev0_1
  refine j_iload_n 0 dJ6_bitCount_0f7a4_10 rfl rfl ?_
  refine j_ldc_w (n := 858993459) dJ6_bitCount_0f7a4_11 c_J6_266 (by decide) ?_
  refine j_iand dJ6_bitCount_0f7a4_14 ?_
  refine j_iload_n 0 dJ6_bitCount_0f7a4_15 rfl rfl ?_
  refine j_iconst dJ6_bitCount_0f7a4_16 (by decide) ?_
  refine j_iushr dJ6_bitCount_0f7a4_17 ?_
  refine j_ldc_w (n := 858993459) dJ6_bitCount_0f7a4_18 c_J6_266 (by decide) ?_
  refine j_iand dJ6_bitCount_0f7a4_21 ?_
  refine j_iadd dJ6_bitCount_0f7a4_22 (by rw [w1]; exact b2) ?_
  refine j_nm (fun v0_2 ev0_2 => ?_)
  refine j_istore_n (ls' := [(0, jI v0_2)]) dJ6_bitCount_0f7a4_23 rfl (by decide) rfl ?_
  have w2 : v0_2 = bc2 i := by rw [ev0_2, w1]; rfl
  refine j_iload_n 0 dJ6_bitCount_0f7a4_24 rfl rfl ?_
  refine j_iload_n 0 dJ6_bitCount_0f7a4_25 rfl rfl ?_
  refine j_iconst dJ6_bitCount_0f7a4_26 (by decide) ?_
  refine j_iushr dJ6_bitCount_0f7a4_27 ?_
  refine j_iadd dJ6_bitCount_0f7a4_28 (by rw [w2]; exact b3) ?_
  refine j_ldc_w (n := 252645135) dJ6_bitCount_0f7a4_29 c_J6_267 (by decide) ?_
  refine j_iand dJ6_bitCount_0f7a4_32 ?_
  refine j_nm (fun v0_3 ev0_3 => ?_)
  refine j_istore_n (ls' := [(0, jI v0_3)]) dJ6_bitCount_0f7a4_33 rfl (by decide) rfl ?_
  have w3 : v0_3 = jand (bc3 i) 252645135 := by rw [ev0_3, w2]; rfl
  refine j_iload_n 0 dJ6_bitCount_0f7a4_34 rfl rfl ?_
  refine j_iload_n 0 dJ6_bitCount_0f7a4_35 rfl rfl ?_
  refine j_bipush dJ6_bitCount_0f7a4_36 (by decide) ?_
  refine j_iushr dJ6_bitCount_0f7a4_38 ?_
  refine j_iadd dJ6_bitCount_0f7a4_39 (by rw [w3]; exact b4) ?_
  refine j_nm (fun v0_4 ev0_4 => ?_)
  refine j_istore_n (ls' := [(0, jI v0_4)]) dJ6_bitCount_0f7a4_40 rfl (by decide) rfl ?_
  have w4 : v0_4 = bc4 i := by rw [ev0_4, w3]; rfl
  refine j_iload_n 0 dJ6_bitCount_0f7a4_41 rfl rfl ?_
  refine j_iload_n 0 dJ6_bitCount_0f7a4_42 rfl rfl ?_
  refine j_bipush dJ6_bitCount_0f7a4_43 (by decide) ?_
  refine j_iushr dJ6_bitCount_0f7a4_45 ?_
  refine j_iadd dJ6_bitCount_0f7a4_46 (by rw [w4]; exact b5) ?_
  refine j_nm (fun v0_5 ev0_5 => ?_)
  refine j_istore_n (ls' := [(0, jI v0_5)]) dJ6_bitCount_0f7a4_47 rfl (by decide) rfl ?_
  have w5 : v0_5 = bc5 i := by rw [ev0_5, w4]; rfl
  refine j_iload_n 0 dJ6_bitCount_0f7a4_48 rfl rfl ?_
  refine j_bipush dJ6_bitCount_0f7a4_49 (by decide) ?_
  refine j_iand dJ6_bitCount_0f7a4_51 ?_
  refine j_iret rfl rfl rfl rfl dJ6_bitCount_0f7a4_52 ?_
  exact ⟨by rw [w5]; exact b6, rfl⟩
abbrev q_X9_ones (M : jM)  (s : Int) : Int → jM → Prop := fun r N => r = zOnes s 16 ∧ N = M
set_option maxHeartbeats 4000000 in
set_option maxRecDepth 20000 in
theorem c_X9_ones {X : jX} (M : jM)  (s : Int) (h0 : 0 ≤ s ∧ s < 4096) : jC yX9_ones D_X9_ones X FJ shJ [jI s] M (jqI (q_X9_ones M s)) := by
  refine jC_of (by decide) rfl (fun ad => Nat.le_of_ble_eq_true rfl) (by decide) ?_
  show jG D_X9_ones X FJ shJ 0 0 (jqI (q_X9_ones M s)) 0 [(0, jI s)] [] M
  refine j_iconst dX9_ones_0 (by decide) ?_
  refine j_istore_n (ls' := [(0, jI s), (1, jI 0)]) dX9_ones_1 rfl (by decide) rfl ?_
  refine j_iconst dX9_ones_2 (by decide) ?_
  refine j_istore_n (ls' := [(0, jI s), (1, jI 0), (2, jI 0)]) dX9_ones_3 rfl (by decide) rfl ?_
  have lp4_1 : ∀ n4 : Nat, ∀ (v1 v2 : Int), (0 ≤ v2 ∧ v2 ≤ 16) ∧ (v1 = zOnes s v2.toNat) → (16 - v2).toNat < n4 → jG D_X9_ones X FJ shJ 0 0 (jqI (q_X9_ones M s)) 4 [(0, jI s), (1, jI v1), (2, jI v2)] ([]) M := by
    intro n4
    induction n4 with
    | zero => intro v1 v2  _ hz; exact absurd hz (Nat.not_lt_zero _)
    | succ n4 ih4 =>
      intro v1 v2  hinv hm
      obtain ⟨h1, h2⟩ := hinv
      have q1 := zOnes_in s v2.toNat
      refine j_iload_n 2 dX9_ones_4 rfl rfl ?_
      refine j_bipush dX9_ones_5 (by decide) ?_
      refine j_icmp_ge (tgt := 24) dX9_ones_7 (by decide) (fun c7_2 => ?_) (fun c7_2 => ?_)
      · skip
        refine j_iload_n 1 dX9_ones_24 rfl rfl ?_
        refine j_iret rfl rfl rfl rfl dX9_ones_25 ?_
        exact ⟨by rw [h2, show v2 = 16 by omega]; rfl, rfl⟩
      · skip
        have w1 : jand (jshr s v2) 1 = zBit s v2 := jbit ⟨by omega, by omega⟩ ⟨by omega, by omega⟩
        have w2 := zBit_in s v2
        refine j_iload_n 1 dX9_ones_10 rfl rfl ?_
        refine j_iload_n 0 dX9_ones_11 rfl rfl ?_
        refine j_iload_n 2 dX9_ones_12 rfl rfl ?_
        refine j_ishr dX9_ones_13 ?_
        refine j_iconst dX9_ones_14 (by decide) ?_
        refine j_iand dX9_ones_15 ?_
        refine j_iadd dX9_ones_16 (by omega) ?_
        refine j_nm (fun v1_3 ev1_3 => ?_)
        refine j_istore_n (ls' := [(0, jI s), (1, jI v1_3), (2, jI v2)]) dX9_ones_17 rfl (by decide) rfl ?_
        obtain ⟨v2_4, ev2_4⟩ : ∃ y : Int, y = v2 + 1 := ⟨_, rfl⟩
        refine j_iinc (y := v2_4) (ls' := [(0, jI s), (1, jI v1_3), (2, jI v2_4)]) 2 dX9_ones_18 rfl ev2_4 (by omega) (by decide) rfl ?_
        refine j_goto (tgt := 4) dX9_ones_21 (by decide) ?_
        exact ih4 v1_3 v2_4 ⟨by omega, by rw [ev2_4, zOnes_s h1.1]; omega⟩ (by omega)
  exact lp4_1 _ 0 0 ⟨by first | omega | rfl, by first | omega | rfl⟩ (Nat.lt_succ_self _)
abbrev q_X1_isPeaceful (M : jM)  (x L : Int) : Int → jM → Prop := fun r N => ((r = 1 ∧ (∀ k, 0 ≤ k → k < L → tb x k = true → jand (M 27 k) x = 0)) ∨ (r = 0 ∧ ¬ (∀ k, 0 ≤ k → k < L → tb x k = true → jand (M 27 k) x = 0))) ∧ N = M
set_option maxHeartbeats 4000000 in
set_option maxRecDepth 20000 in
theorem c_X1_isPeaceful {X : jX} (M : jM)  (x L : Int) (h0 : (0 ≤ x ∧ x < 2147483648) ∧ 0 ≤ L ∧ L ≤ 12) : jC yX1_isPeaceful D_X1_isPeaceful X FJ shJ [jR 16, jI x, jI L] M (jqI (q_X1_isPeaceful M x L)) := by
  refine jC_of (by decide) rfl (fun ad => Nat.le_of_ble_eq_true rfl) (by decide) ?_
  show jG D_X1_isPeaceful X FJ shJ 0 0 (jqI (q_X1_isPeaceful M x L)) 0 [(0, jR 16), (1, jI x), (2, jI L)] [] M
  refine j_iconst dX1_isPeaceful_0 (by decide) ?_
  refine j_istore_n (ls' := [(0, jR 16), (1, jI x), (2, jI L), (3, jI 0)]) dX1_isPeaceful_1 rfl (by decide) rfl ?_
  have lp2_1 : ∀ n2 : Nat, ∀ (v3 : Int), (0 ≤ v3 ∧ v3 ≤ L) ∧ (∀ k, 0 ≤ k → k < v3 → tb x k = true → jand (M 27 k) x = 0) → (L - v3).toNat < n2 → jG D_X1_isPeaceful X FJ shJ 0 0 (jqI (q_X1_isPeaceful M x L)) 2 [(0, jR 16), (1, jI x), (2, jI L), (3, jI v3)] ([]) M := by
    intro n2
    induction n2 with
    | zero => intro v3  _ hz; exact absurd hz (Nat.not_lt_zero _)
    | succ n2 ih2 =>
      intro v3  hinv hm
      obtain ⟨h1, h2⟩ := hinv
      refine j_iload_n 3 dX1_isPeaceful_2 rfl rfl ?_
      refine j_iload_n 2 dX1_isPeaceful_3 rfl rfl ?_
      refine j_icmp_ge (tgt := 35) dX1_isPeaceful_4 (by decide) (fun c4_2 => ?_) (fun c4_2 => ?_)
      · skip
        refine j_iconst dX1_isPeaceful_35 (by decide) ?_
        refine j_zret rfl rfl rfl rfl dX1_isPeaceful_36 (by omega) ?_
        exact ⟨Or.inl ⟨rfl, fun k k0 k1 kb => h2 k k0 (by omega) kb⟩, rfl⟩
      · skip
        refine j_iload_n 1 dX1_isPeaceful_7 rfl rfl ?_
        refine j_iload_n 3 dX1_isPeaceful_8 rfl rfl ?_
        refine j_ishr dX1_isPeaceful_9 ?_
        refine j_iconst dX1_isPeaceful_10 (by decide) ?_
        refine j_iand dX1_isPeaceful_11 ?_
        refine j_iconst dX1_isPeaceful_12 (by decide) ?_
        refine j_icmp_ne (tgt := 29) dX1_isPeaceful_13 (by decide) (fun c13_3 => ?_) (fun c13_3 => ?_)
        · skip
          have hbit := bit_no (x := x) (k := v3) (by omega) (by omega) c13_3
          obtain ⟨v3_4, ev3_4⟩ : ∃ y : Int, y = v3 + 1 := ⟨_, rfl⟩
          refine j_iinc (y := v3_4) (ls' := [(0, jR 16), (1, jI x), (2, jI L), (3, jI v3_4)]) 3 dX1_isPeaceful_29 rfl ev3_4 (by omega) (by decide) rfl ?_
          refine j_goto (tgt := 2) dX1_isPeaceful_32 (by decide) ?_
          exact ih2 v3_4 ⟨by omega, by intro k k0 k1 kb; by_cases hk : k = v3; (· rw [hk] at kb ⊢; first | exact absurd kb hbit | assumption); (· exact h2 k k0 (by omega) kb)⟩ (by omega)
        · skip
          have hbit := bit_yes (x := x) (k := v3) (by omega) (by omega) c13_3
          refine j_aload_n 0 dX1_isPeaceful_16 rfl rfl ?_
          refine j_getr f_X1_42 r_16_12 dX1_isPeaceful_17 ?_
          refine j_iload_n 3 dX1_isPeaceful_20 rfl rfl ?_
          refine j_iald a_27 dX1_isPeaceful_21 (by omega) (by omega) ?_
          refine j_iload_n 1 dX1_isPeaceful_22 rfl rfl ?_
          refine j_iand dX1_isPeaceful_23 ?_
          refine j_if_eq (tgt := 29) dX1_isPeaceful_24 (by decide) (fun c24_5 => ?_) (fun c24_5 => ?_)
          · skip
            obtain ⟨v3_6, ev3_6⟩ : ∃ y : Int, y = v3 + 1 := ⟨_, rfl⟩
            refine j_iinc (y := v3_6) (ls' := [(0, jR 16), (1, jI x), (2, jI L), (3, jI v3_6)]) 3 dX1_isPeaceful_29 rfl ev3_6 (by omega) (by decide) rfl ?_
            refine j_goto (tgt := 2) dX1_isPeaceful_32 (by decide) ?_
            exact ih2 v3_6 ⟨by omega, by intro k k0 k1 kb; by_cases hk : k = v3; (· rw [hk] at kb ⊢; first | exact absurd kb hbit | assumption); (· exact h2 k k0 (by omega) kb)⟩ (by omega)
          · skip
            refine j_iconst dX1_isPeaceful_27 (by decide) ?_
            refine j_zret rfl rfl rfl rfl dX1_isPeaceful_28 (by omega) ?_
            exact ⟨Or.inr ⟨rfl, fun z => absurd (z v3 h1.1 (by omega) hbit) (by assumption)⟩, rfl⟩
  exact lp2_1 _ 0 ⟨by omega, by intro k a b; omega⟩ (Nat.lt_succ_self _)
abbrev q_X1_leastDoubted (M : jM)   : Int → jM → Prop := fun r N => dLs (pB M) (M 16 6) r (fun _ => True) ∧ ∀ c, c ≠ 27 → N c = M c
set_option maxHeartbeats 4000000 in
set_option maxRecDepth 20000 in
theorem c_X1_leastDoubted {X : jX} (M : jM)   (h_pk : pRg M) (h0 : M 16 6 ≤ 12) : jC yX1_leastDoubted D_X1_leastDoubted X FJ shJ [jR 16] M (jqI (q_X1_leastDoubted M)) := by
  refine jC_of (by decide) rfl (fun ad => Nat.le_of_ble_eq_true rfl) (by decide) ?_
  show jG D_X1_leastDoubted X FJ shJ 0 0 (jqI (q_X1_leastDoubted M)) 0 [(0, jR 16)] [] M
  have hpk := h_pk.1
  have hp2 := p2k (n := M 16 6) (by omega)
  refine j_aload_n 0 dX1_leastDoubted_0 rfl rfl ?_
  refine j_geti (k' := 6) f_X1_53 o_16_6 dX1_leastDoubted_1 rfl ?_
  refine j_bipush dX1_leastDoubted_4 (by decide) ?_
  refine j_mmin lm_X1_71 lm_min ⟨Nat.le_of_ble_eq_true rfl, Nat.le_of_ble_eq_true rfl⟩ ⟨Nat.le_of_ble_eq_true rfl, Nat.le_of_ble_eq_true rfl⟩ dX1_leastDoubted_6 ?_
  refine j_nm (fun v1_1 ev1_1 => ?_)
  refine j_istore_n (ls' := [(0, jR 16), (1, jI v1_1)]) dX1_leastDoubted_9 rfl (by decide) rfl ?_
  have e1 : v1_1 = M 16 6 := by omega
  refine j_iconst dX1_leastDoubted_10 (by decide) ?_
  refine j_istore_n (ls' := [(0, jR 16), (1, jI v1_1), (2, jI 0)]) dX1_leastDoubted_11 rfl (by decide) rfl ?_
  have lp12_2 : ∀ n12 : Nat, ∀ (v2 : Int), ∀ N12 : jM, (0 ≤ v2 ∧ v2 ≤ M 16 6) ∧ (∀ k, 0 ≤ k → k < v2 → dW (dP M k) (M 16 6) (N12 27 k)) ∧ (∀ c, c ≠ 27 → N12 c = M c) → (M 16 6 - v2).toNat < n12 → jG D_X1_leastDoubted X FJ shJ 0 0 (jqI (q_X1_leastDoubted M)) 12 [(0, jR 16), (1, jI v1_1), (2, jI v2)] ([]) N12 := by
    intro n12
    induction n12 with
    | zero => intro v2 N12 _ hz; exact absurd hz (Nat.not_lt_zero _)
    | succ n12 ih12 =>
      intro v2 N12 hinv hm
      obtain ⟨h1, hr, hk⟩ := hinv
      refine j_iload_n 2 dX1_leastDoubted_12 rfl rfl ?_
      refine j_iload_n 1 dX1_leastDoubted_13 rfl rfl ?_
      refine j_icmp_ge (tgt := 69) dX1_leastDoubted_14 (by decide) (fun c14_3 => ?_) (fun c14_3 => ?_)
      · skip
        refine j_iconst dX1_leastDoubted_69 (by decide) ?_
        refine j_iload_n 1 dX1_leastDoubted_70 rfl rfl ?_
        refine j_ishl dX1_leastDoubted_71 ?_
        refine j_iconst dX1_leastDoubted_72 (by decide) ?_
        refine j_isub dX1_leastDoubted_73 (by rw [e1]; omega) ?_
        refine j_nm (fun v2_4 ev2_4 => ?_)
        refine j_istore_n (ls' := [(0, jR 16), (1, jI v1_1), (2, jI v2_4)]) dX1_leastDoubted_74 rfl (by decide) rfl ?_
        have e2 : v2_4 = (2 : Int) ^ (M 16 6).toNat - 1 := by rw [ev2_4, e1]; omega
        refine j_iload_n 2 dX1_leastDoubted_75 rfl rfl ?_
        refine j_istore_n (ls' := [(0, jR 16), (1, jI v1_1), (2, jI v2_4), (3, jI v2_4)]) dX1_leastDoubted_76 rfl (by decide) rfl ?_
        refine j_iconst dX1_leastDoubted_77 (by decide) ?_
        refine j_istore (ls' := [(0, jR 16), (1, jI v1_1), (2, jI v2_4), (3, jI v2_4), (4, jI 0)]) dX1_leastDoubted_78 (by decide) rfl ?_
        have lp80_5 : ∀ n80 : Nat, ∀ (v3 v4 : Int), (0 ≤ v4 ∧ v4 ≤ (2 : Int) ^ (M 16 6).toNat - 1) ∧ (0 ≤ v3 ∧ (v3 < v4 ∨ v3 = (2 : Int) ^ (M 16 6).toNat - 1)) ∧ (dLs (pB M) (M 16 6) v3 (fun s => s < v4 ∨ s = (2 : Int) ^ (M 16 6).toNat - 1)) → ((2 : Int) ^ (M 16 6).toNat - 1 - v4).toNat < n80 → jG D_X1_leastDoubted X FJ shJ 0 0 (jqI (q_X1_leastDoubted M)) 80 [(0, jR 16), (1, jI v1_1), (2, jI v2_4), (3, jI v3), (4, jI v4)] ([]) N12 := by
          intro n80
          induction n80 with
          | zero => intro v3 v4  _ hz; exact absurd hz (Nat.not_lt_zero _)
          | succ n80 ih80 =>
            intro v3 v4  hinv hm
            obtain ⟨x1, x2, x3⟩ := hinv
            have hrow : ∀ k, 0 ≤ k → k < M 16 6 → dW (dP M k) (M 16 6) (N12 27 k) := fun k k0 k1 => hr k k0 (by omega)
            refine j_iload 4 dX1_leastDoubted_80 rfl ?_
            refine j_iload_n 2 dX1_leastDoubted_82 rfl rfl ?_
            refine j_icmp_ge (tgt := 121) dX1_leastDoubted_83 (by decide) (fun c83_6 => ?_) (fun c83_6 => ?_)
            · skip
              refine j_iload_n 3 dX1_leastDoubted_121 rfl rfl ?_
              refine j_iret rfl rfl rfl rfl dX1_leastDoubted_122 ?_
              exact ⟨dLs_up0 x3 (by omega), hk⟩
            · skip
              refine j_iload 4 dX1_leastDoubted_86 rfl ?_
              refine j_callSi l_X1_78 ⟨Nat.le_of_ble_eq_true rfl, Nat.le_of_ble_eq_true rfl⟩ ⟨rfl, rfl⟩ dX1_leastDoubted_88 (c_J6_bitCount_0f7a4 N12 v4 (by first | assumption | omega)) rfl rfl (Nat.le_of_ble_eq_true rfl) (fun r_7 M_8 h_9 => ?_)
              obtain ⟨er_7, nh_9⟩ := h_9
              refine j_eqM nh_9 ?_
              clear nh_9
              refine j_iload_n 3 dX1_leastDoubted_91 rfl rfl ?_
              refine j_callSi l_X1_78 ⟨Nat.le_of_ble_eq_true rfl, Nat.le_of_ble_eq_true rfl⟩ ⟨rfl, rfl⟩ dX1_leastDoubted_92 (c_J6_bitCount_0f7a4 N12 v3 (by first | assumption | omega)) rfl rfl (Nat.le_of_ble_eq_true rfl) (fun r_10 M_11 h_12 => ?_)
              obtain ⟨er_10, nh_12⟩ := h_12
              refine j_eqM nh_12 ?_
              clear nh_12
              refine j_icmp_ge (tgt := 115) dX1_leastDoubted_95 (by decide) (fun c95_13 => ?_) (fun c95_13 => ?_)
              · skip
                obtain ⟨v4_14, ev4_14⟩ : ∃ y : Int, y = v4 + 1 := ⟨_, rfl⟩
                refine j_iinc (y := v4_14) (ls' := [(0, jR 16), (1, jI v1_1), (2, jI v2_4), (3, jI v3), (4, jI v4_14)]) 4 dX1_leastDoubted_115 rfl ev4_14 (by omega) (by decide) rfl ?_
                refine j_goto (tgt := 80) dX1_leastDoubted_118 (by decide) ?_
                exact ih80 v3 v4_14 ⟨by omega, by omega, by rw [ev4_14]; exact dLs_up' ⟨by omega, by omega⟩ ⟨by omega, by omega⟩ x3 (by first | (left; exact ⟨rfl, by omega, by rcases hpc with z | z; (· exact z.2); (· omega)⟩) | (right; refine ⟨rfl, fun z => ?_⟩; first | omega | (rcases hpc with y | y; (· omega); (· exact y.2 z.2)))) (by omega)⟩ (by omega)
              · skip
                have hl := d_left (n := M 16 6) (s := v4) (by omega) ⟨by omega, by omega⟩
                rw [← e2] at hl
                refine j_aload_n 0 dX1_leastDoubted_98 rfl rfl ?_
                refine j_iload_n 2 dX1_leastDoubted_99 rfl rfl ?_
                refine j_iload 4 dX1_leastDoubted_100 rfl ?_
                refine j_iconst dX1_leastDoubted_102 (by decide) ?_
                refine j_ixor dX1_leastDoubted_103 ?_
                refine j_iand dX1_leastDoubted_104 ?_
                refine j_iload_n 1 dX1_leastDoubted_105 rfl rfl ?_
                refine j_callVi l_X1_84 ⟨Nat.le_of_ble_eq_true rfl, Nat.le_of_ble_eq_true rfl⟩ ⟨rfl, rfl⟩ dX1_leastDoubted_106 ob_16 (c_X1_isPeaceful N12 ((jand v2_4 (jxor v4 (-1)))) v1_1 (by first | assumption | omega)) rfl rfl (Nat.le_of_ble_eq_true rfl) (fun r_15 M_16 h_17 => ?_)
                obtain ⟨er_15, nh_17⟩ := h_17
                refine j_eqM nh_17 ?_
                clear nh_17
                have hpc : (r_15 = 1 ∧ dV (pB M) (M 16 6) v4) ∨ (r_15 = 0 ∧ ¬ dV (pB M) (M 16 6) v4) := by rw [e1, e2, d_peace (M := M) (by omega) ⟨by omega, by omega⟩ hrow] at er_15; exact er_15
                refine j_if_eq (tgt := 115) dX1_leastDoubted_109 (by decide) (fun c109_18 => ?_) (fun c109_18 => ?_)
                · skip
                  obtain ⟨v4_19, ev4_19⟩ : ∃ y : Int, y = v4 + 1 := ⟨_, rfl⟩
                  refine j_iinc (y := v4_19) (ls' := [(0, jR 16), (1, jI v1_1), (2, jI v2_4), (3, jI v3), (4, jI v4_19)]) 4 dX1_leastDoubted_115 rfl ev4_19 (by omega) (by decide) rfl ?_
                  refine j_goto (tgt := 80) dX1_leastDoubted_118 (by decide) ?_
                  exact ih80 v3 v4_19 ⟨by omega, by omega, by rw [ev4_19]; exact dLs_up' ⟨by omega, by omega⟩ ⟨by omega, by omega⟩ x3 (by first | (left; exact ⟨rfl, by omega, by rcases hpc with z | z; (· exact z.2); (· omega)⟩) | (right; refine ⟨rfl, fun z => ?_⟩; first | omega | (rcases hpc with y | y; (· omega); (· exact y.2 z.2)))) (by omega)⟩ (by omega)
                · skip
                  refine j_iload 4 dX1_leastDoubted_112 rfl ?_
                  refine j_istore_n (ls' := [(0, jR 16), (1, jI v1_1), (2, jI v2_4), (3, jI v4), (4, jI v4)]) dX1_leastDoubted_114 rfl (by decide) rfl ?_
                  obtain ⟨v4_20, ev4_20⟩ : ∃ y : Int, y = v4 + 1 := ⟨_, rfl⟩
                  refine j_iinc (y := v4_20) (ls' := [(0, jR 16), (1, jI v1_1), (2, jI v2_4), (3, jI v4), (4, jI v4_20)]) 4 dX1_leastDoubted_115 rfl ev4_20 (by omega) (by decide) rfl ?_
                  refine j_goto (tgt := 80) dX1_leastDoubted_118 (by decide) ?_
                  exact ih80 v4 v4_20 ⟨by omega, by omega, by rw [ev4_20]; exact dLs_up' ⟨by omega, by omega⟩ ⟨by omega, by omega⟩ x3 (by first | (left; exact ⟨rfl, by omega, by rcases hpc with z | z; (· exact z.2); (· omega)⟩) | (right; refine ⟨rfl, fun z => ?_⟩; first | omega | (rcases hpc with y | y; (· omega); (· exact y.2 z.2)))) (by omega)⟩ (by omega)
        exact lp80_5 _ v2_4 0 ⟨by omega, by omega, by rw [e2]; exact dLs_bot hp2.2.1⟩ (Nat.lt_succ_self _)
      · skip
        refine j_aload_n 0 dX1_leastDoubted_17 rfl rfl ?_
        refine j_getr f_X1_42 r_16_12 dX1_leastDoubted_18 ?_
        refine j_iload_n 2 dX1_leastDoubted_21 rfl rfl ?_
        refine j_iconst dX1_leastDoubted_22 (by decide) ?_
        refine j_iast a_27 dX1_leastDoubted_23 (by omega) (by omega) ?_
        refine j_nmM (fun M_21 eM_21 => ?_)
        refine j_iconst dX1_leastDoubted_24 (by decide) ?_
        refine j_istore_n (ls' := [(0, jR 16), (1, jI v1_1), (2, jI v2), (3, jI 0)]) dX1_leastDoubted_25 rfl (by decide) rfl ?_
        have lp26_22 : ∀ n26 : Nat, ∀ (v3 : Int), ∀ N26 : jM, (0 ≤ v3 ∧ v3 ≤ M 16 6) ∧ (dW (dP M v2) v3 (N26 27 v2)) ∧ (∀ k, 0 ≤ k → k < v2 → dW (dP M k) (M 16 6) (N26 27 k)) ∧ (∀ c, c ≠ 27 → N26 c = M c) → (M 16 6 - v3).toNat < n26 → jG D_X1_leastDoubted X FJ shJ 0 0 (jqI (q_X1_leastDoubted M)) 26 [(0, jR 16), (1, jI v1_1), (2, jI v2), (3, jI v3)] ([]) N26 := by
          intro n26
          induction n26 with
          | zero => intro v3 N26 _ hz; exact absurd hz (Nat.not_lt_zero _)
          | succ n26 ih26 =>
            intro v3 N26 hinv hm
            obtain ⟨g1, gc, gr, gk⟩ := hinv
            refine j_iload_n 3 dX1_leastDoubted_26 rfl rfl ?_
            refine j_iload_n 1 dX1_leastDoubted_27 rfl rfl ?_
            refine j_icmp_ge (tgt := 63) dX1_leastDoubted_28 (by decide) (fun c28_23 => ?_) (fun c28_23 => ?_)
            · skip
              obtain ⟨v2_24, ev2_24⟩ : ∃ y : Int, y = v2 + 1 := ⟨_, rfl⟩
              refine j_iinc (y := v2_24) (ls' := [(0, jR 16), (1, jI v1_1), (2, jI v2_24), (3, jI v3)]) 2 dX1_leastDoubted_63 rfl ev2_24 (by omega) (by decide) rfl ?_
              refine j_goto (tgt := 12) dX1_leastDoubted_66 (by decide) ?_
              refine j_sub (ls' := [(0, jR 16), (1, jI v1_1), (2, jI v2_24)]) [0, 1, 2] rfl ?_
              exact ih12 v2_24 N26 ⟨by omega, by intro k k0 k1; by_cases hk_ : k = v2; (· rw [hk_, show M 16 6 = v3 by omega]; exact gc); (· exact gr k k0 (by omega)), by exact gk⟩ (by omega)
            · skip
              refine j_iload_n 3 dX1_leastDoubted_31 rfl rfl ?_
              refine j_iload_n 2 dX1_leastDoubted_32 rfl rfl ?_
              refine j_icmp_eq (tgt := 57) dX1_leastDoubted_33 (by decide) (fun c33_25 => ?_) (fun c33_25 => ?_)
              · skip
                have hb : dP M v2 v3 = false := by unfold dP; simp; intro z; omega
                obtain ⟨v3_26, ev3_26⟩ : ∃ y : Int, y = v3 + 1 := ⟨_, rfl⟩
                refine j_iinc (y := v3_26) (ls' := [(0, jR 16), (1, jI v1_1), (2, jI v2), (3, jI v3_26)]) 3 dX1_leastDoubted_57 rfl ev3_26 (by omega) (by decide) rfl ?_
                refine j_goto (tgt := 26) dX1_leastDoubted_60 (by decide) ?_
                exact ih26 v3_26 N26 ⟨by omega, by rw [ev3_26]; first | exact dW_n g1.1 gc hb | (rw [jup_zz, if_pos rfl]; exact dW_y ⟨g1.1, by omega⟩ gc hb), by intro k k0 k1; first | exact gr k k0 k1 | (rw [jup_zz, if_neg (by omega)]; exact gr k k0 k1), by intro c hc; first | exact gk c hc | (rw [jup_zz, jup_cell hc]; exact gk c hc)⟩ (by omega)
              · skip
                refine j_aload_n 0 dX1_leastDoubted_36 rfl rfl ?_
                refine j_iload_n 2 dX1_leastDoubted_37 rfl rfl ?_
                refine j_iload_n 3 dX1_leastDoubted_38 rfl rfl ?_
                refine j_callVi l_X1_74 ⟨Nat.le_of_ble_eq_true rfl, Nat.le_of_ble_eq_true rfl⟩ ⟨rfl, rfl⟩ dX1_leastDoubted_39 ob_16 (c_X1_bothIn N26 v2 v3 (by exact pRg_cg h_pk (congrFun (gk 16 (by decide)) 6) (gk 22 (by decide)) (gk 23 (by decide)) (gk 24 (by decide)) (gk 25 (by decide)) (gk 26 (by decide))) (by rw [congrFun (gk 16 (by decide)) 6]; omega)) rfl rfl (Nat.le_of_ble_eq_true rfl) (fun r_27 M_28 h_29 => ?_)
                obtain ⟨er_27, nh_29⟩ := h_29
                refine j_eqM nh_29 ?_
                clear nh_29
                refine j_if_eq (tgt := 57) dX1_leastDoubted_42 (by decide) (fun c42_30 => ?_) (fun c42_30 => ?_)
                · skip
                  have hb : dP M v2 v3 = false := by (have : ¬ pB M v2 v3 = true := by (rw [← pB_cg (N := N26) (gk 24 (by decide)) (gk 25 (by decide))]; intro z; rcases er_27 with y | y; (· omega); (· exact y.2 z))); unfold dP; simp [this]
                  obtain ⟨v3_31, ev3_31⟩ : ∃ y : Int, y = v3 + 1 := ⟨_, rfl⟩
                  refine j_iinc (y := v3_31) (ls' := [(0, jR 16), (1, jI v1_1), (2, jI v2), (3, jI v3_31)]) 3 dX1_leastDoubted_57 rfl ev3_31 (by omega) (by decide) rfl ?_
                  refine j_goto (tgt := 26) dX1_leastDoubted_60 (by decide) ?_
                  exact ih26 v3_31 N26 ⟨by omega, by rw [ev3_31]; first | exact dW_n g1.1 gc hb | (rw [jup_zz, if_pos rfl]; exact dW_y ⟨g1.1, by omega⟩ gc hb), by intro k k0 k1; first | exact gr k k0 k1 | (rw [jup_zz, if_neg (by omega)]; exact gr k k0 k1), by intro c hc; first | exact gk c hc | (rw [jup_zz, jup_cell hc]; exact gk c hc)⟩ (by omega)
                · skip
                  have hb : dP M v2 v3 = true := by (have : pB M v2 v3 = true := by (rw [← pB_cg (N := N26) (gk 24 (by decide)) (gk 25 (by decide))]; rcases er_27 with z | z; (· exact z.2); (· exact absurd z.1 c42_30))); unfold dP; simp [this]; omega
                  refine j_aload_n 0 dX1_leastDoubted_45 rfl rfl ?_
                  refine j_getr f_X1_42 r_16_12 dX1_leastDoubted_46 ?_
                  refine j_iload_n 2 dX1_leastDoubted_49 rfl rfl ?_
                  refine j_dup2 dX1_leastDoubted_50 rfl rfl ?_
                  refine j_iald a_27 dX1_leastDoubted_51 (by omega) (by omega) ?_
                  refine j_iconst dX1_leastDoubted_52 (by decide) ?_
                  refine j_iload_n 3 dX1_leastDoubted_53 rfl rfl ?_
                  refine j_ishl dX1_leastDoubted_54 ?_
                  refine j_ior dX1_leastDoubted_55 ?_
                  refine j_iast a_27 dX1_leastDoubted_56 (by omega) (by omega) ?_
                  refine j_nmM (fun M_32 eM_32 => ?_)
                  obtain ⟨v3_33, ev3_33⟩ : ∃ y : Int, y = v3 + 1 := ⟨_, rfl⟩
                  refine j_iinc (y := v3_33) (ls' := [(0, jR 16), (1, jI v1_1), (2, jI v2), (3, jI v3_33)]) 3 dX1_leastDoubted_57 rfl ev3_33 (by omega) (by decide) rfl ?_
                  refine j_goto (tgt := 26) dX1_leastDoubted_60 (by decide) ?_
                  exact ih26 v3_33 M_32 ⟨by omega, by rw [ev3_33]; first | exact dW_n g1.1 gc hb | (rw [eM_32, jup_at, if_pos rfl]; exact dW_y ⟨g1.1, by omega⟩ gc hb), by intro k k0 k1; first | exact gr k k0 k1 | (rw [eM_32, jup_at, if_neg (by omega)]; exact gr k k0 k1), by intro c hc; first | exact gk c hc | (rw [eM_32, jup_cell hc]; exact gk c hc)⟩ (by omega)
        exact lp26_22 _ 0 M_21 ⟨by omega, by rw [eM_21, jup_at, if_pos rfl]; exact dW_0 _, by intro k k0 k1; rw [eM_21, jup_at, if_neg (by omega)]; exact hr k k0 k1, by intro c hc; rw [eM_21, jup_cell hc]; exact hk c hc⟩ (Nat.lt_succ_self _)
  exact lp12_2 _ 0 M ⟨by omega, by intro k a b; omega, by intro c _; rfl⟩ (Nat.lt_succ_self _)
abbrev q_X8_doubted (M : jM)  (h d w : Int) : Int → jM → Prop := fun r N => ((¬ (0 ≤ h ∧ h < M 9 0 ∧ 0 ≤ d ∧ d ≤ 359 ∧ 0 ≤ w ∧ w ≤ 1) ∧ r = -1) ∨ ((0 ≤ h ∧ h < M 9 0 ∧ 0 ≤ d ∧ d ≤ 359 ∧ 0 ≤ w ∧ w ≤ 1) ∧ 12 < (sCnt (M 17) (M 18) h d (M 16 0).toNat) ∧ r = -2) ∨ ((0 ≤ h ∧ h < M 9 0 ∧ 0 ≤ d ∧ d ≤ 359 ∧ 0 ≤ w ∧ w ≤ 1) ∧ (sCnt (M 17) (M 18) h d (M 16 0).toNat) ≤ 12 ∧ dAns (fun a b => fClash (M 6) (M 7) (M 8) (M 19) (M 20) (M 21) (sSel (M 17) (M 18) h d (M 16 0).toNat a) (sSel (M 17) (M 18) h d (M 16 0).toNat b)) (sCnt (M 17) (M 18) h d (M 16 0).toNat) w r)) ∧ (∀ c, c ≠ 16 → c ≠ 22 → c ≠ 23 → c ≠ 24 → c ≠ 25 → c ≠ 26 → c ≠ 27 → N c = M c) ∧ (∀ k, k ≠ 6 → N 16 k = M 16 k)
set_option maxHeartbeats 4000000 in
set_option maxRecDepth 20000 in
theorem c_X8_doubted {X : jX} (M : jM)  (h d w : Int) (h_clines : 0 ≤ M 16 0 ∧ M 16 0 ≤ 60) (h_cchecks : ∀ i, 0 ≤ M 6 i ∧ M 6 i ≤ 4) (h_ccerr : ∀ i, -90 ≤ M 8 i ∧ M 8 i ≤ 90) (h_clwhere : ∀ i, M 19 i = -9 ∨ (0 ≤ M 19 i ∧ M 19 i < 6)) (h_clin : ∀ i, 0 ≤ M 20 i ∧ M 20 i ≤ 1439) (h_clout : ∀ i, 0 ≤ M 21 i ∧ M 21 i ≤ 1440) : jC yX8_doubted D_X8_doubted X FJ shJ [jR 0, jI h, jI d, jI w] M (jqI (q_X8_doubted M h d w)) := by
  refine jC_of (by decide) rfl (fun ad => Nat.le_of_ble_eq_true rfl) (by decide) ?_
  show jG D_X8_doubted X FJ shJ 0 0 (jqI (q_X8_doubted M h d w)) 0 [(0, jR 0), (1, jI h), (2, jI d), (3, jI w)] [] M
  refine j_aload_n 0 dX8_doubted_0 rfl rfl ?_
  refine j_getr f_X8_19 r_0_1 dX8_doubted_1 ?_
  refine j_iload_n 1 dX8_doubted_4 rfl rfl ?_
  refine j_callVi l_X8_85 ⟨Nat.le_of_ble_eq_true rfl, Nat.le_of_ble_eq_true rfl⟩ ⟨rfl, rfl⟩ dX8_doubted_5 ob_9 (c_X3_knows M h) rfl rfl (Nat.le_of_ble_eq_true rfl) (fun r_1 M_2 h_3 => ?_)
  obtain ⟨er_1, nh_3⟩ := h_3
  refine j_eqM nh_3 ?_
  clear nh_3
  refine j_if_eq (tgt := 27) dX8_doubted_8 (by decide) (fun c8_4 => ?_) (fun c8_4 => ?_)
  · skip
    refine j_iconst dX8_doubted_27 (by decide) ?_
    refine j_iret rfl rfl rfl rfl dX8_doubted_28 ?_
    exact ⟨Or.inl ⟨by omega, rfl⟩, fun _ _ _ _ _ _ _ _ => rfl, fun _ _ => rfl⟩
  · skip
    refine j_iload_n 2 dX8_doubted_11 rfl rfl ?_
    refine j_callSi l_X8_103 ⟨Nat.le_of_ble_eq_true rfl, Nat.le_of_ble_eq_true rfl⟩ ⟨rfl, rfl⟩ dX8_doubted_12 (c_X8_isDay M d) rfl rfl (Nat.le_of_ble_eq_true rfl) (fun r_5 M_6 h_7 => ?_)
    obtain ⟨er_5, nh_7⟩ := h_7
    refine j_eqM nh_7 ?_
    clear nh_7
    refine j_if_eq (tgt := 27) dX8_doubted_15 (by decide) (fun c15_8 => ?_) (fun c15_8 => ?_)
    · skip
      refine j_iconst dX8_doubted_27 (by decide) ?_
      refine j_iret rfl rfl rfl rfl dX8_doubted_28 ?_
      exact ⟨Or.inl ⟨by omega, rfl⟩, fun _ _ _ _ _ _ _ _ => rfl, fun _ _ => rfl⟩
    · skip
      refine j_iload_n 3 dX8_doubted_18 rfl rfl ?_
      refine j_iconst dX8_doubted_19 (by decide) ?_
      refine j_iconst dX8_doubted_20 (by decide) ?_
      refine j_callSi l_X8_74 ⟨Nat.le_of_ble_eq_true rfl, Nat.le_of_ble_eq_true rfl⟩ ⟨rfl, rfl⟩ dX8_doubted_21 (c_X8_within M w 0 1) rfl rfl (Nat.le_of_ble_eq_true rfl) (fun r_9 M_10 h_11 => ?_)
      obtain ⟨er_9, nh_11⟩ := h_11
      refine j_eqM nh_11 ?_
      clear nh_11
      refine j_if_ne (tgt := 29) dX8_doubted_24 (by decide) (fun c24_12 => ?_) (fun c24_12 => ?_)
      · skip
        refine j_aload_n 0 dX8_doubted_29 rfl rfl ?_
        refine j_getr f_X8_28 r_0_3 dX8_doubted_30 ?_
        refine j_iload_n 1 dX8_doubted_33 rfl rfl ?_
        refine j_iload_n 2 dX8_doubted_34 rfl rfl ?_
        refine j_callVv l_X8_189 ⟨Nat.le_of_ble_eq_true rfl, Nat.le_of_ble_eq_true rfl⟩ ⟨rfl, rfl⟩ dX8_doubted_35 ob_16 (c_X1_pick M h d h_clines h_cchecks h_ccerr h_clwhere h_clin h_clout) rfl rfl (Nat.le_of_ble_eq_true rfl) (fun M_14 h_15 => ?_)
        have ph_15 := h_15
        unfold q_X1_pick at ph_15
        have rgh_15 := ph_15.rg (by omega) h_clwhere h_ccerr h_clin h_clout
        have frh_15 := ph_15.2.2.2.2.2.2.1
        have fkh_15 := ph_15.2.2.2.2.2.2.2
        have pk1 := ph_15
        have hfr := frh_15
        have hfk := fkh_15
        have hr6 := rgh_15.1
        refine j_aload_n 0 dX8_doubted_38 rfl rfl ?_
        refine j_getr f_X8_28 r_0_3 dX8_doubted_39 ?_
        refine j_geti (k' := 6) f_X8_205 o_16_6 dX8_doubted_42 rfl ?_
        refine j_bipush dX8_doubted_45 (by decide) ?_
        refine j_icmp_le (tgt := 53) dX8_doubted_47 (by decide) (fun c47_16 => ?_) (fun c47_16 => ?_)
        · skip
          have hp2 := p2k (n := M_14 16 6) (by omega)
          refine j_aload_n 0 dX8_doubted_53 rfl rfl ?_
          refine j_getr f_X8_28 r_0_3 dX8_doubted_54 ?_
          refine j_callVi l_X8_208 ⟨Nat.le_of_ble_eq_true rfl, Nat.le_of_ble_eq_true rfl⟩ ⟨rfl, rfl⟩ dX8_doubted_57 ob_16 (c_X1_leastDoubted M_14 (by first | assumption | exact hrg) (by first | assumption | omega)) rfl rfl (Nat.le_of_ble_eq_true rfl) (fun r_17 M_18 h_19 => ?_)
          obtain ⟨hld, frh_19⟩ := h_19
          have hl1 := hld.1
          refine j_istore (ls' := [(0, jR 0), (1, jI h), (2, jI d), (3, jI w), (4, jI r_17)]) dX8_doubted_60 (by decide) rfl ?_
          refine j_iload_n 3 dX8_doubted_62 rfl rfl ?_
          refine j_if_ne (tgt := 74) dX8_doubted_63 (by decide) (fun c63_20 => ?_) (fun c63_20 => ?_)
          · skip
            refine j_iload 4 dX8_doubted_74 rfl ?_
            refine j_iret rfl rfl rfl rfl dX8_doubted_76 ?_
            refine ⟨Or.inr (Or.inr ⟨by omega, by rw [← pk1.1]; omega, ?_⟩), fun c z1 z2 z3 z4 z5 z6 z7 => by rw [frh_19 c z7, hfr c z1 z2 z3 z4 z5 z6], fun k hk => by rw [frh_19 16 (by decide)]; exact hfk k hk⟩
            rw [← pk1.1]
            exact ⟨r_17, dLs_cg (fun a b a0 a1 b0 b1 => pB_eq pk1 a0 a1 b0 b1) hld, by first | (rw [if_neg (by assumption)]; done) | (rw [if_pos (by assumption)]; exact er_9)⟩
          · skip
            refine j_iload 4 dX8_doubted_66 rfl ?_
            refine j_callSi l_X8_211 ⟨Nat.le_of_ble_eq_true rfl, Nat.le_of_ble_eq_true rfl⟩ ⟨rfl, rfl⟩ dX8_doubted_68 (c_J6_bitCount_0f7a4 M_18 r_17 (by first | assumption | omega)) rfl rfl (Nat.le_of_ble_eq_true rfl) (fun r_21 M_22 h_23 => ?_)
            obtain ⟨er_21, nh_23⟩ := h_23
            refine j_eqM nh_23 ?_
            clear nh_23
            refine j_goto (tgt := 76) dX8_doubted_71 (by decide) ?_
            refine j_iret rfl rfl rfl rfl dX8_doubted_76 ?_
            refine ⟨Or.inr (Or.inr ⟨by omega, by rw [← pk1.1]; omega, ?_⟩), fun c z1 z2 z3 z4 z5 z6 z7 => by rw [frh_19 c z7, hfr c z1 z2 z3 z4 z5 z6], fun k hk => by rw [frh_19 16 (by decide)]; exact hfk k hk⟩
            rw [← pk1.1]
            exact ⟨r_17, dLs_cg (fun a b a0 a1 b0 b1 => pB_eq pk1 a0 a1 b0 b1) hld, by first | (rw [if_neg (by assumption)]; done) | (rw [if_pos (by assumption)]; exact er_21)⟩
        · skip
          refine j_bipush dX8_doubted_50 (by decide) ?_
          refine j_iret rfl rfl rfl rfl dX8_doubted_52 ?_
          exact ⟨Or.inr (Or.inl ⟨by omega, by rw [← pk1.1]; omega, rfl⟩), fun c z1 z2 z3 z4 z5 z6 _ => hfr c z1 z2 z3 z4 z5 z6, hfk⟩
      · skip
        refine j_iconst dX8_doubted_27 (by decide) ?_
        refine j_iret rfl rfl rfl rfl dX8_doubted_28 ?_
        exact ⟨Or.inl ⟨by omega, rfl⟩, fun _ _ _ _ _ _ _ _ => rfl, fun _ _ => rfl⟩
abbrev q_X9_doubted (M : jM)  (h d w : Int) : Int → jM → Prop := fun r N => ((¬ (0 ≤ h ∧ h < M 74 8 ∧ 0 ≤ d ∧ d ≤ 359 ∧ 0 ≤ w ∧ w ≤ 1) ∧ r = -1) ∨ ((0 ≤ h ∧ h < M 74 8 ∧ 0 ≤ d ∧ d ≤ 359 ∧ 0 ≤ w ∧ w ≤ 1) ∧ 12 < (sCnt (M 89) (M 90) h d (M 74 27).toNat) ∧ r = -2) ∨ ((0 ≤ h ∧ h < M 74 8 ∧ 0 ≤ d ∧ d ≤ 359 ∧ 0 ≤ w ∧ w ≤ 1) ∧ (sCnt (M 89) (M 90) h d (M 74 27).toNat) ≤ 12 ∧ dAns (fun a b => fClash (M 94) (M 95) (M 96) (M 91) (M 92) (M 93) (sSel (M 89) (M 90) h d (M 74 27).toNat a) (sSel (M 89) (M 90) h d (M 74 27).toNat b)) (sCnt (M 89) (M 90) h d (M 74 27).toNat) w r)) ∧ ∀ c, c ≠ 107 → N c = jup M 74 0 0 c
set_option maxHeartbeats 4000000 in
set_option maxRecDepth 20000 in
theorem c_X9_doubted {X : jX} (M : jM)  (h d w : Int) (h_rhands : 0 ≤ M 74 8 ∧ M 74 8 ≤ 24) (h_rlines : 0 ≤ M 74 27 ∧ M 74 27 ≤ 60) (h_rchecks : ∀ i, 0 ≤ M 94 i ∧ M 94 i ≤ 4) (h_rcerr : ∀ i, -90 ≤ M 96 i ∧ M 96 i ≤ 90) (h_rlwhere : ∀ i, M 91 i = -9 ∨ (0 ≤ M 91 i ∧ M 91 i < 6)) (h_rlin : ∀ i, 0 ≤ M 92 i ∧ M 92 i ≤ 1439) (h_rlout : ∀ i, 0 ≤ M 93 i ∧ M 93 i ≤ 1440) : jC yX9_doubted D_X9_doubted X FJ shJ [jR 74, jI h, jI d, jI w] M (jqI (q_X9_doubted M h d w)) := by
  refine jC_of (by decide) rfl (fun ad => Nat.le_of_ble_eq_true rfl) (by decide) ?_
  show jG D_X9_doubted X FJ shJ 0 0 (jqI (q_X9_doubted M h d w)) 0 [(0, jR 74), (1, jI h), (2, jI d), (3, jI w)] [] M
  refine j_aload_n 0 dX9_doubted_0 rfl rfl ?_
  refine j_iconst dX9_doubted_1 (by decide) ?_
  refine j_puti (k' := 0) f_X9_124 o_74_0 dX9_doubted_2 rfl ?_
  refine j_nmM (fun M_1 eM_1 => ?_)
  refine j_aload_n 0 dX9_doubted_5 rfl rfl ?_
  refine j_iload_n 1 dX9_doubted_6 rfl rfl ?_
  refine j_callVi l_X9_144 ⟨Nat.le_of_ble_eq_true rfl, Nat.le_of_ble_eq_true rfl⟩ ⟨rfl, rfl⟩ dX9_doubted_7 ob_74 (c_X9_isHand M_1 h (by rw [((congrFun (congrFun eM_1 74) 8).trans (jup_ne (by decide)))]; exact h_rhands)) rfl rfl (Nat.le_of_ble_eq_true rfl) (fun r_2 M_3 h_4 => ?_)
  obtain ⟨er_2, nh_4⟩ := h_4
  refine j_eqM nh_4 ?_
  clear nh_4
  simp only [((congrFun (congrFun eM_1 74) 8).trans (jup_ne (by decide)))] at er_2
  refine j_if_eq (tgt := 29) dX9_doubted_10 (by decide) (fun c10_5 => ?_) (fun c10_5 => ?_)
  · skip
    refine j_iconst dX9_doubted_29 (by decide) ?_
    refine j_iret rfl rfl rfl rfl dX9_doubted_30 ?_
    exact ⟨Or.inl ⟨by omega, rfl⟩, fun c _ => by rw [eM_1]⟩
  · skip
    refine j_iload_n 2 dX9_doubted_13 rfl rfl ?_
    refine j_callSi l_X9_166 ⟨Nat.le_of_ble_eq_true rfl, Nat.le_of_ble_eq_true rfl⟩ ⟨rfl, rfl⟩ dX9_doubted_14 (c_X9_isDay M_1 d) rfl rfl (Nat.le_of_ble_eq_true rfl) (fun r_6 M_7 h_8 => ?_)
    obtain ⟨er_6, nh_8⟩ := h_8
    refine j_eqM nh_8 ?_
    clear nh_8
    refine j_if_eq (tgt := 29) dX9_doubted_17 (by decide) (fun c17_9 => ?_) (fun c17_9 => ?_)
    · skip
      refine j_iconst dX9_doubted_29 (by decide) ?_
      refine j_iret rfl rfl rfl rfl dX9_doubted_30 ?_
      exact ⟨Or.inl ⟨by omega, rfl⟩, fun c _ => by rw [eM_1]⟩
    · skip
      refine j_iload_n 3 dX9_doubted_20 rfl rfl ?_
      refine j_iconst dX9_doubted_21 (by decide) ?_
      refine j_iconst dX9_doubted_22 (by decide) ?_
      refine j_callSi l_X9_137 ⟨Nat.le_of_ble_eq_true rfl, Nat.le_of_ble_eq_true rfl⟩ ⟨rfl, rfl⟩ dX9_doubted_23 (c_X9_in M_1 w 0 1) rfl rfl (Nat.le_of_ble_eq_true rfl) (fun r_10 M_11 h_12 => ?_)
      obtain ⟨er_10, nh_12⟩ := h_12
      refine j_eqM nh_12 ?_
      clear nh_12
      refine j_if_ne (tgt := 31) dX9_doubted_26 (by decide) (fun c26_13 => ?_) (fun c26_13 => ?_)
      · skip
        refine j_aload_n 0 dX9_doubted_31 rfl rfl ?_
        refine j_iload_n 1 dX9_doubted_32 rfl rfl ?_
        refine j_iload_n 2 dX9_doubted_33 rfl rfl ?_
        refine j_callVi l_X9_308 ⟨Nat.le_of_ble_eq_true rfl, Nat.le_of_ble_eq_true rfl⟩ ⟨rfl, rfl⟩ dX9_doubted_34 ob_74 (c_X9_gathers M_1 h d (by rw [((congrFun (congrFun eM_1 74) 27).trans (jup_ne (by decide)))]; exact h_rlines)) rfl rfl (Nat.le_of_ble_eq_true rfl) (fun r_14 M_15 h_16 => ?_)
        obtain ⟨en, fn, frh_16⟩ := h_16
        refine j_istore (ls' := [(0, jR 74), (1, jI h), (2, jI d), (3, jI w), (4, jI r_14)]) dX9_doubted_37 (by decide) rfl ?_
        simp only [(congrFun eM_1 89).trans (jup_cell (by decide)), (congrFun eM_1 90).trans (jup_cell (by decide)), (congrFun (congrFun eM_1 74) 27).trans (jup_ne (by decide))] at en fn
        have hq := sCnt_in (M 89) (M 90) h d (M 74 27).toNat
        refine j_iload 4 dX9_doubted_39 rfl ?_
        refine j_bipush dX9_doubted_41 (by decide) ?_
        refine j_icmp_le (tgt := 49) dX9_doubted_43 (by decide) (fun c43_17 => ?_) (fun c43_17 => ?_)
        · skip
          have hp2 := p2k (n := r_14) (by omega)
          refine j_iconst dX9_doubted_49 (by decide) ?_
          refine j_iload 4 dX9_doubted_50 rfl ?_
          refine j_ishl dX9_doubted_52 ?_
          refine j_iconst dX9_doubted_53 (by decide) ?_
          refine j_isub dX9_doubted_54 (by omega) ?_
          refine j_nm (fun v5_18 ev5_18 => ?_)
          refine j_istore (ls' := [(0, jR 74), (1, jI h), (2, jI d), (3, jI w), (4, jI r_14), (5, jI v5_18)]) dX9_doubted_55 (by decide) rfl ?_
          have e5 : v5_18 = (2 : Int) ^ r_14.toNat - 1 := by omega
          refine j_iconst dX9_doubted_57 (by decide) ?_
          refine j_iload 4 dX9_doubted_58 rfl ?_
          refine j_ishl dX9_doubted_60 ?_
          refine j_iconst dX9_doubted_61 (by decide) ?_
          refine j_isub dX9_doubted_62 (by omega) ?_
          refine j_nm (fun v6_19 ev6_19 => ?_)
          refine j_istore (ls' := [(0, jR 74), (1, jI h), (2, jI d), (3, jI w), (4, jI r_14), (5, jI v5_18), (6, jI v6_19)]) dX9_doubted_63 (by decide) rfl ?_
          have lp65_20 : ∀ n65 : Nat, ∀ (v5 v6 : Int), (-1 ≤ v6 ∧ v6 < (2 : Int) ^ r_14.toNat) ∧ (0 ≤ v5 ∧ v5 < (2 : Int) ^ r_14.toNat) ∧ (dLs (fun a b => fClash (M 94) (M 95) (M 96) (M 91) (M 92) (M 93) (sSel (M 89) (M 90) h d (M 74 27).toNat a) (sSel (M 89) (M 90) h d (M 74 27).toNat b)) r_14 v5 (fun s => v6 < s)) → (v6 + 1).toNat < n65 → jG D_X9_doubted X FJ shJ 0 0 (jqI (q_X9_doubted M h d w)) 65 [(0, jR 74), (1, jI h), (2, jI d), (3, jI w), (4, jI r_14), (5, jI v5), (6, jI v6)] ([]) M_15 := by
            intro n65
            induction n65 with
            | zero => intro v5 v6  _ hz; exact absurd hz (Nat.not_lt_zero _)
            | succ n65 ih65 =>
              intro v5 v6  hinv hm
              obtain ⟨h6, h5, hb⟩ := hinv
              refine j_iload 6 dX9_doubted_65 rfl ?_
              refine j_if_lt (tgt := 202) dX9_doubted_67 (by decide) (fun c67_21 => ?_) (fun c67_21 => ?_)
              · skip
                refine j_iload_n 3 dX9_doubted_202 rfl rfl ?_
                refine j_if_ne (tgt := 214) dX9_doubted_203 (by decide) (fun c203_22 => ?_) (fun c203_22 => ?_)
                · skip
                  refine j_iload 5 dX9_doubted_214 rfl ?_
                  refine j_iret rfl rfl rfl rfl dX9_doubted_216 ?_
                  refine ⟨Or.inr (Or.inr ⟨by omega, by omega, ?_⟩), fun c hc => by rw [frh_16 c hc, eM_1]⟩
                  rw [← en]
                  exact ⟨v5, dLs_dn0 hb (by omega), by first | (rw [if_neg (by assumption)]; done) | (rw [if_pos (by assumption)]; exact er_10)⟩
                · skip
                  refine j_iload 5 dX9_doubted_206 rfl ?_
                  refine j_callSi l_X9_315 ⟨Nat.le_of_ble_eq_true rfl, Nat.le_of_ble_eq_true rfl⟩ ⟨rfl, rfl⟩ dX9_doubted_208 (c_X9_ones M_15 v5 (by first | assumption | omega)) rfl rfl (Nat.le_of_ble_eq_true rfl) (fun r_23 M_24 h_25 => ?_)
                  obtain ⟨er_23, nh_25⟩ := h_25
                  refine j_eqM nh_25 ?_
                  clear nh_25
                  refine j_goto (tgt := 216) dX9_doubted_211 (by decide) ?_
                  refine j_iret rfl rfl rfl rfl dX9_doubted_216 ?_
                  refine ⟨Or.inr (Or.inr ⟨by omega, by omega, ?_⟩), fun c hc => by rw [frh_16 c hc, eM_1]⟩
                  rw [← en]
                  exact ⟨v5, dLs_dn0 hb (by omega), by first | (rw [if_neg (by assumption)]; done) | (rw [if_pos (by assumption)]; exact er_23)⟩
              · skip
                refine j_iload 6 dX9_doubted_70 rfl ?_
                refine j_callSi l_X9_315 ⟨Nat.le_of_ble_eq_true rfl, Nat.le_of_ble_eq_true rfl⟩ ⟨rfl, rfl⟩ dX9_doubted_72 (c_X9_ones M_15 v6 (by first | assumption | omega)) rfl rfl (Nat.le_of_ble_eq_true rfl) (fun r_26 M_27 h_28 => ?_)
                obtain ⟨er_26, nh_28⟩ := h_28
                refine j_eqM nh_28 ?_
                clear nh_28
                refine j_iload 5 dX9_doubted_75 rfl ?_
                refine j_callSi l_X9_315 ⟨Nat.le_of_ble_eq_true rfl, Nat.le_of_ble_eq_true rfl⟩ ⟨rfl, rfl⟩ dX9_doubted_77 (c_X9_ones M_15 v5 (by first | assumption | omega)) rfl rfl (Nat.le_of_ble_eq_true rfl) (fun r_29 M_30 h_31 => ?_)
                obtain ⟨er_29, nh_31⟩ := h_31
                refine j_eqM nh_31 ?_
                clear nh_31
                have hJ_32 : ∀ zz : Int, (r_29 < r_26 ∧ zz = 0) ∨ (¬ (r_29 < r_26) ∧ zz = 1) → jG D_X9_doubted X FJ shJ 0 0 (jqI (q_X9_doubted M h d w)) 88 [(0, jR 74), (1, jI h), (2, jI d), (3, jI w), (4, jI r_14), (5, jI v5), (6, jI v6)] (jI zz :: []) M_15 := by
                  intro t_33 et_33
                  refine j_istore (ls' := [(0, jR 74), (1, jI h), (2, jI d), (3, jI w), (4, jI r_14), (5, jI v5), (6, jI v6), (7, jI t_33)]) dX9_doubted_88 (by decide) rfl ?_
                  refine j_iconst dX9_doubted_90 (by decide) ?_
                  refine j_istore (ls' := [(0, jR 74), (1, jI h), (2, jI d), (3, jI w), (4, jI r_14), (5, jI v5), (6, jI v6), (7, jI t_33), (8, jI 0)]) dX9_doubted_91 (by decide) rfl ?_
                  have lp93_34 : ∀ n93 : Nat, ∀ (v7 v8 : Int), (0 ≤ v8 ∧ v8 ≤ r_14) ∧ ((v7 = 1 ∧ zOnes v6 16 ≤ zOnes v5 16 ∧ dV (fun a b => fClash (M 94) (M 95) (M 96) (M 91) (M 92) (M 93) (sSel (M 89) (M 90) h d (M 74 27).toNat a) (sSel (M 89) (M 90) h d (M 74 27).toNat b)) v8 v6) ∨ (v7 = 0 ∧ ¬ (zOnes v6 16 ≤ zOnes v5 16 ∧ dV (fun a b => fClash (M 94) (M 95) (M 96) (M 91) (M 92) (M 93) (sSel (M 89) (M 90) h d (M 74 27).toNat a) (sSel (M 89) (M 90) h d (M 74 27).toNat b)) r_14 v6))) → (r_14 - v8).toNat < n93 → jG D_X9_doubted X FJ shJ 0 0 (jqI (q_X9_doubted M h d w)) 93 [(0, jR 74), (1, jI h), (2, jI d), (3, jI w), (4, jI r_14), (5, jI v5), (6, jI v6), (7, jI v7), (8, jI v8)] ([]) M_15 := by
                    intro n93
                    induction n93 with
                    | zero => intro v7 v8  _ hz; exact absurd hz (Nat.not_lt_zero _)
                    | succ n93 ih93 =>
                      intro v7 v8  hinv hm
                      obtain ⟨x1, x2⟩ := hinv
                      refine j_iload 8 dX9_doubted_93 rfl ?_
                      refine j_iload 4 dX9_doubted_95 rfl ?_
                      refine j_icmp_ge (tgt := 182) dX9_doubted_97 (by decide) (fun c97_35 => ?_) (fun c97_35 => ?_)
                      · skip
                        refine j_iload 7 dX9_doubted_182 rfl ?_
                        have hJ_36 : ∀ zz : Int, (v7 = 0 ∧ zz = v5) ∨ (¬ v7 = 0 ∧ zz = v6) → jG D_X9_doubted X FJ shJ 0 0 (jqI (q_X9_doubted M h d w)) 194 [(0, jR 74), (1, jI h), (2, jI d), (3, jI w), (4, jI r_14), (5, jI v5), (6, jI v6), (7, jI v7), (8, jI v8)] (jI zz :: []) M_15 := by
                          intro t_37 et_37
                          refine j_istore (ls' := [(0, jR 74), (1, jI h), (2, jI d), (3, jI w), (4, jI r_14), (5, jI t_37), (6, jI v6), (7, jI v7), (8, jI v8)]) dX9_doubted_194 (by decide) rfl ?_
                          obtain ⟨v6_38, ev6_38⟩ : ∃ y : Int, y = v6 + (-1) := ⟨_, rfl⟩
                          refine j_iinc (y := v6_38) (ls' := [(0, jR 74), (1, jI h), (2, jI d), (3, jI w), (4, jI r_14), (5, jI t_37), (6, jI v6_38), (7, jI v7), (8, jI v8)]) 6 dX9_doubted_196 rfl ev6_38 (by omega) (by decide) rfl ?_
                          refine j_goto (tgt := 65) dX9_doubted_199 (by decide) ?_
                          refine j_sub (ls' := [(0, jR 74), (1, jI h), (2, jI d), (3, jI w), (4, jI r_14), (5, jI t_37), (6, jI v6_38)]) [0, 1, 2, 3, 4, 5, 6] rfl ?_
                          exact ih65 t_37 v6_38 ⟨by omega, by omega, by rw [ev6_38]; refine dLs_dn ⟨by omega, by omega⟩ hb ?_; rcases x2 with ⟨a1, a2, a3⟩ | ⟨a1, a2⟩; (· left; refine ⟨by omega, a2, ?_⟩; rw [← show v8 = r_14 by omega]; exact a3); (· right; exact ⟨by omega, a2⟩)⟩ (by omega)
                        refine j_if_eq (tgt := 192) dX9_doubted_184 (by decide) (fun c184_39 => ?_) (fun c184_39 => ?_)
                        · skip
                          refine j_iload 5 dX9_doubted_192 rfl ?_
                          exact hJ_36 _ (Or.inl ⟨c184_39, rfl⟩)
                        · skip
                          refine j_iload 6 dX9_doubted_187 rfl ?_
                          refine j_goto (tgt := 194) dX9_doubted_189 (by decide) ?_
                          exact hJ_36 _ (Or.inr (⟨c184_39, rfl⟩))
                      · skip
                        refine j_iload 7 dX9_doubted_100 rfl ?_
                        refine j_if_eq (tgt := 182) dX9_doubted_102 (by decide) (fun c102_40 => ?_) (fun c102_40 => ?_)
                        · skip
                          refine j_iload 7 dX9_doubted_182 rfl ?_
                          have hJ_41 : ∀ zz : Int, (v7 = 0 ∧ zz = v5) ∨ (¬ v7 = 0 ∧ zz = v6) → jG D_X9_doubted X FJ shJ 0 0 (jqI (q_X9_doubted M h d w)) 194 [(0, jR 74), (1, jI h), (2, jI d), (3, jI w), (4, jI r_14), (5, jI v5), (6, jI v6), (7, jI v7), (8, jI v8)] (jI zz :: []) M_15 := by
                            intro t_42 et_42
                            refine j_istore (ls' := [(0, jR 74), (1, jI h), (2, jI d), (3, jI w), (4, jI r_14), (5, jI t_42), (6, jI v6), (7, jI v7), (8, jI v8)]) dX9_doubted_194 (by decide) rfl ?_
                            obtain ⟨v6_43, ev6_43⟩ : ∃ y : Int, y = v6 + (-1) := ⟨_, rfl⟩
                            refine j_iinc (y := v6_43) (ls' := [(0, jR 74), (1, jI h), (2, jI d), (3, jI w), (4, jI r_14), (5, jI t_42), (6, jI v6_43), (7, jI v7), (8, jI v8)]) 6 dX9_doubted_196 rfl ev6_43 (by omega) (by decide) rfl ?_
                            refine j_goto (tgt := 65) dX9_doubted_199 (by decide) ?_
                            refine j_sub (ls' := [(0, jR 74), (1, jI h), (2, jI d), (3, jI w), (4, jI r_14), (5, jI t_42), (6, jI v6_43)]) [0, 1, 2, 3, 4, 5, 6] rfl ?_
                            exact ih65 t_42 v6_43 ⟨by omega, by omega, by rw [ev6_43]; refine dLs_dn ⟨by omega, by omega⟩ hb ?_; rcases x2 with ⟨a1, a2, a3⟩ | ⟨a1, a2⟩; (· left; refine ⟨by omega, a2, ?_⟩; rw [← show v8 = r_14 by omega]; exact a3); (· right; exact ⟨by omega, a2⟩)⟩ (by omega)
                          refine j_if_eq (tgt := 192) dX9_doubted_184 (by decide) (fun c184_44 => ?_) (fun c184_44 => ?_)
                          · skip
                            refine j_iload 5 dX9_doubted_192 rfl ?_
                            exact hJ_41 _ (Or.inl ⟨c184_44, rfl⟩)
                          · skip
                            refine j_iload 6 dX9_doubted_187 rfl ?_
                            refine j_goto (tgt := 194) dX9_doubted_189 (by decide) ?_
                            exact hJ_41 _ (Or.inr (⟨c184_44, rfl⟩))
                        · skip
                          refine j_iconst dX9_doubted_105 (by decide) ?_
                          refine j_istore (ls' := [(0, jR 74), (1, jI h), (2, jI d), (3, jI w), (4, jI r_14), (5, jI v5), (6, jI v6), (7, jI v7), (8, jI v8), (9, jI 0)]) dX9_doubted_106 (by decide) rfl ?_
                          have lp108_45 : ∀ n108 : Nat, ∀ (v7 v9 : Int), (0 ≤ v9 ∧ v9 ≤ v8) ∧ ((v7 = 1 ∧ zOnes v6 16 ≤ zOnes v5 16 ∧ dV (fun a b => fClash (M 94) (M 95) (M 96) (M 91) (M 92) (M 93) (sSel (M 89) (M 90) h d (M 74 27).toNat a) (sSel (M 89) (M 90) h d (M 74 27).toNat b)) v8 v6 ∧ dR (fun a b => fClash (M 94) (M 95) (M 96) (M 91) (M 92) (M 93) (sSel (M 89) (M 90) h d (M 74 27).toNat a) (sSel (M 89) (M 90) h d (M 74 27).toNat b)) v8 v9 v6) ∨ (v7 = 0 ∧ ¬ (zOnes v6 16 ≤ zOnes v5 16 ∧ dV (fun a b => fClash (M 94) (M 95) (M 96) (M 91) (M 92) (M 93) (sSel (M 89) (M 90) h d (M 74 27).toNat a) (sSel (M 89) (M 90) h d (M 74 27).toNat b)) r_14 v6))) → (v8 - v9).toNat < n108 → jG D_X9_doubted X FJ shJ 0 0 (jqI (q_X9_doubted M h d w)) 108 [(0, jR 74), (1, jI h), (2, jI d), (3, jI w), (4, jI r_14), (5, jI v5), (6, jI v6), (7, jI v7), (8, jI v8), (9, jI v9)] ([]) M_15 := by
                            intro n108
                            induction n108 with
                            | zero => intro v7 v9  _ hz; exact absurd hz (Nat.not_lt_zero _)
                            | succ n108 ih108 =>
                              intro v7 v9  hinv hm
                              obtain ⟨y1x, y2x⟩ := hinv
                              refine j_iload 9 dX9_doubted_108 rfl ?_
                              refine j_iload 8 dX9_doubted_110 rfl ?_
                              refine j_icmp_ge (tgt := 176) dX9_doubted_112 (by decide) (fun c112_46 => ?_) (fun c112_46 => ?_)
                              · skip
                                obtain ⟨v8_47, ev8_47⟩ : ∃ y : Int, y = v8 + 1 := ⟨_, rfl⟩
                                refine j_iinc (y := v8_47) (ls' := [(0, jR 74), (1, jI h), (2, jI d), (3, jI w), (4, jI r_14), (5, jI v5), (6, jI v6), (7, jI v7), (8, jI v8_47), (9, jI v9)]) 8 dX9_doubted_176 rfl ev8_47 (by omega) (by decide) rfl ?_
                                refine j_goto (tgt := 93) dX9_doubted_179 (by decide) ?_
                                refine j_sub (ls' := [(0, jR 74), (1, jI h), (2, jI d), (3, jI w), (4, jI r_14), (5, jI v5), (6, jI v6), (7, jI v7), (8, jI v8_47)]) [0, 1, 2, 3, 4, 5, 6, 7, 8] rfl ?_
                                exact ih93 v7 v8_47 ⟨by omega, by rw [ev8_47]; rcases y2x with ⟨a1, a2, a3, a4⟩ | a; (· left; refine ⟨a1, a2, fun a b b0 ba an => ?_⟩; by_cases e : a = v8; (· rw [e]; exact a4 b b0 (by omega)); (· exact a3 a b b0 ba (by omega))); (· right; exact a)⟩ (by omega)
                              · skip
                                refine j_iload 7 dX9_doubted_115 rfl ?_
                                refine j_if_eq (tgt := 176) dX9_doubted_117 (by decide) (fun c117_48 => ?_) (fun c117_48 => ?_)
                                · skip
                                  obtain ⟨v8_49, ev8_49⟩ : ∃ y : Int, y = v8 + 1 := ⟨_, rfl⟩
                                  refine j_iinc (y := v8_49) (ls' := [(0, jR 74), (1, jI h), (2, jI d), (3, jI w), (4, jI r_14), (5, jI v5), (6, jI v6), (7, jI v7), (8, jI v8_49), (9, jI v9)]) 8 dX9_doubted_176 rfl ev8_49 (by omega) (by decide) rfl ?_
                                  refine j_goto (tgt := 93) dX9_doubted_179 (by decide) ?_
                                  refine j_sub (ls' := [(0, jR 74), (1, jI h), (2, jI d), (3, jI w), (4, jI r_14), (5, jI v5), (6, jI v6), (7, jI v7), (8, jI v8_49)]) [0, 1, 2, 3, 4, 5, 6, 7, 8] rfl ?_
                                  exact ih93 v7 v8_49 ⟨by omega, by rw [ev8_49]; rcases y2x with ⟨a1, a2, a3, a4⟩ | a; (· left; refine ⟨a1, a2, fun a b b0 ba an => ?_⟩; by_cases e : a = v8; (· rw [e]; exact a4 b b0 (by omega)); (· exact a3 a b b0 ba (by omega))); (· right; exact a)⟩ (by omega)
                                · skip
                                  refine j_iload 6 dX9_doubted_120 rfl ?_
                                  refine j_iload 8 dX9_doubted_122 rfl ?_
                                  refine j_ishr dX9_doubted_124 ?_
                                  refine j_iconst dX9_doubted_125 (by decide) ?_
                                  refine j_iand dX9_doubted_126 ?_
                                  refine j_iconst dX9_doubted_127 (by decide) ?_
                                  refine j_icmp_eq (tgt := 163) dX9_doubted_128 (by decide) (fun c128_50 => ?_) (fun c128_50 => ?_)
                                  · skip
                                    have hd3 := bit_yes (x := v6) (k := v8) (by omega) (by omega) c128_50
                                    have hd : tb v6 v8 = true ∨ tb v6 v9 = true ∨ (fun a b => fClash (M 94) (M 95) (M 96) (M 91) (M 92) (M 93) (sSel (M 89) (M 90) h d (M 74 27).toNat a) (sSel (M 89) (M 90) h d (M 74 27).toNat b)) v8 v9 = false := Or.inl hd3
                                    refine j_iconst dX9_doubted_163 (by decide) ?_
                                    refine j_goto (tgt := 168) dX9_doubted_164 (by decide) ?_
                                    refine j_istore (ls' := [(0, jR 74), (1, jI h), (2, jI d), (3, jI w), (4, jI r_14), (5, jI v5), (6, jI v6), (7, jI 1), (8, jI v8), (9, jI v9)]) dX9_doubted_168 (by decide) rfl ?_
                                    obtain ⟨v9_51, ev9_51⟩ : ∃ y : Int, y = v9 + 1 := ⟨_, rfl⟩
                                    refine j_iinc (y := v9_51) (ls' := [(0, jR 74), (1, jI h), (2, jI d), (3, jI w), (4, jI r_14), (5, jI v5), (6, jI v6), (7, jI 1), (8, jI v8), (9, jI v9_51)]) 9 dX9_doubted_170 rfl ev9_51 (by omega) (by decide) rfl ?_
                                    refine j_goto (tgt := 108) dX9_doubted_173 (by decide) ?_
                                    exact ih108 1 v9_51 ⟨by omega, by rw [ev9_51]; rcases y2x with ⟨a1, a2, a3, a4⟩ | a; (· first | (left; refine ⟨rfl, a2, a3, fun b b0 b1 => ?_⟩; by_cases e : b = v9; (· rw [e]; exact hd); (· exact a4 b b0 (by omega))) | (right; exact ⟨rfl, fun z => hd (z.2 v8 v9 (by omega) (by omega) (by omega))⟩)); (· omega)⟩ (by omega)
                                  · skip
                                    have hd1 := bit_no (x := v6) (k := v8) (by omega) (by omega) c128_50
                                    refine j_iload 6 dX9_doubted_131 rfl ?_
                                    refine j_iload 9 dX9_doubted_133 rfl ?_
                                    refine j_ishr dX9_doubted_135 ?_
                                    refine j_iconst dX9_doubted_136 (by decide) ?_
                                    refine j_iand dX9_doubted_137 ?_
                                    refine j_iconst dX9_doubted_138 (by decide) ?_
                                    refine j_icmp_eq (tgt := 163) dX9_doubted_139 (by decide) (fun c139_52 => ?_) (fun c139_52 => ?_)
                                    · skip
                                      have hd3 := bit_yes (x := v6) (k := v9) (by omega) (by omega) c139_52
                                      have hd : tb v6 v8 = true ∨ tb v6 v9 = true ∨ (fun a b => fClash (M 94) (M 95) (M 96) (M 91) (M 92) (M 93) (sSel (M 89) (M 90) h d (M 74 27).toNat a) (sSel (M 89) (M 90) h d (M 74 27).toNat b)) v8 v9 = false := Or.inr (Or.inl hd3)
                                      refine j_iconst dX9_doubted_163 (by decide) ?_
                                      refine j_goto (tgt := 168) dX9_doubted_164 (by decide) ?_
                                      refine j_istore (ls' := [(0, jR 74), (1, jI h), (2, jI d), (3, jI w), (4, jI r_14), (5, jI v5), (6, jI v6), (7, jI 1), (8, jI v8), (9, jI v9)]) dX9_doubted_168 (by decide) rfl ?_
                                      obtain ⟨v9_53, ev9_53⟩ : ∃ y : Int, y = v9 + 1 := ⟨_, rfl⟩
                                      refine j_iinc (y := v9_53) (ls' := [(0, jR 74), (1, jI h), (2, jI d), (3, jI w), (4, jI r_14), (5, jI v5), (6, jI v6), (7, jI 1), (8, jI v8), (9, jI v9_53)]) 9 dX9_doubted_170 rfl ev9_53 (by omega) (by decide) rfl ?_
                                      refine j_goto (tgt := 108) dX9_doubted_173 (by decide) ?_
                                      exact ih108 1 v9_53 ⟨by omega, by rw [ev9_53]; rcases y2x with ⟨a1, a2, a3, a4⟩ | a; (· first | (left; refine ⟨rfl, a2, a3, fun b b0 b1 => ?_⟩; by_cases e : b = v9; (· rw [e]; exact hd); (· exact a4 b b0 (by omega))) | (right; exact ⟨rfl, fun z => hd (z.2 v8 v9 (by omega) (by omega) (by omega))⟩)); (· omega)⟩ (by omega)
                                    · skip
                                      have hd2 := bit_no (x := v6) (k := v9) (by omega) (by omega) c139_52
                                      have z1 := fn v8 (by omega) (by omega)
                                      have z2 := fn v9 (by omega) (by omega)
                                      have y1 := sSel_in (M 89) (M 90) h d (M 74 27).toNat v8 (by omega) (by omega)
                                      have y2 := sSel_in (M 89) (M 90) h d (M 74 27).toNat v9 (by omega) (by omega)
                                      refine j_aload_n 0 dX9_doubted_142 rfl rfl ?_
                                      refine j_aload_n 0 dX9_doubted_143 rfl rfl ?_
                                      refine j_getr f_X9_108 r_74_48 dX9_doubted_144 ?_
                                      refine j_iload 8 dX9_doubted_147 rfl ?_
                                      refine j_iald a_107 dX9_doubted_149 (by omega) (by omega) ?_
                                      refine j_aload_n 0 dX9_doubted_150 rfl rfl ?_
                                      refine j_getr f_X9_108 r_74_48 dX9_doubted_151 ?_
                                      refine j_iload 9 dX9_doubted_154 rfl ?_
                                      refine j_iald a_107 dX9_doubted_156 (by omega) (by omega) ?_
                                      refine j_callVi l_X9_311 ⟨Nat.le_of_ble_eq_true rfl, Nat.le_of_ble_eq_true rfl⟩ ⟨rfl, rfl⟩ dX9_doubted_157 ob_74 (c_X9_isClash M_15 ((M_15 107 v8)) ((M_15 107 v9)) (by rw [(Eq.trans (frh_16 94 (by decide)) ((congrFun eM_1 94).trans (jup_cell (by decide))))]; exact h_rchecks) (by rw [(Eq.trans (frh_16 96 (by decide)) ((congrFun eM_1 96).trans (jup_cell (by decide))))]; exact h_rcerr) (by rw [(Eq.trans (frh_16 91 (by decide)) ((congrFun eM_1 91).trans (jup_cell (by decide))))]; exact h_rlwhere) (by rw [(Eq.trans (frh_16 92 (by decide)) ((congrFun eM_1 92).trans (jup_cell (by decide))))]; exact h_rlin) (by rw [(Eq.trans (frh_16 93 (by decide)) ((congrFun eM_1 93).trans (jup_cell (by decide))))]; exact h_rlout) (by first | assumption | omega)) rfl rfl (Nat.le_of_ble_eq_true rfl) (fun r_54 M_55 h_56 => ?_)
                                      obtain ⟨er_54, nh_56⟩ := h_56
                                      refine j_eqM nh_56 ?_
                                      clear nh_56
                                      simp only [(Eq.trans (frh_16 94 (by decide)) ((congrFun eM_1 94).trans (jup_cell (by decide)))), (Eq.trans (frh_16 95 (by decide)) ((congrFun eM_1 95).trans (jup_cell (by decide)))), (Eq.trans (frh_16 96 (by decide)) ((congrFun eM_1 96).trans (jup_cell (by decide)))), (Eq.trans (frh_16 91 (by decide)) ((congrFun eM_1 91).trans (jup_cell (by decide)))), (Eq.trans (frh_16 92 (by decide)) ((congrFun eM_1 92).trans (jup_cell (by decide)))), (Eq.trans (frh_16 93 (by decide)) ((congrFun eM_1 93).trans (jup_cell (by decide))))] at er_54
                                      rw [z1, z2] at er_54
                                      refine j_if_ne (tgt := 167) dX9_doubted_160 (by decide) (fun c160_57 => ?_) (fun c160_57 => ?_)
                                      · skip
                                        have hd : ¬ (tb v6 v8 = true ∨ tb v6 v9 = true ∨ (fun a b => fClash (M 94) (M 95) (M 96) (M 91) (M 92) (M 93) (sSel (M 89) (M 90) h d (M 74 27).toNat a) (sSel (M 89) (M 90) h d (M 74 27).toNat b)) v8 v9 = false) := by rcases er_54 with y | y; (· intro z; rcases z with z | z | z; (· exact hd1 z); (· exact hd2 z); (· exact absurd (y.2.symm.trans z) (by decide))); (· exact absurd y.1 c160_57)
                                        refine j_iconst dX9_doubted_167 (by decide) ?_
                                        refine j_istore (ls' := [(0, jR 74), (1, jI h), (2, jI d), (3, jI w), (4, jI r_14), (5, jI v5), (6, jI v6), (7, jI 0), (8, jI v8), (9, jI v9)]) dX9_doubted_168 (by decide) rfl ?_
                                        obtain ⟨v9_58, ev9_58⟩ : ∃ y : Int, y = v9 + 1 := ⟨_, rfl⟩
                                        refine j_iinc (y := v9_58) (ls' := [(0, jR 74), (1, jI h), (2, jI d), (3, jI w), (4, jI r_14), (5, jI v5), (6, jI v6), (7, jI 0), (8, jI v8), (9, jI v9_58)]) 9 dX9_doubted_170 rfl ev9_58 (by omega) (by decide) rfl ?_
                                        refine j_goto (tgt := 108) dX9_doubted_173 (by decide) ?_
                                        exact ih108 0 v9_58 ⟨by omega, by rw [ev9_58]; rcases y2x with ⟨a1, a2, a3, a4⟩ | a; (· first | (left; refine ⟨rfl, a2, a3, fun b b0 b1 => ?_⟩; by_cases e : b = v9; (· rw [e]; exact hd); (· exact a4 b b0 (by omega))) | (right; exact ⟨rfl, fun z => hd (z.2 v8 v9 (by omega) (by omega) (by omega))⟩)); (· omega)⟩ (by omega)
                                      · skip
                                        have hd : tb v6 v8 = true ∨ tb v6 v9 = true ∨ (fun a b => fClash (M 94) (M 95) (M 96) (M 91) (M 92) (M 93) (sSel (M 89) (M 90) h d (M 74 27).toNat a) (sSel (M 89) (M 90) h d (M 74 27).toNat b)) v8 v9 = false := Or.inr (Or.inr (by rcases er_54 with y | y; (· omega); (· exact Bool.eq_false_iff.2 y.2)))
                                        refine j_iconst dX9_doubted_163 (by decide) ?_
                                        refine j_goto (tgt := 168) dX9_doubted_164 (by decide) ?_
                                        refine j_istore (ls' := [(0, jR 74), (1, jI h), (2, jI d), (3, jI w), (4, jI r_14), (5, jI v5), (6, jI v6), (7, jI 1), (8, jI v8), (9, jI v9)]) dX9_doubted_168 (by decide) rfl ?_
                                        obtain ⟨v9_59, ev9_59⟩ : ∃ y : Int, y = v9 + 1 := ⟨_, rfl⟩
                                        refine j_iinc (y := v9_59) (ls' := [(0, jR 74), (1, jI h), (2, jI d), (3, jI w), (4, jI r_14), (5, jI v5), (6, jI v6), (7, jI 1), (8, jI v8), (9, jI v9_59)]) 9 dX9_doubted_170 rfl ev9_59 (by omega) (by decide) rfl ?_
                                        refine j_goto (tgt := 108) dX9_doubted_173 (by decide) ?_
                                        exact ih108 1 v9_59 ⟨by omega, by rw [ev9_59]; rcases y2x with ⟨a1, a2, a3, a4⟩ | a; (· first | (left; refine ⟨rfl, a2, a3, fun b b0 b1 => ?_⟩; by_cases e : b = v9; (· rw [e]; exact hd); (· exact a4 b b0 (by omega))) | (right; exact ⟨rfl, fun z => hd (z.2 v8 v9 (by omega) (by omega) (by omega))⟩)); (· omega)⟩ (by omega)
                          exact lp108_45 _ v7 0 ⟨by omega, by rcases x2 with ⟨a1, a2, a3⟩ | a; (· left; exact ⟨a1, a2, a3, fun b b0 b1 => by omega⟩); (· exact Or.inr a)⟩ (Nat.lt_succ_self _)
                  exact lp93_34 _ t_33 0 ⟨by omega, by rcases et_33 with ⟨a, b⟩ | ⟨a, b⟩; (· right; exact ⟨b, fun z => by omega⟩); (· left; exact ⟨b, by omega, fun a b b0 ba an => by omega⟩)⟩ (Nat.lt_succ_self _)
                refine j_icmp_gt (tgt := 87) dX9_doubted_80 (by decide) (fun c80_60 => ?_) (fun c80_60 => ?_)
                · skip
                  refine j_iconst dX9_doubted_87 (by decide) ?_
                  exact hJ_32 _ (Or.inl ⟨c80_60, rfl⟩)
                · skip
                  refine j_iconst dX9_doubted_83 (by decide) ?_
                  refine j_goto (tgt := 88) dX9_doubted_84 (by decide) ?_
                  exact hJ_32 _ (Or.inr (⟨c80_60, rfl⟩))
          exact lp65_20 _ v5_18 v6_19 ⟨by omega, by omega, by rw [e5, show v6_19 = (2 : Int) ^ r_14.toNat - 1 by omega]; exact dLs_top hp2.2.1⟩ (Nat.lt_succ_self _)
        · skip
          refine j_bipush dX9_doubted_46 (by decide) ?_
          refine j_iret rfl rfl rfl rfl dX9_doubted_48 ?_
          exact ⟨Or.inr (Or.inl ⟨by omega, by omega, rfl⟩), fun c hc => by rw [frh_16 c hc, eM_1]⟩
      · skip
        refine j_iconst dX9_doubted_29 (by decide) ?_
        refine j_iret rfl rfl rfl rfl dX9_doubted_30 ?_
        exact ⟨Or.inl ⟨by omega, rfl⟩, fun c _ => by rw [eM_1]⟩
