abbrev q_X9_byteAt (M : jM) (b : Int → Int) (k : Int) : Int → jM → Prop := fun r N => r = b k ∧ N = M
set_option maxHeartbeats 4000000 in
set_option maxRecDepth 20000 in
theorem c_X9_byteAt {X : jX} (M : jM) (b : Int → Int) (k : Int) (h_rtyped : 0 ≤ M 74 14 ∧ M 74 14 ≤ 900) (h_rtext : ∀ i, 0 ≤ M 84 i ∧ M 84 i ≤ 255) (hbt : rTx M = b) (h0 : 0 ≤ k) : jC yX9_byteAt D_X9_byteAt X FJ shJ [jR 74, jI k] M (jqI (q_X9_byteAt M b k)) := by
  refine jC_of (by decide) rfl (fun ad => Nat.le_of_ble_eq_true rfl) (by decide) ?_
  show jG D_X9_byteAt X FJ shJ 0 0 (jqI (q_X9_byteAt M b k)) 0 [(0, jR 74), (1, jI k)] [] M
  refine j_iload_n 1 dX9_byteAt_0 rfl rfl ?_
  refine j_aload_n 0 dX9_byteAt_1 rfl rfl ?_
  refine j_geti (k' := 14) f_X9_176 o_74_14 dX9_byteAt_2 rfl ?_
  have hJ_1 : ∀ zz : Int, ((M 74 14) ≤ k ∧ zz = (-1)) ∨ (¬ ((M 74 14) ≤ k) ∧ zz = (M 84 k)) → jG D_X9_byteAt X FJ shJ 0 0 (jqI (q_X9_byteAt M b k)) 18 [(0, jR 74), (1, jI k)] (jI zz :: []) M := by
    intro t_2 et_2
    refine j_iret rfl rfl rfl rfl dX9_byteAt_18 ?_
    first | exact ⟨(by first | (rw [rTx_at hbt h0 (by omega)]; omega) | (rw [rTx_out hbt (by omega)]; omega)), rfl⟩ | (refine ⟨?_, rfl⟩; by_cases hk : k < M 74 14; (· rw [rTx_at hbt h0 hk]; omega); (· rw [rTx_out hbt (by omega)]; omega))
  refine j_icmp_ge (tgt := 17) dX9_byteAt_5 (by decide) (fun c5_3 => ?_) (fun c5_3 => ?_)
  · skip
    refine j_iconst dX9_byteAt_17 (by decide) ?_
    exact hJ_1 _ (Or.inl ⟨c5_3, rfl⟩)
  · skip
    refine j_aload_n 0 dX9_byteAt_8 rfl rfl ?_
    refine j_getr f_X9_38 r_74_13 dX9_byteAt_9 ?_
    refine j_iload_n 1 dX9_byteAt_12 rfl rfl ?_
    refine j_iald a_84 dX9_byteAt_13 (by omega) (by omega) ?_
    have g_4 := h_rtext k
    refine j_goto (tgt := 18) dX9_byteAt_14 (by decide) ?_
    exact hJ_1 _ (Or.inr (⟨c5_3, rfl⟩))
abbrev q_X9_isDigit (M : jM)  (c : Int) : Int → jM → Prop := fun r N => ((r = 1 ∧ (48 ≤ c ∧ c ≤ 57)) ∨ (r = 0 ∧ ¬ (48 ≤ c ∧ c ≤ 57))) ∧ N = M
set_option maxHeartbeats 4000000 in
set_option maxRecDepth 20000 in
theorem c_X9_isDigit {X : jX} (M : jM)  (c : Int)  : jC yX9_isDigit D_X9_isDigit X FJ shJ [jI c] M (jqI (q_X9_isDigit M c)) := by
  refine jC_of (by decide) rfl (fun ad => Nat.le_of_ble_eq_true rfl) (by decide) ?_
  show jG D_X9_isDigit X FJ shJ 0 0 (jqI (q_X9_isDigit M c)) 0 [(0, jI c)] [] M
  refine j_iload_n 0 dX9_isDigit_0 rfl rfl ?_
  refine j_bipush dX9_isDigit_1 (by decide) ?_
  refine j_bipush dX9_isDigit_3 (by decide) ?_
  refine j_callSi l_X9_137 ⟨Nat.le_of_ble_eq_true rfl, Nat.le_of_ble_eq_true rfl⟩ ⟨rfl, rfl⟩ dX9_isDigit_5 (c_X9_in M c 48 57) rfl rfl (Nat.le_of_ble_eq_true rfl) (fun r_1 M_2 h_3 => ?_)
  obtain ⟨er_1, nh_3⟩ := h_3
  refine j_eqM nh_3 ?_
  clear nh_3
  refine j_zret rfl rfl rfl rfl dX9_isDigit_8 (by omega) ?_
  exact ⟨by omega, rfl⟩
abbrev q_X9_add (M : jM)  (a c : Int) : Int → jM → Prop := fun r N => r = (if c = 0 then a else 256 * a + c) ∧ N = M
set_option maxHeartbeats 4000000 in
set_option maxRecDepth 20000 in
theorem c_X9_add {X : jX} (M : jM)  (a c : Int)  : jC yX9_add D_X9_add X FJ shJ [jL a, jI c] M (jqL (q_X9_add M a c)) := by
  refine jC_of (by decide) rfl (fun ad => Nat.le_of_ble_eq_true rfl) (by decide) ?_
  show jG D_X9_add X FJ shJ 0 0 (jqL (q_X9_add M a c)) 0 [(0, jL a), (2, jI c)] [] M
  refine j_iload_n 1 dX9_add_0 rfl rfl ?_
  refine j_if_ne (tgt := 8) dX9_add_1 (by decide) (fun c1_1 => ?_) (fun c1_1 => ?_)
  · skip
    refine j_ldc2_w (n := 256) dX9_add_8 c_X9_128 ?_
    refine j_lload_n 0 dX9_add_11 rfl rfl ?_
    refine j_lmul dX9_add_12 ?_
    refine j_iload_n 1 dX9_add_13 rfl rfl ?_
    refine j_i2l dX9_add_14 ?_
    refine j_ladd dX9_add_15 ?_
    refine j_lret rfl rfl rfl rfl dX9_add_16 ?_
    exact ⟨by split <;> omega, rfl⟩
  · skip
    refine j_lload_n 0 dX9_add_4 rfl rfl ?_
    refine j_goto (tgt := 16) dX9_add_5 (by decide) ?_
    refine j_lret rfl rfl rfl rfl dX9_add_16 ?_
    exact ⟨by split <;> omega, rfl⟩
abbrev q_X9_advances (M : jM) (b : Int → Int)  : jM → Prop := fun N => adP b M N
set_option maxHeartbeats 4000000 in
set_option maxRecDepth 20000 in
theorem c_X9_advances {X : jX} (M : jM) (b : Int → Int)  (h_rtyped : 0 ≤ M 74 14 ∧ M 74 14 ≤ 900) (h_rtext : ∀ i, 0 ≤ M 84 i ∧ M 84 i ≤ 255) (h_rwords : ∀ k, 0 ≤ k → k < 16 → M 75 k = wVal k) (hbt : rTx M = b) (hpl : 0 ≤ M 74 15 ∧ M 74 15 ≤ M 74 14) : jC yX9_advances D_X9_advances X FJ shJ [jR 74] M (jqV (q_X9_advances M b)) := by
  refine jC_of (by decide) rfl (fun ad => Nat.le_of_ble_eq_true rfl) (by decide) ?_
  show jG D_X9_advances X FJ shJ 0 0 (jqV (q_X9_advances M b)) 0 [(0, jR 74)] [] M
  have lp0_1 : ∀ n0 : Nat, ∀ N0 : jM, (M 74 15 ≤ N0 74 15 ∧ N0 74 15 ≤ M 74 14) ∧ (∀ j, M 74 15 ≤ j → j < N0 74 15 → b j = 32 ∨ b j = 10) ∧ (∀ c, c ≠ 74 → N0 c = M c) ∧ (∀ k, k ≠ 15 → N0 74 k = M 74 k) → (M 74 14 - N0 74 15).toNat < n0 → jG D_X9_advances X FJ shJ 0 0 (jqV (q_X9_advances M b)) 0 [(0, jR 74)] ([]) N0 := by
    intro n0
    induction n0 with
    | zero => intro  N0 _ hz; exact absurd hz (Nat.not_lt_zero _)
    | succ n0 ih0 =>
      intro  N0 hinv hm
      obtain ⟨h1, h2, hk, hf⟩ := hinv
      refine j_aload_n 0 dX9_advances_0 rfl rfl ?_
      refine j_aload_n 0 dX9_advances_1 rfl rfl ?_
      refine j_geti (k' := 15) f_X9_181 o_74_15 dX9_advances_2 rfl ?_
      refine j_callVi l_X9_184 ⟨Nat.le_of_ble_eq_true rfl, Nat.le_of_ble_eq_true rfl⟩ ⟨rfl, rfl⟩ dX9_advances_5 ob_74 (c_X9_byteAt N0 b ((N0 74 15)) (by rw [(hf 14 (by decide))]; exact h_rtyped) (by rw [(hk 84 (by decide))]; exact h_rtext) (by (try rw [eN0, rTx_jup (by decide)]); rw [← hbt]; exact rTx_cg (hf 14 (by decide)) (hk 84 (by decide))) (by omega)) rfl rfl (Nat.le_of_ble_eq_true rfl) (fun r_2 M_3 h_4 => ?_)
      obtain ⟨er_2, nh_4⟩ := h_4
      refine j_eqM nh_4 ?_
      clear nh_4
      refine j_bipush dX9_advances_8 (by decide) ?_
      refine j_icmp_eq (tgt := 26) dX9_advances_10 (by decide) (fun c10_5 => ?_) (fun c10_5 => ?_)
      · skip
        have hlt : N0 74 15 < M 74 14 := by rcases Int.lt_or_le (N0 74 15) (M 74 14) with y | y; (· exact y); (· have := rTx_out hbt y; omega)
        refine j_aload_n 0 dX9_advances_26 rfl rfl ?_
        refine j_dup dX9_advances_27 rfl ?_
        refine j_geti (k' := 15) f_X9_181 o_74_15 dX9_advances_28 rfl ?_
        refine j_iconst dX9_advances_31 (by decide) ?_
        refine j_iadd dX9_advances_32 (by omega) ?_
        refine j_puti (k' := 15) f_X9_181 o_74_15 dX9_advances_33 rfl ?_
        refine j_nmM (fun M_6 eM_6 => ?_)
        refine j_goto (tgt := 0) dX9_advances_36 (by decide) ?_
        exact ih0 M_6 ⟨by rw [eM_6, jup_self]; omega, by intro j a c; rw [eM_6, jup_self] at c; by_cases hj : j = N0 74 15; (· rw [hj]; omega); (· exact h2 j a (by omega)), by intro c z; rw [eM_6]; (repeat rw [jup_cell z]); exact hk c z, by intro k z15; rw [eM_6]; (repeat rw [jup_ne (by omega)]); exact hf k z15⟩ (by rw [eM_6, jup_self]; omega)
      · skip
        refine j_aload_n 0 dX9_advances_13 rfl rfl ?_
        refine j_aload_n 0 dX9_advances_14 rfl rfl ?_
        refine j_geti (k' := 15) f_X9_181 o_74_15 dX9_advances_15 rfl ?_
        refine j_callVi l_X9_184 ⟨Nat.le_of_ble_eq_true rfl, Nat.le_of_ble_eq_true rfl⟩ ⟨rfl, rfl⟩ dX9_advances_18 ob_74 (c_X9_byteAt N0 b ((N0 74 15)) (by rw [(hf 14 (by decide))]; exact h_rtyped) (by rw [(hk 84 (by decide))]; exact h_rtext) (by (try rw [eN0, rTx_jup (by decide)]); rw [← hbt]; exact rTx_cg (hf 14 (by decide)) (hk 84 (by decide))) (by omega)) rfl rfl (Nat.le_of_ble_eq_true rfl) (fun r_7 M_8 h_9 => ?_)
        obtain ⟨er_7, nh_9⟩ := h_9
        refine j_eqM nh_9 ?_
        clear nh_9
        refine j_bipush dX9_advances_21 (by decide) ?_
        refine j_icmp_ne (tgt := 39) dX9_advances_23 (by decide) (fun c23_10 => ?_) (fun c23_10 => ?_)
        · skip
          have hsk : lSk b (M 74 15) = N0 74 15 := lSk_of (by omega) (by omega) h2 (by omega)
          refine j_aload_n 0 dX9_advances_39 rfl rfl ?_
          refine j_aload_n 0 dX9_advances_40 rfl rfl ?_
          refine j_geti (k' := 15) f_X9_181 o_74_15 dX9_advances_41 rfl ?_
          refine j_puti (k' := 17) f_X9_188 o_74_17 dX9_advances_44 rfl ?_
          refine j_nmM (fun M_11 eM_11 => ?_)
          refine j_aload_n 0 dX9_advances_47 rfl rfl ?_
          refine j_aload_n 0 dX9_advances_48 rfl rfl ?_
          refine j_geti (k' := 15) f_X9_181 o_74_15 dX9_advances_49 rfl ?_
          refine j_eq ((congrFun (congrFun eM_11 74) 15).trans (jup_ne (by decide))) ?_
          refine j_callVi l_X9_184 ⟨Nat.le_of_ble_eq_true rfl, Nat.le_of_ble_eq_true rfl⟩ ⟨rfl, rfl⟩ dX9_advances_52 ob_74 (c_X9_byteAt M_11 b ((N0 74 15)) (by rw [(Eq.trans ((congrFun (congrFun eM_11 74) 14).trans (jup_ne (by decide))) (hf 14 (by decide)))]; exact h_rtyped) (by rw [(Eq.trans ((congrFun eM_11 84).trans (jup_cell (by decide))) (hk 84 (by decide)))]; exact h_rtext) (by (try rw [eM_11, rTx_jup (by decide)]); rw [← hbt]; exact rTx_cg (hf 14 (by decide)) (hk 84 (by decide))) (by omega)) rfl rfl (Nat.le_of_ble_eq_true rfl) (fun r_12 M_13 h_14 => ?_)
          obtain ⟨er_12, nh_14⟩ := h_14
          refine j_eqM nh_14 ?_
          clear nh_14
          have hc0 : r_12 = b (N0 74 15) := er_12
          refine j_istore_n (ls' := [(0, jR 74), (1, jI r_12)]) dX9_advances_55 rfl (by decide) rfl ?_
          refine j_iload_n 1 dX9_advances_56 rfl rfl ?_
          refine j_if_ge (tgt := 68) dX9_advances_57 (by decide) (fun c57_15 => ?_) (fun c57_15 => ?_)
          · skip
            refine j_iload_n 1 dX9_advances_68 rfl rfl ?_
            refine j_bipush dX9_advances_69 (by decide) ?_
            refine j_bipush dX9_advances_71 (by decide) ?_
            refine j_callSi l_X9_137 ⟨Nat.le_of_ble_eq_true rfl, Nat.le_of_ble_eq_true rfl⟩ ⟨rfl, rfl⟩ dX9_advances_73 (c_X9_in M_11 r_12 97 122) rfl rfl (Nat.le_of_ble_eq_true rfl) (fun r_16 M_17 h_18 => ?_)
            obtain ⟨er_16, nh_18⟩ := h_18
            refine j_eqM nh_18 ?_
            clear nh_18
            refine j_if_eq (tgt := 196) dX9_advances_76 (by decide) (fun c76_19 => ?_) (fun c76_19 => ?_)
            · skip
              refine j_iload_n 1 dX9_advances_196 rfl rfl ?_
              refine j_callSi l_X9_197 ⟨Nat.le_of_ble_eq_true rfl, Nat.le_of_ble_eq_true rfl⟩ ⟨rfl, rfl⟩ dX9_advances_197 (c_X9_isDigit M_11 r_12) rfl rfl (Nat.le_of_ble_eq_true rfl) (fun r_20 M_21 h_22 => ?_)
              obtain ⟨er_20, nh_22⟩ := h_22
              refine j_eqM nh_22 ?_
              clear nh_22
              refine j_if_eq (tgt := 307) dX9_advances_200 (by decide) (fun c200_23 => ?_) (fun c200_23 => ?_)
              · skip
                refine j_aload_n 0 dX9_advances_307 rfl rfl ?_
                refine j_iload_n 1 dX9_advances_308 rfl rfl ?_
                refine j_puti (k' := 18) f_X9_194 o_74_18 dX9_advances_309 rfl ?_
                refine j_nmM (fun M_24 eM_24 => ?_)
                refine j_aload_n 0 dX9_advances_312 rfl rfl ?_
                refine j_dup dX9_advances_313 rfl ?_
                refine j_geti (k' := 15) f_X9_181 o_74_15 dX9_advances_314 rfl ?_
                refine j_eq (Eq.trans ((congrFun (congrFun eM_24 74) 15).trans (jup_ne (by decide))) ((congrFun (congrFun eM_11 74) 15).trans (jup_ne (by decide)))) ?_
                refine j_iconst dX9_advances_317 (by decide) ?_
                refine j_iadd dX9_advances_318 (by omega) ?_
                refine j_puti (k' := 15) f_X9_181 o_74_15 dX9_advances_319 rfl ?_
                refine j_nmM (fun M_25 eM_25 => ?_)
                refine j_iload_n 1 dX9_advances_322 rfl rfl ?_
                refine j_bipush dX9_advances_323 (by decide) ?_
                have hJ_26 : ∀ zz : Int, (r_12 = 58 ∧ zz = 1) ∨ (¬ r_12 = 58 ∧ r_12 = 59 ∧ zz = 1) ∨ (¬ r_12 = 58 ∧ ¬ r_12 = 59 ∧ r_12 = 40 ∧ zz = 1) ∨ (¬ r_12 = 58 ∧ ¬ r_12 = 59 ∧ ¬ r_12 = 40 ∧ r_12 = 41 ∧ zz = 1) ∨ (¬ r_12 = 58 ∧ ¬ r_12 = 59 ∧ ¬ r_12 = 40 ∧ ¬ r_12 = 41 ∧ r_12 = 38 ∧ zz = 1) ∨ (¬ r_12 = 58 ∧ ¬ r_12 = 59 ∧ ¬ r_12 = 40 ∧ ¬ r_12 = 41 ∧ ¬ r_12 = 38 ∧ r_12 = 124 ∧ zz = 1) ∨ (¬ r_12 = 58 ∧ ¬ r_12 = 59 ∧ ¬ r_12 = 40 ∧ ¬ r_12 = 41 ∧ ¬ r_12 = 38 ∧ ¬ r_12 = 124 ∧ r_12 = 33 ∧ zz = 1) ∨ (¬ r_12 = 58 ∧ ¬ r_12 = 59 ∧ ¬ r_12 = 40 ∧ ¬ r_12 = 41 ∧ ¬ r_12 = 38 ∧ ¬ r_12 = 124 ∧ ¬ r_12 = 33 ∧ r_12 = 60 ∧ zz = 1) ∨ (¬ r_12 = 58 ∧ ¬ r_12 = 59 ∧ ¬ r_12 = 40 ∧ ¬ r_12 = 41 ∧ ¬ r_12 = 38 ∧ ¬ r_12 = 124 ∧ ¬ r_12 = 33 ∧ ¬ r_12 = 60 ∧ r_12 = 62 ∧ zz = 1) ∨ (¬ r_12 = 58 ∧ ¬ r_12 = 59 ∧ ¬ r_12 = 40 ∧ ¬ r_12 = 41 ∧ ¬ r_12 = 38 ∧ ¬ r_12 = 124 ∧ ¬ r_12 = 33 ∧ ¬ r_12 = 60 ∧ ¬ r_12 = 62 ∧ r_12 = 61 ∧ zz = 1) ∨ (¬ r_12 = 58 ∧ ¬ r_12 = 59 ∧ ¬ r_12 = 40 ∧ ¬ r_12 = 41 ∧ ¬ r_12 = 38 ∧ ¬ r_12 = 124 ∧ ¬ r_12 = 33 ∧ ¬ r_12 = 60 ∧ ¬ r_12 = 62 ∧ ¬ r_12 = 61 ∧ r_12 = 44 ∧ zz = 1) ∨ (¬ r_12 = 58 ∧ ¬ r_12 = 59 ∧ ¬ r_12 = 40 ∧ ¬ r_12 = 41 ∧ ¬ r_12 = 38 ∧ ¬ r_12 = 124 ∧ ¬ r_12 = 33 ∧ ¬ r_12 = 60 ∧ ¬ r_12 = 62 ∧ ¬ r_12 = 61 ∧ ¬ r_12 = 44 ∧ ¬ r_12 = 45 ∧ zz = 0) ∨ (¬ r_12 = 58 ∧ ¬ r_12 = 59 ∧ ¬ r_12 = 40 ∧ ¬ r_12 = 41 ∧ ¬ r_12 = 38 ∧ ¬ r_12 = 124 ∧ ¬ r_12 = 33 ∧ ¬ r_12 = 60 ∧ ¬ r_12 = 62 ∧ ¬ r_12 = 61 ∧ ¬ r_12 = 44 ∧ r_12 = 45 ∧ zz = 1) → jG D_X9_advances X FJ shJ 0 0 (jqV (q_X9_advances M b)) 399 [(0, jR 74), (1, jI r_12)] (jI zz :: []) M_25 := by
                  intro t_27 et_27
                  refine j_istore_n (ls' := [(0, jR 74), (1, jI r_12), (2, jI t_27)]) dX9_advances_399 rfl (by decide) rfl ?_
                  refine j_aload_n 0 dX9_advances_400 rfl rfl ?_
                  refine j_iload_n 2 dX9_advances_401 rfl rfl ?_
                  have hJ_28 : ∀ zz : Int, (t_27 = 0 ∧ zz = 4) ∨ (¬ t_27 = 0 ∧ zz = 3) → jG D_X9_advances X FJ shJ 0 0 (jqV (q_X9_advances M b)) 410 [(0, jR 74), (1, jI r_12), (2, jI t_27)] (jI zz :: jR 74 :: []) M_25 := by
                    intro t_29 et_29
                    refine j_puti (k' := 16) f_X9_191 o_74_16 dX9_advances_410 rfl ?_
                    refine j_nmM (fun M_30 eM_30 => ?_)
                    refine j_vret rfl rfl rfl rfl dX9_advances_413 ?_
                    first | exact adP_of (q := N0 74 15) (tk := 0) (nx := N0 74 15) (by first | (rw [eM_30, eM_25, eM_24, eM_11]; simp [jup]; done) | (rw [eM_30, eM_25, eM_24, eM_11]; done)) (by first | (rw [eM_30, eM_25, eM_24, eM_11]; simp [jup]; done) | (rw [eM_30, eM_25, eM_24, eM_11]; done)) rfl (by first | (rw [eM_30, eM_25, eM_24, eM_11]; simp [jup]; done) | (rw [eM_30, eM_25, eM_24, eM_11]; done)) hsk (by omega) (rTkv_neg (q := N0 74 15) (by omega)) (fun c z => by rw [eM_30, eM_25, eM_24, eM_11]; (repeat rw [jup_cell z]); exact hk c z) (fun k z15 z16 z17 z18 => by rw [eM_30, eM_25, eM_24, eM_11]; (repeat rw [jup_ne (by omega)]); exact hf k z15) | exact adP_of (q := N0 74 15) hp3 rfl rfl h15 hsk (by omega) (rTkv_word (by omega) (by omega) hr hstop (wdI_end (n := v5) (by rw [show N0 74 15 + v4 - N0 74 15 = v4 by omega]; exact hd) (by omega) (fun z => by rw [hv]; congr 1; omega) (by omega))) hk3 hf3 | exact adP_of (q := N0 74 15) (by rw [eM_30, eM_25, eM_24, eM_11, jup_ne (by decide)]; exact hp) (by rw [eM_30, eM_25, eM_24, eM_11, jup_self]) (by rw [eM_30, eM_25, eM_24, eM_11, jup_ne (by decide)]) (by rw [eM_30, eM_25, eM_24, eM_11, jup_ne (by decide)]) hsk (by omega) (rTkv_num hn.2.1 (by omega) (by omega) hr hstop hv (by omega)) (fun c z => by rw [eM_30, eM_25, eM_24, eM_11]; (repeat rw [jup_cell z]); exact hk2 c z) (fun k z15 z16 z17 z18 => by rw [eM_30, eM_25, eM_24, eM_11]; (repeat rw [jup_ne (by omega)]); exact hf2 k z15 z17 z18) | exact adP_of (q := N0 74 15) (v := b (N0 74 15)) (nx := N0 74 15 + 1) (by rw [eM_30, eM_25, eM_24, eM_11]; simp [jup]) (by rw [eM_30, eM_25, eM_24, eM_11, jup_self]) (by rw [eM_30, eM_25, eM_24, eM_11]; simp [jup]; omega) (by rw [eM_30, eM_25, eM_24, eM_11]; simp [jup]) hsk (by omega) (rTkv_oth (by omega) (by omega) (by omega) (by omega)) (fun c z => by rw [eM_30, eM_25, eM_24, eM_11]; (repeat rw [jup_cell z]); exact hk c z) (fun k z15 z16 z17 z18 => by rw [eM_30, eM_25, eM_24, eM_11]; (repeat rw [jup_ne (by omega)]); exact hf k z15)
                  refine j_if_eq (tgt := 409) dX9_advances_402 (by decide) (fun c402_31 => ?_) (fun c402_31 => ?_)
                  · skip
                    refine j_iconst dX9_advances_409 (by decide) ?_
                    exact hJ_28 _ (Or.inl ⟨c402_31, rfl⟩)
                  · skip
                    refine j_iconst dX9_advances_405 (by decide) ?_
                    refine j_goto (tgt := 410) dX9_advances_406 (by decide) ?_
                    exact hJ_28 _ (Or.inr (⟨c402_31, rfl⟩))
                refine j_icmp_eq (tgt := 394) dX9_advances_325 (by decide) (fun c325_32 => ?_) (fun c325_32 => ?_)
                · skip
                  refine j_iconst dX9_advances_394 (by decide) ?_
                  refine j_goto (tgt := 399) dX9_advances_395 (by decide) ?_
                  exact hJ_26 _ (Or.inl ⟨c325_32, rfl⟩)
                · skip
                  refine j_iload_n 1 dX9_advances_328 rfl rfl ?_
                  refine j_bipush dX9_advances_329 (by decide) ?_
                  refine j_icmp_eq (tgt := 394) dX9_advances_331 (by decide) (fun c331_33 => ?_) (fun c331_33 => ?_)
                  · skip
                    refine j_iconst dX9_advances_394 (by decide) ?_
                    refine j_goto (tgt := 399) dX9_advances_395 (by decide) ?_
                    exact hJ_26 _ (Or.inr (Or.inl ⟨c325_32, c331_33, rfl⟩))
                  · skip
                    refine j_iload_n 1 dX9_advances_334 rfl rfl ?_
                    refine j_bipush dX9_advances_335 (by decide) ?_
                    refine j_icmp_eq (tgt := 394) dX9_advances_337 (by decide) (fun c337_34 => ?_) (fun c337_34 => ?_)
                    · skip
                      refine j_iconst dX9_advances_394 (by decide) ?_
                      refine j_goto (tgt := 399) dX9_advances_395 (by decide) ?_
                      exact hJ_26 _ (Or.inr (Or.inr (Or.inl ⟨c325_32, c331_33, c337_34, rfl⟩)))
                    · skip
                      refine j_iload_n 1 dX9_advances_340 rfl rfl ?_
                      refine j_bipush dX9_advances_341 (by decide) ?_
                      refine j_icmp_eq (tgt := 394) dX9_advances_343 (by decide) (fun c343_35 => ?_) (fun c343_35 => ?_)
                      · skip
                        refine j_iconst dX9_advances_394 (by decide) ?_
                        refine j_goto (tgt := 399) dX9_advances_395 (by decide) ?_
                        exact hJ_26 _ (Or.inr (Or.inr (Or.inr (Or.inl ⟨c325_32, c331_33, c337_34, c343_35, rfl⟩))))
                      · skip
                        refine j_iload_n 1 dX9_advances_346 rfl rfl ?_
                        refine j_bipush dX9_advances_347 (by decide) ?_
                        refine j_icmp_eq (tgt := 394) dX9_advances_349 (by decide) (fun c349_36 => ?_) (fun c349_36 => ?_)
                        · skip
                          refine j_iconst dX9_advances_394 (by decide) ?_
                          refine j_goto (tgt := 399) dX9_advances_395 (by decide) ?_
                          exact hJ_26 _ (Or.inr (Or.inr (Or.inr (Or.inr (Or.inl ⟨c325_32, c331_33, c337_34, c343_35, c349_36, rfl⟩)))))
                        · skip
                          refine j_iload_n 1 dX9_advances_352 rfl rfl ?_
                          refine j_bipush dX9_advances_353 (by decide) ?_
                          refine j_icmp_eq (tgt := 394) dX9_advances_355 (by decide) (fun c355_37 => ?_) (fun c355_37 => ?_)
                          · skip
                            refine j_iconst dX9_advances_394 (by decide) ?_
                            refine j_goto (tgt := 399) dX9_advances_395 (by decide) ?_
                            exact hJ_26 _ (Or.inr (Or.inr (Or.inr (Or.inr (Or.inr (Or.inl ⟨c325_32, c331_33, c337_34, c343_35, c349_36, c355_37, rfl⟩))))))
                          · skip
                            refine j_iload_n 1 dX9_advances_358 rfl rfl ?_
                            refine j_bipush dX9_advances_359 (by decide) ?_
                            refine j_icmp_eq (tgt := 394) dX9_advances_361 (by decide) (fun c361_38 => ?_) (fun c361_38 => ?_)
                            · skip
                              refine j_iconst dX9_advances_394 (by decide) ?_
                              refine j_goto (tgt := 399) dX9_advances_395 (by decide) ?_
                              exact hJ_26 _ (Or.inr (Or.inr (Or.inr (Or.inr (Or.inr (Or.inr (Or.inl ⟨c325_32, c331_33, c337_34, c343_35, c349_36, c355_37, c361_38, rfl⟩)))))))
                            · skip
                              refine j_iload_n 1 dX9_advances_364 rfl rfl ?_
                              refine j_bipush dX9_advances_365 (by decide) ?_
                              refine j_icmp_eq (tgt := 394) dX9_advances_367 (by decide) (fun c367_39 => ?_) (fun c367_39 => ?_)
                              · skip
                                refine j_iconst dX9_advances_394 (by decide) ?_
                                refine j_goto (tgt := 399) dX9_advances_395 (by decide) ?_
                                exact hJ_26 _ (Or.inr (Or.inr (Or.inr (Or.inr (Or.inr (Or.inr (Or.inr (Or.inl ⟨c325_32, c331_33, c337_34, c343_35, c349_36, c355_37, c361_38, c367_39, rfl⟩))))))))
                              · skip
                                refine j_iload_n 1 dX9_advances_370 rfl rfl ?_
                                refine j_bipush dX9_advances_371 (by decide) ?_
                                refine j_icmp_eq (tgt := 394) dX9_advances_373 (by decide) (fun c373_40 => ?_) (fun c373_40 => ?_)
                                · skip
                                  refine j_iconst dX9_advances_394 (by decide) ?_
                                  refine j_goto (tgt := 399) dX9_advances_395 (by decide) ?_
                                  exact hJ_26 _ (Or.inr (Or.inr (Or.inr (Or.inr (Or.inr (Or.inr (Or.inr (Or.inr (Or.inl ⟨c325_32, c331_33, c337_34, c343_35, c349_36, c355_37, c361_38, c367_39, c373_40, rfl⟩)))))))))
                                · skip
                                  refine j_iload_n 1 dX9_advances_376 rfl rfl ?_
                                  refine j_bipush dX9_advances_377 (by decide) ?_
                                  refine j_icmp_eq (tgt := 394) dX9_advances_379 (by decide) (fun c379_41 => ?_) (fun c379_41 => ?_)
                                  · skip
                                    refine j_iconst dX9_advances_394 (by decide) ?_
                                    refine j_goto (tgt := 399) dX9_advances_395 (by decide) ?_
                                    exact hJ_26 _ (Or.inr (Or.inr (Or.inr (Or.inr (Or.inr (Or.inr (Or.inr (Or.inr (Or.inr (Or.inl ⟨c325_32, c331_33, c337_34, c343_35, c349_36, c355_37, c361_38, c367_39, c373_40, c379_41, rfl⟩))))))))))
                                  · skip
                                    refine j_iload_n 1 dX9_advances_382 rfl rfl ?_
                                    refine j_bipush dX9_advances_383 (by decide) ?_
                                    refine j_icmp_eq (tgt := 394) dX9_advances_385 (by decide) (fun c385_42 => ?_) (fun c385_42 => ?_)
                                    · skip
                                      refine j_iconst dX9_advances_394 (by decide) ?_
                                      refine j_goto (tgt := 399) dX9_advances_395 (by decide) ?_
                                      exact hJ_26 _ (Or.inr (Or.inr (Or.inr (Or.inr (Or.inr (Or.inr (Or.inr (Or.inr (Or.inr (Or.inr (Or.inl ⟨c325_32, c331_33, c337_34, c343_35, c349_36, c355_37, c361_38, c367_39, c373_40, c379_41, c385_42, rfl⟩)))))))))))
                                    · skip
                                      refine j_iload_n 1 dX9_advances_388 rfl rfl ?_
                                      refine j_bipush dX9_advances_389 (by decide) ?_
                                      refine j_icmp_ne (tgt := 398) dX9_advances_391 (by decide) (fun c391_43 => ?_) (fun c391_43 => ?_)
                                      · skip
                                        refine j_iconst dX9_advances_398 (by decide) ?_
                                        exact hJ_26 _ (Or.inr (Or.inr (Or.inr (Or.inr (Or.inr (Or.inr (Or.inr (Or.inr (Or.inr (Or.inr (Or.inr (Or.inl ⟨c325_32, c331_33, c337_34, c343_35, c349_36, c355_37, c361_38, c367_39, c373_40, c379_41, c385_42, c391_43, rfl⟩))))))))))))
                                      · skip
                                        refine j_iconst dX9_advances_394 (by decide) ?_
                                        refine j_goto (tgt := 399) dX9_advances_395 (by decide) ?_
                                        exact hJ_26 _ (Or.inr (Or.inr (Or.inr (Or.inr (Or.inr (Or.inr (Or.inr (Or.inr (Or.inr (Or.inr (Or.inr (Or.inr (⟨c325_32, c331_33, c337_34, c343_35, c349_36, c355_37, c361_38, c367_39, c373_40, c379_41, c385_42, c391_43, rfl⟩)))))))))))))
              · skip
                refine j_aload_n 0 dX9_advances_203 rfl rfl ?_
                refine j_iconst dX9_advances_204 (by decide) ?_
                refine j_puti (k' := 18) f_X9_194 o_74_18 dX9_advances_205 rfl ?_
                refine j_nmM (fun M_44 eM_44 => ?_)
                refine j_iconst dX9_advances_208 (by decide) ?_
                refine j_istore_n (ls' := [(0, jR 74), (1, jI r_12), (2, jI 0)]) dX9_advances_209 rfl (by decide) rfl ?_
                have lp210_45 : ∀ n210 : Nat, ∀ (v2 : Int), ∀ N210 : jM, (N210 74 17 = N0 74 15) ∧ (0 ≤ v2 ∧ N210 74 15 = N0 74 15 + v2 ∧ N0 74 15 + v2 ≤ M 74 14) ∧ (∀ j, N0 74 15 ≤ j → j < N0 74 15 + v2 → 48 ≤ b j ∧ b j ≤ 57) ∧ (N210 74 18 = if v2 ≤ 4 then nvB b (N0 74 15) v2.toNat else 10000) ∧ (v2 = 0 → 48 ≤ b (N0 74 15) ∧ b (N0 74 15) ≤ 57) ∧ (∀ c, c ≠ 74 → N210 c = M c) ∧ (∀ k, k ≠ 15 → k ≠ 17 → k ≠ 18 → N210 74 k = M 74 k) → (M 74 14 - N210 74 15).toNat < n210 → jG D_X9_advances X FJ shJ 0 0 (jqV (q_X9_advances M b)) 210 [(0, jR 74), (1, jI r_12), (2, jI v2)] ([]) N210 := by
                  intro n210
                  induction n210 with
                  | zero => intro v2 N210 _ hz; exact absurd hz (Nat.not_lt_zero _)
                  | succ n210 ih210 =>
                    intro v2 N210 hinv hm
                    obtain ⟨hp, hn, hr, hv, h41, hk2, hf2⟩ := hinv
                    refine j_aload_n 0 dX9_advances_210 rfl rfl ?_
                    refine j_aload_n 0 dX9_advances_211 rfl rfl ?_
                    refine j_geti (k' := 15) f_X9_181 o_74_15 dX9_advances_212 rfl ?_
                    refine j_callVi l_X9_184 ⟨Nat.le_of_ble_eq_true rfl, Nat.le_of_ble_eq_true rfl⟩ ⟨rfl, rfl⟩ dX9_advances_215 ob_74 (c_X9_byteAt N210 b ((N210 74 15)) (by rw [(hf2 14 (by decide) (by decide) (by decide))]; exact h_rtyped) (by rw [(hk2 84 (by decide))]; exact h_rtext) (by (try rw [eN210, rTx_jup (by decide)]); rw [← hbt]; exact rTx_cg (hf2 14 (by decide) (by decide) (by decide)) (hk2 84 (by decide))) (by omega)) rfl rfl (Nat.le_of_ble_eq_true rfl) (fun r_46 M_47 h_48 => ?_)
                    obtain ⟨er_46, nh_48⟩ := h_48
                    refine j_eqM nh_48 ?_
                    clear nh_48
                    have hc1 : r_46 = b (N0 74 15 + v2) := by rw [er_46, hn.2.1]
                    refine j_callSi l_X9_197 ⟨Nat.le_of_ble_eq_true rfl, Nat.le_of_ble_eq_true rfl⟩ ⟨rfl, rfl⟩ dX9_advances_218 (c_X9_isDigit N210 r_46) rfl rfl (Nat.le_of_ble_eq_true rfl) (fun r_49 M_50 h_51 => ?_)
                    obtain ⟨er_49, nh_51⟩ := h_51
                    refine j_eqM nh_51 ?_
                    clear nh_51
                    refine j_if_eq (tgt := 274) dX9_advances_221 (by decide) (fun c221_52 => ?_) (fun c221_52 => ?_)
                    · skip
                      have hstop : ¬ (48 ≤ b (N0 74 15 + v2) ∧ b (N0 74 15 + v2) ≤ 57) := by omega
                      have hv1 : 1 ≤ v2 := by rcases (show v2 = 0 ∨ 1 ≤ v2 by omega) with z | z; (· exfalso; rw [z, Int.add_zero] at hstop; exact hstop (h41 z)); (· exact z)
                      refine j_aload_n 0 dX9_advances_274 rfl rfl ?_
                      refine j_aload_n 0 dX9_advances_275 rfl rfl ?_
                      refine j_geti (k' := 18) f_X9_194 o_74_18 dX9_advances_276 rfl ?_
                      refine j_sipush dX9_advances_279 (by decide) ?_
                      have hJ_53 : ∀ zz : Int, (9999 < (N210 74 18) ∧ zz = 4) ∨ (¬ (9999 < (N210 74 18)) ∧ ¬ r_12 = 48 ∧ zz = 2) ∨ (¬ (9999 < (N210 74 18)) ∧ r_12 = 48 ∧ v2 ≤ 1 ∧ zz = 2) ∨ (¬ (9999 < (N210 74 18)) ∧ r_12 = 48 ∧ ¬ (v2 ≤ 1) ∧ zz = 4) → jG D_X9_advances X FJ shJ 0 0 (jqV (q_X9_advances M b)) 301 [(0, jR 74), (1, jI r_12), (2, jI v2)] (jI zz :: jR 74 :: []) N210 := by
                        intro t_54 et_54
                        refine j_puti (k' := 16) f_X9_191 o_74_16 dX9_advances_301 rfl ?_
                        refine j_nmM (fun M_55 eM_55 => ?_)
                        refine j_goto (tgt := 413) dX9_advances_304 (by decide) ?_
                        refine j_vret rfl rfl rfl rfl dX9_advances_413 ?_
                        first | exact adP_of (q := N0 74 15) (tk := 0) (nx := N0 74 15) (by first | (rw [eM_55]; simp [jup]; done) | (rw [eM_55]; done)) (by first | (rw [eM_55]; simp [jup]; done) | (rw [eM_55]; done)) rfl (by first | (rw [eM_55]; simp [jup]; done) | (rw [eM_55]; done)) hsk (by omega) (rTkv_neg (q := N0 74 15) (by omega)) (fun c z => by rw [eM_55]; (repeat rw [jup_cell z]); exact hk c z) (fun k z15 z16 z17 z18 => by rw [eM_55]; (repeat rw [jup_ne (by omega)]); exact hf k z15) | exact adP_of (q := N0 74 15) hp3 rfl rfl h15 hsk (by omega) (rTkv_word (by omega) (by omega) hr hstop (wdI_end (n := v5) (by rw [show N0 74 15 + v4 - N0 74 15 = v4 by omega]; exact hd) (by omega) (fun z => by rw [hv]; congr 1; omega) (by omega))) hk3 hf3 | exact adP_of (q := N0 74 15) (by rw [eM_55, jup_ne (by decide)]; exact hp) (by rw [eM_55, jup_self]) (by rw [eM_55, jup_ne (by decide)]) (by rw [eM_55, jup_ne (by decide)]) hsk (by omega) (rTkv_num hn.2.1 (by omega) (by omega) hr hstop hv (by omega)) (fun c z => by rw [eM_55]; (repeat rw [jup_cell z]); exact hk2 c z) (fun k z15 z16 z17 z18 => by rw [eM_55]; (repeat rw [jup_ne (by omega)]); exact hf2 k z15 z17 z18) | exact adP_of (q := N0 74 15) (v := b (N0 74 15)) (nx := N0 74 15 + 1) (by rw [eM_55]; simp [jup]) (by rw [eM_55, jup_self]) (by rw [eM_55]; simp [jup]; omega) (by rw [eM_55]; simp [jup]) hsk (by omega) (rTkv_oth (by omega) (by omega) (by omega) (by omega)) (fun c z => by rw [eM_55]; (repeat rw [jup_cell z]); exact hk c z) (fun k z15 z16 z17 z18 => by rw [eM_55]; (repeat rw [jup_ne (by omega)]); exact hf k z15)
                      refine j_icmp_gt (tgt := 296) dX9_advances_282 (by decide) (fun c282_56 => ?_) (fun c282_56 => ?_)
                      · skip
                        refine j_iconst dX9_advances_296 (by decide) ?_
                        refine j_goto (tgt := 301) dX9_advances_297 (by decide) ?_
                        exact hJ_53 _ (Or.inl ⟨c282_56, rfl⟩)
                      · skip
                        refine j_iload_n 1 dX9_advances_285 rfl rfl ?_
                        refine j_bipush dX9_advances_286 (by decide) ?_
                        refine j_icmp_ne (tgt := 300) dX9_advances_288 (by decide) (fun c288_57 => ?_) (fun c288_57 => ?_)
                        · skip
                          refine j_iconst dX9_advances_300 (by decide) ?_
                          exact hJ_53 _ (Or.inr (Or.inl ⟨c282_56, c288_57, rfl⟩))
                        · skip
                          refine j_iload_n 2 dX9_advances_291 rfl rfl ?_
                          refine j_iconst dX9_advances_292 (by decide) ?_
                          refine j_icmp_le (tgt := 300) dX9_advances_293 (by decide) (fun c293_58 => ?_) (fun c293_58 => ?_)
                          · skip
                            refine j_iconst dX9_advances_300 (by decide) ?_
                            exact hJ_53 _ (Or.inr (Or.inr (Or.inl ⟨c282_56, c288_57, c293_58, rfl⟩)))
                          · skip
                            refine j_iconst dX9_advances_296 (by decide) ?_
                            refine j_goto (tgt := 301) dX9_advances_297 (by decide) ?_
                            exact hJ_53 _ (Or.inr (Or.inr (Or.inr (⟨c282_56, c288_57, c293_58, rfl⟩))))
                    · skip
                      have hlt : N0 74 15 + v2 < M 74 14 := by rcases Int.lt_or_le (N0 74 15 + v2) (M 74 14) with y | y; (· exact y); (· have := rTx_out hbt y; omega)
                      have hvr := fun z => nv_le (b := b) (q := N0 74 15) v2.toNat z (fun j a c => hr j a (by omega))
                      refine j_aload_n 0 dX9_advances_224 rfl rfl ?_
                      refine j_iload_n 2 dX9_advances_225 rfl rfl ?_
                      refine j_iconst dX9_advances_226 (by decide) ?_
                      refine j_icmp_ge (tgt := 252) dX9_advances_227 (by decide) (fun c227_59 => ?_) (fun c227_59 => ?_)
                      · skip
                        refine j_sipush dX9_advances_252 (by decide) ?_
                        refine j_puti (k' := 18) f_X9_194 o_74_18 dX9_advances_255 rfl ?_
                        refine j_nmM (fun M_60 eM_60 => ?_)
                        obtain ⟨v2_61, ev2_61⟩ : ∃ y : Int, y = v2 + 1 := ⟨_, rfl⟩
                        refine j_iinc (y := v2_61) (ls' := [(0, jR 74), (1, jI r_12), (2, jI v2_61)]) 2 dX9_advances_258 rfl ev2_61 (by omega) (by decide) rfl ?_
                        refine j_aload_n 0 dX9_advances_261 rfl rfl ?_
                        refine j_dup dX9_advances_262 rfl ?_
                        refine j_geti (k' := 15) f_X9_181 o_74_15 dX9_advances_263 rfl ?_
                        refine j_eq ((congrFun (congrFun eM_60 74) 15).trans (jup_ne (by decide))) ?_
                        refine j_iconst dX9_advances_266 (by decide) ?_
                        refine j_iadd dX9_advances_267 (by omega) ?_
                        refine j_puti (k' := 15) f_X9_181 o_74_15 dX9_advances_268 rfl ?_
                        refine j_nmM (fun M_62 eM_62 => ?_)
                        refine j_goto (tgt := 210) dX9_advances_271 (by decide) ?_
                        exact ih210 v2_61 M_62 ⟨by rw [eM_62, eM_60]; (repeat rw [jup_ne (by decide)]); exact hp, by rw [show M_62 74 15 = N0 74 15 + v2 + 1 by (rw [eM_62, eM_60, jup_self]; omega)]; omega, by intro j a c; by_cases hj : j = N0 74 15 + v2; (· rw [hj]; omega); (· exact hr j a (by omega)), by rw [eM_62, eM_60, jup_ne (by decide), jup_self]; first | (rw [if_neg (by omega)]; done) | (rw [if_pos (by omega), ev2_61, toNat_s hn.1]; unfold nvB; rw [toNat_c hn.1]; rw [if_pos (by omega)] at hv; omega), by omega, by intro c z; rw [eM_62, eM_60]; (repeat rw [jup_cell z]); exact hk2 c z, by intro k z15 z17 z18; rw [eM_62, eM_60]; (repeat rw [jup_ne (by omega)]); exact hf2 k z15 z17 z18⟩ (by rw [eM_62, eM_60, jup_self]; omega)
                      · skip
                        refine j_bipush dX9_advances_230 (by decide) ?_
                        refine j_aload_n 0 dX9_advances_232 rfl rfl ?_
                        refine j_geti (k' := 18) f_X9_194 o_74_18 dX9_advances_233 rfl ?_
                        refine j_imul dX9_advances_236 (by omega) ?_
                        refine j_aload_n 0 dX9_advances_237 rfl rfl ?_
                        refine j_aload_n 0 dX9_advances_238 rfl rfl ?_
                        refine j_geti (k' := 15) f_X9_181 o_74_15 dX9_advances_239 rfl ?_
                        refine j_callVi l_X9_184 ⟨Nat.le_of_ble_eq_true rfl, Nat.le_of_ble_eq_true rfl⟩ ⟨rfl, rfl⟩ dX9_advances_242 ob_74 (c_X9_byteAt N210 b ((N210 74 15)) (by rw [(hf2 14 (by decide) (by decide) (by decide))]; exact h_rtyped) (by rw [(hk2 84 (by decide))]; exact h_rtext) (by (try rw [eN210, rTx_jup (by decide)]); rw [← hbt]; exact rTx_cg (hf2 14 (by decide) (by decide) (by decide)) (hk2 84 (by decide))) (by omega)) rfl rfl (Nat.le_of_ble_eq_true rfl) (fun r_63 M_64 h_65 => ?_)
                        obtain ⟨er_63, nh_65⟩ := h_65
                        refine j_eqM nh_65 ?_
                        clear nh_65
                        have hc3 : r_63 = b (N0 74 15 + v2) := by rw [er_63, hn.2.1]
                        refine j_iadd dX9_advances_245 (by omega) ?_
                        refine j_bipush dX9_advances_246 (by decide) ?_
                        refine j_isub dX9_advances_248 (by omega) ?_
                        refine j_goto (tgt := 255) dX9_advances_249 (by decide) ?_
                        refine j_puti (k' := 18) f_X9_194 o_74_18 dX9_advances_255 rfl ?_
                        refine j_nmM (fun M_66 eM_66 => ?_)
                        obtain ⟨v2_67, ev2_67⟩ : ∃ y : Int, y = v2 + 1 := ⟨_, rfl⟩
                        refine j_iinc (y := v2_67) (ls' := [(0, jR 74), (1, jI r_12), (2, jI v2_67)]) 2 dX9_advances_258 rfl ev2_67 (by omega) (by decide) rfl ?_
                        refine j_aload_n 0 dX9_advances_261 rfl rfl ?_
                        refine j_dup dX9_advances_262 rfl ?_
                        refine j_geti (k' := 15) f_X9_181 o_74_15 dX9_advances_263 rfl ?_
                        refine j_eq ((congrFun (congrFun eM_66 74) 15).trans (jup_ne (by decide))) ?_
                        refine j_iconst dX9_advances_266 (by decide) ?_
                        refine j_iadd dX9_advances_267 (by omega) ?_
                        refine j_puti (k' := 15) f_X9_181 o_74_15 dX9_advances_268 rfl ?_
                        refine j_nmM (fun M_68 eM_68 => ?_)
                        refine j_goto (tgt := 210) dX9_advances_271 (by decide) ?_
                        exact ih210 v2_67 M_68 ⟨by rw [eM_68, eM_66]; (repeat rw [jup_ne (by decide)]); exact hp, by rw [show M_68 74 15 = N0 74 15 + v2 + 1 by (rw [eM_68, eM_66, jup_self]; omega)]; omega, by intro j a c; by_cases hj : j = N0 74 15 + v2; (· rw [hj]; omega); (· exact hr j a (by omega)), by rw [eM_68, eM_66, jup_ne (by decide), jup_self]; first | (rw [if_neg (by omega)]; done) | (rw [if_pos (by omega), ev2_67, toNat_s hn.1]; unfold nvB; rw [toNat_c hn.1]; rw [if_pos (by omega)] at hv; omega), by omega, by intro c z; rw [eM_68, eM_66]; (repeat rw [jup_cell z]); exact hk2 c z, by intro k z15 z17 z18; rw [eM_68, eM_66]; (repeat rw [jup_ne (by omega)]); exact hf2 k z15 z17 z18⟩ (by rw [eM_68, eM_66, jup_self]; omega)
                exact lp210_45 _ 0 M_44 ⟨by rw [eM_44, eM_11]; simp [jup], by rw [eM_44, eM_11]; simp [jup]; omega, by intro j a c; omega, by rw [eM_44, eM_11, jup_self, if_pos (by omega)]; rfl, by intro _; omega, by intro c z; rw [eM_44, eM_11]; (repeat rw [jup_cell z]); exact hk c z, by intro k z15 z17 z18; rw [eM_44, eM_11]; (repeat rw [jup_ne (by omega)]); exact hf k z15⟩ (Nat.lt_succ_self _)
            · skip
              refine j_lconst (v := 0) dX9_advances_79 rfl ?_
              refine j_lstore_n (ls' := [(0, jR 74), (1, jI r_12), (2, jL 0)]) dX9_advances_80 rfl (by decide) rfl ?_
              refine j_iconst dX9_advances_81 (by decide) ?_
              refine j_istore (ls' := [(0, jR 74), (1, jI r_12), (2, jL 0), (4, jI 0)]) dX9_advances_82 (by decide) rfl ?_
              have lp84_69 : ∀ n84 : Nat, ∀ (v2 v4 : Int), ∀ N84 : jM, (N84 74 17 = N0 74 15) ∧ (0 ≤ v4 ∧ N84 74 15 = N0 74 15 + v4 ∧ N0 74 15 + v4 ≤ M 74 14) ∧ (∀ j, N0 74 15 ≤ j → j < N0 74 15 + v4 → 97 ≤ b j ∧ b j ≤ 122) ∧ (v2 = nmB b (N0 74 15) (min v4 6).toNat) ∧ (v4 = 0 → 97 ≤ b (N0 74 15) ∧ b (N0 74 15) ≤ 122) ∧ (∀ c, c ≠ 74 → N84 c = M c) ∧ (∀ k, k ≠ 15 → k ≠ 17 → N84 74 k = M 74 k) → (M 74 14 - N84 74 15).toNat < n84 → jG D_X9_advances X FJ shJ 0 0 (jqV (q_X9_advances M b)) 84 [(0, jR 74), (1, jI r_12), (2, jL v2), (4, jI v4)] ([]) N84 := by
                intro n84
                induction n84 with
                | zero => intro v2 v4 N84 _ hz; exact absurd hz (Nat.not_lt_zero _)
                | succ n84 ih84 =>
                  intro v2 v4 N84 hinv hm
                  obtain ⟨hp, hn, hr, hv, h41, hk1, hf1⟩ := hinv
                  refine j_aload_n 0 dX9_advances_84 rfl rfl ?_
                  refine j_aload_n 0 dX9_advances_85 rfl rfl ?_
                  refine j_geti (k' := 15) f_X9_181 o_74_15 dX9_advances_86 rfl ?_
                  refine j_callVi l_X9_184 ⟨Nat.le_of_ble_eq_true rfl, Nat.le_of_ble_eq_true rfl⟩ ⟨rfl, rfl⟩ dX9_advances_89 ob_74 (c_X9_byteAt N84 b ((N84 74 15)) (by rw [(hf1 14 (by decide) (by decide))]; exact h_rtyped) (by rw [(hk1 84 (by decide))]; exact h_rtext) (by (try rw [eN84, rTx_jup (by decide)]); rw [← hbt]; exact rTx_cg (hf1 14 (by decide) (by decide)) (hk1 84 (by decide))) (by omega)) rfl rfl (Nat.le_of_ble_eq_true rfl) (fun r_70 M_71 h_72 => ?_)
                  obtain ⟨er_70, nh_72⟩ := h_72
                  refine j_eqM nh_72 ?_
                  clear nh_72
                  have hc1 : r_70 = b (N0 74 15 + v4) := by rw [er_70, hn.2.1]
                  refine j_bipush dX9_advances_92 (by decide) ?_
                  refine j_bipush dX9_advances_94 (by decide) ?_
                  refine j_callSi l_X9_137 ⟨Nat.le_of_ble_eq_true rfl, Nat.le_of_ble_eq_true rfl⟩ ⟨rfl, rfl⟩ dX9_advances_96 (c_X9_in N84 r_70 97 122) rfl rfl (Nat.le_of_ble_eq_true rfl) (fun r_73 M_74 h_75 => ?_)
                  obtain ⟨er_73, nh_75⟩ := h_75
                  refine j_eqM nh_75 ?_
                  clear nh_75
                  refine j_if_eq (tgt := 142) dX9_advances_99 (by decide) (fun c99_76 => ?_) (fun c99_76 => ?_)
                  · skip
                    have hstop : ¬ (97 ≤ b (N0 74 15 + v4) ∧ b (N0 74 15 + v4) ≤ 122) := by omega
                    have hv1 : 1 ≤ v4 := by rcases (show v4 = 0 ∨ 1 ≤ v4 by omega) with z | z; (· exfalso; rw [z, Int.add_zero] at hstop; exact hstop (h41 z)); (· exact z)
                    refine j_aload_n 0 dX9_advances_142 rfl rfl ?_
                    refine j_iconst dX9_advances_143 (by decide) ?_
                    refine j_puti (k' := 16) f_X9_191 o_74_16 dX9_advances_144 rfl ?_
                    refine j_nmM (fun M_77 eM_77 => ?_)
                    refine j_iconst dX9_advances_147 (by decide) ?_
                    refine j_istore (ls' := [(0, jR 74), (1, jI r_12), (2, jL v2), (4, jI v4), (5, jI 0)]) dX9_advances_148 (by decide) rfl ?_
                    have lp150_78 : ∀ n150 : Nat, ∀ (v5 : Int), ∀ N150 : jM, (N150 74 17 = N0 74 15) ∧ (N150 74 15 = N0 74 15 + v4) ∧ (0 ≤ v5 ∧ v5 ≤ 16) ∧ (wdI v2 v5 (N150 74 16) (N150 74 18) (v4 ≤ 6)) ∧ (∀ c, c ≠ 74 → N150 c = M c) ∧ (∀ k, k ≠ 15 → k ≠ 16 → k ≠ 17 → k ≠ 18 → N150 74 k = M 74 k) → (16 - v5).toNat < n150 → jG D_X9_advances X FJ shJ 0 0 (jqV (q_X9_advances M b)) 150 [(0, jR 74), (1, jI r_12), (2, jL v2), (4, jI v4), (5, jI v5)] ([]) N150 := by
                      intro n150
                      induction n150 with
                      | zero => intro v5 N150 _ hz; exact absurd hz (Nat.not_lt_zero _)
                      | succ n150 ih150 =>
                        intro v5 N150 hinv hm
                        obtain ⟨hp3, h15, hw, hd, hk3, hf3⟩ := hinv
                        refine j_iload 4 dX9_advances_150 rfl ?_
                        refine j_bipush dX9_advances_152 (by decide) ?_
                        refine j_icmp_ge (tgt := 193) dX9_advances_154 (by decide) (fun c154_79 => ?_) (fun c154_79 => ?_)
                        · skip
                          refine j_goto (tgt := 413) dX9_advances_193 (by decide) ?_
                          refine j_vret rfl rfl rfl rfl dX9_advances_413 ?_
                          first | exact adP_of (q := N0 74 15) (tk := 0) (nx := N0 74 15) (by first | (rw [jup_zz]; simp [jup]; done) | (rw [jup_zz]; done)) (by first | (rw [jup_zz]; simp [jup]; done) | (rw [jup_zz]; done)) rfl (by first | (rw [jup_zz]; simp [jup]; done) | (rw [jup_zz]; done)) hsk (by omega) (rTkv_neg (q := N0 74 15) (by omega)) (fun c z => by rw [jup_zz]; (repeat rw [jup_cell z]); exact hk c z) (fun k z15 z16 z17 z18 => by rw [jup_zz]; (repeat rw [jup_ne (by omega)]); exact hf k z15) | exact adP_of (q := N0 74 15) hp3 rfl rfl h15 hsk (by omega) (rTkv_word (by omega) (by omega) hr hstop (wdI_end (n := v5) (by rw [show N0 74 15 + v4 - N0 74 15 = v4 by omega]; exact hd) (by omega) (fun z => by rw [hv]; congr 1; omega) (by omega))) hk3 hf3 | exact adP_of (q := N0 74 15) (by rw [jup_zz, jup_ne (by decide)]; exact hp) (by rw [jup_zz, jup_self]) (by rw [jup_zz, jup_ne (by decide)]) (by rw [jup_zz, jup_ne (by decide)]) hsk (by omega) (rTkv_num hn.2.1 (by omega) (by omega) hr hstop hv (by omega)) (fun c z => by rw [jup_zz]; (repeat rw [jup_cell z]); exact hk2 c z) (fun k z15 z16 z17 z18 => by rw [jup_zz]; (repeat rw [jup_ne (by omega)]); exact hf2 k z15 z17 z18) | exact adP_of (q := N0 74 15) (v := b (N0 74 15)) (nx := N0 74 15 + 1) (by rw [jup_zz]; simp [jup]) (by rw [jup_zz, jup_self]) (by rw [jup_zz]; simp [jup]; omega) (by rw [jup_zz]; simp [jup]) hsk (by omega) (rTkv_oth (by omega) (by omega) (by omega) (by omega)) (fun c z => by rw [jup_zz]; (repeat rw [jup_cell z]); exact hk c z) (fun k z15 z16 z17 z18 => by rw [jup_zz]; (repeat rw [jup_ne (by omega)]); exact hf k z15)
                        · skip
                          refine j_iload 3 dX9_advances_157 rfl ?_
                          refine j_bipush dX9_advances_159 (by decide) ?_
                          refine j_icmp_ge (tgt := 193) dX9_advances_161 (by decide) (fun c161_80 => ?_) (fun c161_80 => ?_)
                          · skip
                            refine j_goto (tgt := 413) dX9_advances_193 (by decide) ?_
                            refine j_vret rfl rfl rfl rfl dX9_advances_413 ?_
                            first | exact adP_of (q := N0 74 15) (tk := 0) (nx := N0 74 15) (by first | (rw [jup_zz]; simp [jup]; done) | (rw [jup_zz]; done)) (by first | (rw [jup_zz]; simp [jup]; done) | (rw [jup_zz]; done)) rfl (by first | (rw [jup_zz]; simp [jup]; done) | (rw [jup_zz]; done)) hsk (by omega) (rTkv_neg (q := N0 74 15) (by omega)) (fun c z => by rw [jup_zz]; (repeat rw [jup_cell z]); exact hk c z) (fun k z15 z16 z17 z18 => by rw [jup_zz]; (repeat rw [jup_ne (by omega)]); exact hf k z15) | exact adP_of (q := N0 74 15) hp3 rfl rfl h15 hsk (by omega) (rTkv_word (by omega) (by omega) hr hstop (wdI_end (n := v5) (by rw [show N0 74 15 + v4 - N0 74 15 = v4 by omega]; exact hd) (by omega) (fun z => by rw [hv]; congr 1; omega) (by omega))) hk3 hf3 | exact adP_of (q := N0 74 15) (by rw [jup_zz, jup_ne (by decide)]; exact hp) (by rw [jup_zz, jup_self]) (by rw [jup_zz, jup_ne (by decide)]) (by rw [jup_zz, jup_ne (by decide)]) hsk (by omega) (rTkv_num hn.2.1 (by omega) (by omega) hr hstop hv (by omega)) (fun c z => by rw [jup_zz]; (repeat rw [jup_cell z]); exact hk2 c z) (fun k z15 z16 z17 z18 => by rw [jup_zz]; (repeat rw [jup_ne (by omega)]); exact hf2 k z15 z17 z18) | exact adP_of (q := N0 74 15) (v := b (N0 74 15)) (nx := N0 74 15 + 1) (by rw [jup_zz]; simp [jup]) (by rw [jup_zz, jup_self]) (by rw [jup_zz]; simp [jup]; omega) (by rw [jup_zz]; simp [jup]) hsk (by omega) (rTkv_oth (by omega) (by omega) (by omega) (by omega)) (fun c z => by rw [jup_zz]; (repeat rw [jup_cell z]); exact hk c z) (fun k z15 z16 z17 z18 => by rw [jup_zz]; (repeat rw [jup_ne (by omega)]); exact hf k z15)
                          · skip
                            have hw5 := h_rwords v5 (by omega) (by omega)
                            have hwr := wVal_in v5
                            have hnr := nm_in (b := b) (q := N0 74 15) (min v4 6).toNat (by omega) (fun j a c => hr j a (by omega))
                            refine j_aload_n 0 dX9_advances_164 rfl rfl ?_
                            refine j_getr f_X9_7 r_74_2 dX9_advances_165 ?_
                            refine j_iload 4 dX9_advances_168 rfl ?_
                            refine j_lald a_75 dX9_advances_170 (by omega) (by omega) ?_
                            refine j_eqL (congrFun (hk3 75 (by decide)) v5) ?_
                            refine j_lload_n 2 dX9_advances_171 rfl rfl ?_
                            refine j_lcmp dX9_advances_172 (by omega) (by omega) ?_
                            refine j_if_ne (tgt := 187) dX9_advances_173 (by decide) (fun c173_81 => ?_) (fun c173_81 => ?_)
                            · skip
                              have hne : ¬ M 75 v5 = v2 := fun z => c173_81 (jcmp_eq.2 z)
                              obtain ⟨v5_82, ev5_82⟩ : ∃ y : Int, y = v5 + 1 := ⟨_, rfl⟩
                              refine j_iinc (y := v5_82) (ls' := [(0, jR 74), (1, jI r_12), (2, jL v2), (4, jI v4), (5, jI v5_82)]) 4 dX9_advances_187 rfl ev5_82 (by omega) (by decide) rfl ?_
                              refine j_goto (tgt := 150) dX9_advances_190 (by decide) ?_
                              exact ih150 v5_82 N150 ⟨by first | exact hp3 | (rw [jup_zz]; (repeat rw [jup_ne (by decide)]); exact hp3), by first | exact h15 | (rw [jup_zz]; (repeat rw [jup_ne (by decide)]); exact h15), by omega, by rw [ev5_82]; first | exact wdI_no hd (by rw [← hw5]; exact hne) | (rw [show N150 74 16 = 1 by (rw [jup_zz, jup_ne (by decide), jup_self]), show N150 74 18 = v5 by (rw [jup_zz, jup_self])]; exact wdI_yes hw.1 (by rw [← hw5]; exact heq) (by omega)), by first | exact hk3 | (intro c z; rw [jup_zz]; (repeat rw [jup_cell z]); exact hk3 c z), by first | exact hf3 | (intro k z15 z16 z17 z18; rw [jup_zz]; (repeat rw [jup_ne (by omega)]); exact hf3 k z15 z16 z17 z18)⟩ (by omega)
                            · skip
                              have heq : M 75 v5 = v2 := jcmp_eq.1 c173_81
                              refine j_aload_n 0 dX9_advances_176 rfl rfl ?_
                              refine j_iconst dX9_advances_177 (by decide) ?_
                              refine j_puti (k' := 16) f_X9_191 o_74_16 dX9_advances_178 rfl ?_
                              refine j_nmM (fun M_83 eM_83 => ?_)
                              refine j_aload_n 0 dX9_advances_181 rfl rfl ?_
                              refine j_iload 4 dX9_advances_182 rfl ?_
                              refine j_puti (k' := 18) f_X9_194 o_74_18 dX9_advances_184 rfl ?_
                              refine j_nmM (fun M_84 eM_84 => ?_)
                              obtain ⟨v5_85, ev5_85⟩ : ∃ y : Int, y = v5 + 1 := ⟨_, rfl⟩
                              refine j_iinc (y := v5_85) (ls' := [(0, jR 74), (1, jI r_12), (2, jL v2), (4, jI v4), (5, jI v5_85)]) 4 dX9_advances_187 rfl ev5_85 (by omega) (by decide) rfl ?_
                              refine j_goto (tgt := 150) dX9_advances_190 (by decide) ?_
                              exact ih150 v5_85 M_84 ⟨by first | exact hp3 | (rw [eM_84, eM_83]; (repeat rw [jup_ne (by decide)]); exact hp3), by first | exact h15 | (rw [eM_84, eM_83]; (repeat rw [jup_ne (by decide)]); exact h15), by omega, by rw [ev5_85]; first | exact wdI_no hd (by rw [← hw5]; exact hne) | (rw [show M_84 74 16 = 1 by (rw [eM_84, eM_83, jup_ne (by decide), jup_self]), show M_84 74 18 = v5 by (rw [eM_84, eM_83, jup_self])]; exact wdI_yes hw.1 (by rw [← hw5]; exact heq) (by omega)), by first | exact hk3 | (intro c z; rw [eM_84, eM_83]; (repeat rw [jup_cell z]); exact hk3 c z), by first | exact hf3 | (intro k z15 z16 z17 z18; rw [eM_84, eM_83]; (repeat rw [jup_ne (by omega)]); exact hf3 k z15 z16 z17 z18)⟩ (by omega)
                    exact lp150_78 _ 0 M_77 ⟨by rw [eM_77, jup_ne (by decide)]; exact hp, by rw [eM_77, jup_ne (by decide)]; exact hn.2.1, by omega, by rw [show M_77 74 16 = 4 by (rw [eM_77, jup_self])]; exact wdI_0 _ _ _, by intro c z; rw [eM_77]; (repeat rw [jup_cell z]); exact hk1 c z, by intro k z15 z16 z17 z18; rw [eM_77]; (repeat rw [jup_ne (by omega)]); exact hf1 k z15 z17⟩ (Nat.lt_succ_self _)
                  · skip
                    have hlt : N0 74 15 + v4 < M 74 14 := by rcases Int.lt_or_le (N0 74 15 + v4) (M 74 14) with y | y; (· exact y); (· have := rTx_out hbt y; omega)
                    refine j_iload 3 dX9_advances_102 rfl ?_
                    refine j_bipush dX9_advances_104 (by decide) ?_
                    refine j_icmp_ge (tgt := 124) dX9_advances_106 (by decide) (fun c106_86 => ?_) (fun c106_86 => ?_)
                    · skip
                      refine j_lload_n 2 dX9_advances_124 rfl rfl ?_
                      refine j_lstore_n (ls' := [(0, jR 74), (1, jI r_12), (2, jL v2), (4, jI v4)]) dX9_advances_125 rfl (by decide) rfl ?_
                      obtain ⟨v4_87, ev4_87⟩ : ∃ y : Int, y = v4 + 1 := ⟨_, rfl⟩
                      refine j_iinc (y := v4_87) (ls' := [(0, jR 74), (1, jI r_12), (2, jL v2), (4, jI v4_87)]) 3 dX9_advances_126 rfl ev4_87 (by omega) (by decide) rfl ?_
                      refine j_aload_n 0 dX9_advances_129 rfl rfl ?_
                      refine j_dup dX9_advances_130 rfl ?_
                      refine j_geti (k' := 15) f_X9_181 o_74_15 dX9_advances_131 rfl ?_
                      refine j_iconst dX9_advances_134 (by decide) ?_
                      refine j_iadd dX9_advances_135 (by omega) ?_
                      refine j_puti (k' := 15) f_X9_181 o_74_15 dX9_advances_136 rfl ?_
                      refine j_nmM (fun M_88 eM_88 => ?_)
                      refine j_goto (tgt := 84) dX9_advances_139 (by decide) ?_
                      exact ih84 v2 v4_87 M_88 ⟨by rw [eM_88, jup_ne (by decide)]; exact hp, by rw [show M_88 74 15 = N0 74 15 + v4 + 1 by (rw [eM_88, jup_self]; omega)]; omega, by intro j a c; by_cases hj : j = N0 74 15 + v4; (· rw [hj]; omega); (· exact hr j a (by omega)), by first | (rw [show (min v4_87 6).toNat = (min v4 6).toNat by omega]; exact hv) | (rw [show (min v4_87 6).toNat = (min v4 6).toNat + 1 by omega]; unfold nmB; rw [show (((min v4 6).toNat : Nat) : Int) = v4 by omega, ← hv]; (repeat' split at *) <;> omega), by omega, by intro c z; rw [eM_88]; (repeat rw [jup_cell z]); exact hk1 c z, by intro k z15 z17; rw [eM_88]; (repeat rw [jup_ne (by omega)]); exact hf1 k z15 z17⟩ (by rw [eM_88, jup_self]; omega)
                    · skip
                      refine j_lload_n 2 dX9_advances_109 rfl rfl ?_
                      refine j_aload_n 0 dX9_advances_110 rfl rfl ?_
                      refine j_aload_n 0 dX9_advances_111 rfl rfl ?_
                      refine j_geti (k' := 15) f_X9_181 o_74_15 dX9_advances_112 rfl ?_
                      refine j_callVi l_X9_184 ⟨Nat.le_of_ble_eq_true rfl, Nat.le_of_ble_eq_true rfl⟩ ⟨rfl, rfl⟩ dX9_advances_115 ob_74 (c_X9_byteAt N84 b ((N84 74 15)) (by rw [(hf1 14 (by decide) (by decide))]; exact h_rtyped) (by rw [(hk1 84 (by decide))]; exact h_rtext) (by (try rw [eN84, rTx_jup (by decide)]); rw [← hbt]; exact rTx_cg (hf1 14 (by decide) (by decide)) (hk1 84 (by decide))) (by omega)) rfl rfl (Nat.le_of_ble_eq_true rfl) (fun r_89 M_90 h_91 => ?_)
                      obtain ⟨er_89, nh_91⟩ := h_91
                      refine j_eqM nh_91 ?_
                      clear nh_91
                      have hc3 : r_89 = b (N0 74 15 + v4) := by rw [er_89, hn.2.1]
                      refine j_callSl l_X9_130 ⟨Nat.le_of_ble_eq_true rfl, Nat.le_of_ble_eq_true rfl⟩ ⟨rfl, rfl⟩ dX9_advances_118 (c_X9_add N84 v2 r_89) rfl rfl (Nat.le_of_ble_eq_true rfl) (fun r_92 M_93 h_94 => ?_)
                      obtain ⟨er_92, nh_94⟩ := h_94
                      refine j_eqM nh_94 ?_
                      clear nh_94
                      refine j_goto (tgt := 125) dX9_advances_121 (by decide) ?_
                      refine j_lstore_n (ls' := [(0, jR 74), (1, jI r_12), (2, jL r_92), (4, jI v4)]) dX9_advances_125 rfl (by decide) rfl ?_
                      obtain ⟨v4_95, ev4_95⟩ : ∃ y : Int, y = v4 + 1 := ⟨_, rfl⟩
                      refine j_iinc (y := v4_95) (ls' := [(0, jR 74), (1, jI r_12), (2, jL r_92), (4, jI v4_95)]) 3 dX9_advances_126 rfl ev4_95 (by omega) (by decide) rfl ?_
                      refine j_aload_n 0 dX9_advances_129 rfl rfl ?_
                      refine j_dup dX9_advances_130 rfl ?_
                      refine j_geti (k' := 15) f_X9_181 o_74_15 dX9_advances_131 rfl ?_
                      refine j_iconst dX9_advances_134 (by decide) ?_
                      refine j_iadd dX9_advances_135 (by omega) ?_
                      refine j_puti (k' := 15) f_X9_181 o_74_15 dX9_advances_136 rfl ?_
                      refine j_nmM (fun M_96 eM_96 => ?_)
                      refine j_goto (tgt := 84) dX9_advances_139 (by decide) ?_
                      exact ih84 r_92 v4_95 M_96 ⟨by rw [eM_96, jup_ne (by decide)]; exact hp, by rw [show M_96 74 15 = N0 74 15 + v4 + 1 by (rw [eM_96, jup_self]; omega)]; omega, by intro j a c; by_cases hj : j = N0 74 15 + v4; (· rw [hj]; omega); (· exact hr j a (by omega)), by first | (rw [show (min v4_95 6).toNat = (min v4 6).toNat by omega]; exact hv) | (rw [show (min v4_95 6).toNat = (min v4 6).toNat + 1 by omega]; unfold nmB; rw [show (((min v4 6).toNat : Nat) : Int) = v4 by omega, ← hv]; (repeat' split at *) <;> omega), by omega, by intro c z; rw [eM_96]; (repeat rw [jup_cell z]); exact hk1 c z, by intro k z15 z17; rw [eM_96]; (repeat rw [jup_ne (by omega)]); exact hf1 k z15 z17⟩ (by rw [eM_96, jup_self]; omega)
              exact lp84_69 _ 0 0 M_11 ⟨by rw [eM_11, jup_self], by rw [eM_11, jup_ne (by decide)]; omega, by intro j a c; omega, by rfl, by intro _; omega, by intro c z; rw [eM_11]; (repeat rw [jup_cell z]); exact hk c z, by intro k z15 z17; rw [eM_11]; (repeat rw [jup_ne (by omega)]); exact hf k z15⟩ (Nat.lt_succ_self _)
          · skip
            refine j_aload_n 0 dX9_advances_60 rfl rfl ?_
            refine j_iconst dX9_advances_61 (by decide) ?_
            refine j_puti (k' := 16) f_X9_191 o_74_16 dX9_advances_62 rfl ?_
            refine j_nmM (fun M_97 eM_97 => ?_)
            refine j_goto (tgt := 413) dX9_advances_65 (by decide) ?_
            refine j_vret rfl rfl rfl rfl dX9_advances_413 ?_
            first | exact adP_of (q := N0 74 15) (tk := 0) (nx := N0 74 15) (by first | (rw [eM_97, eM_11]; simp [jup]; done) | (rw [eM_97, eM_11]; done)) (by first | (rw [eM_97, eM_11]; simp [jup]; done) | (rw [eM_97, eM_11]; done)) rfl (by first | (rw [eM_97, eM_11]; simp [jup]; done) | (rw [eM_97, eM_11]; done)) hsk (by omega) (rTkv_neg (q := N0 74 15) (by omega)) (fun c z => by rw [eM_97, eM_11]; (repeat rw [jup_cell z]); exact hk c z) (fun k z15 z16 z17 z18 => by rw [eM_97, eM_11]; (repeat rw [jup_ne (by omega)]); exact hf k z15) | exact adP_of (q := N0 74 15) hp3 rfl rfl h15 hsk (by omega) (rTkv_word (by omega) (by omega) hr hstop (wdI_end (n := v5) (by rw [show N0 74 15 + v4 - N0 74 15 = v4 by omega]; exact hd) (by omega) (fun z => by rw [hv]; congr 1; omega) (by omega))) hk3 hf3 | exact adP_of (q := N0 74 15) (by rw [eM_97, eM_11, jup_ne (by decide)]; exact hp) (by rw [eM_97, eM_11, jup_self]) (by rw [eM_97, eM_11, jup_ne (by decide)]) (by rw [eM_97, eM_11, jup_ne (by decide)]) hsk (by omega) (rTkv_num hn.2.1 (by omega) (by omega) hr hstop hv (by omega)) (fun c z => by rw [eM_97, eM_11]; (repeat rw [jup_cell z]); exact hk2 c z) (fun k z15 z16 z17 z18 => by rw [eM_97, eM_11]; (repeat rw [jup_ne (by omega)]); exact hf2 k z15 z17 z18) | exact adP_of (q := N0 74 15) (v := b (N0 74 15)) (nx := N0 74 15 + 1) (by rw [eM_97, eM_11]; simp [jup]) (by rw [eM_97, eM_11, jup_self]) (by rw [eM_97, eM_11]; simp [jup]; omega) (by rw [eM_97, eM_11]; simp [jup]) hsk (by omega) (rTkv_oth (by omega) (by omega) (by omega) (by omega)) (fun c z => by rw [eM_97, eM_11]; (repeat rw [jup_cell z]); exact hk c z) (fun k z15 z16 z17 z18 => by rw [eM_97, eM_11]; (repeat rw [jup_ne (by omega)]); exact hf k z15)
        · skip
          have hlt : N0 74 15 < M 74 14 := by rcases Int.lt_or_le (N0 74 15) (M 74 14) with y | y; (· exact y); (· have := rTx_out hbt y; omega)
          refine j_aload_n 0 dX9_advances_26 rfl rfl ?_
          refine j_dup dX9_advances_27 rfl ?_
          refine j_geti (k' := 15) f_X9_181 o_74_15 dX9_advances_28 rfl ?_
          refine j_iconst dX9_advances_31 (by decide) ?_
          refine j_iadd dX9_advances_32 (by omega) ?_
          refine j_puti (k' := 15) f_X9_181 o_74_15 dX9_advances_33 rfl ?_
          refine j_nmM (fun M_98 eM_98 => ?_)
          refine j_goto (tgt := 0) dX9_advances_36 (by decide) ?_
          exact ih0 M_98 ⟨by rw [eM_98, jup_self]; omega, by intro j a c; rw [eM_98, jup_self] at c; by_cases hj : j = N0 74 15; (· rw [hj]; omega); (· exact h2 j a (by omega)), by intro c z; rw [eM_98]; (repeat rw [jup_cell z]); exact hk c z, by intro k z15; rw [eM_98]; (repeat rw [jup_ne (by omega)]); exact hf k z15⟩ (by rw [eM_98, jup_self]; omega)
  exact lp0_1 _ M ⟨by omega, by intro j a c; omega, by intro c _; rfl, by intro k _; rfl⟩ (Nat.lt_succ_self _)
