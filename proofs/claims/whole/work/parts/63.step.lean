abbrev q_X5_step (M : jM) (b : Int → Int)  : jM → Prop := fun N => stP b M N
set_option maxHeartbeats 4000000 in
set_option maxRecDepth 20000 in
theorem c_X5_step {X : jX} (M : jM) (b : Int → Int)  (h_ctyped : 0 ≤ M 71 0 ∧ M 71 0 ≤ 900) (h_ctext : ∀ i, -128 ≤ M 72 i ∧ M 72 i ≤ 127) (hbt : cTx M = b) (hpl : 0 ≤ M 71 3 ∧ 0 ≤ M 71 4 ∧ M 71 3 + M 71 4 ≤ M 71 0) : jC yX5_step D_X5_step X FJ shJ [jR 71] M (jqV (q_X5_step M b)) := by
  refine jC_of (by decide) rfl (fun ad => Nat.le_of_ble_eq_true rfl) (by decide) ?_
  show jG D_X5_step X FJ shJ 0 0 (jqV (q_X5_step M b)) 0 [(0, jR 71)] [] M
  refine j_aload_n 0 dX5_step_0 rfl rfl ?_
  refine j_dup dX5_step_1 rfl ?_
  refine j_geti (k' := 3) f_X5_32 o_71_3 dX5_step_2 rfl ?_
  refine j_aload_n 0 dX5_step_5 rfl rfl ?_
  refine j_geti (k' := 4) f_X5_35 o_71_4 dX5_step_6 rfl ?_
  refine j_iadd dX5_step_9 (by omega) ?_
  refine j_puti (k' := 3) f_X5_32 o_71_3 dX5_step_10 rfl ?_
  refine j_nmM (fun M_1 eM_1 => ?_)
  have lp13_2 : ∀ n13 : Nat, ∀ N13 : jM, (M 71 3 + M 71 4 ≤ N13 71 3 ∧ N13 71 3 ≤ M 71 0) ∧ (∀ j, M 71 3 + M 71 4 ≤ j → j < N13 71 3 → b j = 32 ∨ b j = 10) ∧ (∀ c, c ≠ 71 → N13 c = M c) ∧ (∀ k, k ≠ 3 → N13 71 k = M 71 k) → (M 71 0 - N13 71 3).toNat < n13 → jG D_X5_step X FJ shJ 0 0 (jqV (q_X5_step M b)) 13 [(0, jR 71)] ([]) N13 := by
    intro n13
    induction n13 with
    | zero => intro  N13 _ hz; exact absurd hz (Nat.not_lt_zero _)
    | succ n13 ih13 =>
      intro  N13 hinv hm
      obtain ⟨h1, h2, hk, hf⟩ := hinv
      refine j_aload_n 0 dX5_step_13 rfl rfl ?_
      refine j_geti (k' := 3) f_X5_32 o_71_3 dX5_step_14 rfl ?_
      refine j_aload_n 0 dX5_step_17 rfl rfl ?_
      refine j_geti (k' := 0) f_X5_23 o_71_0 dX5_step_18 rfl ?_
      refine j_eq (hf 0 (by decide)) ?_
      refine j_icmp_ge (tgt := 65) dX5_step_21 (by decide) (fun c21_3 => ?_) (fun c21_3 => ?_)
      · skip
        have hsk : lSk b (M 71 3 + M 71 4) = N13 71 3 := lSk_of (by omega) (by omega) h2 (by first | omega | (have hx9 := cTx_out hbt (k := N13 71 3) (by omega); omega))
        refine j_aload_n 0 dX5_step_65 rfl rfl ?_
        refine j_iconst dX5_step_66 (by decide) ?_
        refine j_puti (k' := 4) f_X5_35 o_71_4 dX5_step_67 rfl ?_
        refine j_nmM (fun M_4 eM_4 => ?_)
        refine j_aload_n 0 dX5_step_70 rfl rfl ?_
        refine j_geti (k' := 3) f_X5_32 o_71_3 dX5_step_71 rfl ?_
        refine j_eq ((congrFun (congrFun eM_4 71) 3).trans (jup_ne (by decide))) ?_
        refine j_aload_n 0 dX5_step_74 rfl rfl ?_
        refine j_geti (k' := 0) f_X5_23 o_71_0 dX5_step_75 rfl ?_
        refine j_eq (Eq.trans ((congrFun (congrFun eM_4 71) 0).trans (jup_ne (by decide))) (hf 0 (by decide))) ?_
        refine j_icmp_lt (tgt := 88) dX5_step_78 (by decide) (fun c78_5 => ?_) (fun c78_5 => ?_)
        · skip
          refine j_aload_n 0 dX5_step_88 rfl rfl ?_
          refine j_aload_n 0 dX5_step_89 rfl rfl ?_
          refine j_getr f_X5_11 r_71_1 dX5_step_90 ?_
          refine j_aload_n 0 dX5_step_93 rfl rfl ?_
          refine j_geti (k' := 3) f_X5_32 o_71_3 dX5_step_94 rfl ?_
          refine j_eq ((congrFun (congrFun eM_4 71) 3).trans (jup_ne (by decide))) ?_
          refine j_bald a_72 dX5_step_97 (by omega) (by omega) ?_
          refine j_eq (Eq.trans (congrFun ((congrFun eM_4 72).trans (jup_cell (by decide))) (N13 71 3)) (congrFun (hk 72 (by decide)) (N13 71 3))) ?_
          have g_6 := h_ctext (N13 71 3)
          refine j_sipush dX5_step_98 (by decide) ?_
          refine j_iand dX5_step_101 ?_
          refine j_puti (k' := 2) f_X5_41 o_71_2 dX5_step_102 rfl ?_
          refine j_nmM (fun M_7 eM_7 => ?_)
          have hx := cTx_at hbt (k := N13 71 3) (by omega) (by omega)
          have hy := h_ctext (N13 71 3)
          have htk : (jand (M 72 (N13 71 3)) 255) = b (N13 71 3) := by rw [jand_255 hy, hx]
          refine j_aload_n 0 dX5_step_105 rfl rfl ?_
          refine j_iconst dX5_step_106 (by decide) ?_
          refine j_puti (k' := 4) f_X5_35 o_71_4 dX5_step_107 rfl ?_
          refine j_nmM (fun M_8 eM_8 => ?_)
          refine j_aload_n 0 dX5_step_110 rfl rfl ?_
          refine j_geti (k' := 2) f_X5_41 o_71_2 dX5_step_111 rfl ?_
          refine j_eq (Eq.trans ((congrFun (congrFun eM_8 71) 2).trans (jup_ne (by decide))) ((congrFun (congrFun eM_7 71) 2).trans (jup_self _ _ _ _))) ?_
          refine j_bipush dX5_step_114 (by decide) ?_
          refine j_icmp_lt (tgt := 200) dX5_step_116 (by decide) (fun c116_9 => ?_) (fun c116_9 => ?_)
          · skip
            refine j_aload_n 0 dX5_step_200 rfl rfl ?_
            refine j_geti (k' := 2) f_X5_41 o_71_2 dX5_step_201 rfl ?_
            refine j_eq (Eq.trans ((congrFun (congrFun eM_8 71) 2).trans (jup_ne (by decide))) ((congrFun (congrFun eM_7 71) 2).trans (jup_self _ _ _ _))) ?_
            refine j_bipush dX5_step_204 (by decide) ?_
            refine j_icmp_lt (tgt := 379) dX5_step_206 (by decide) (fun c206_10 => ?_) (fun c206_10 => ?_)
            · skip
              refine j_vret rfl rfl rfl rfl dX5_step_379 ?_
              first | exact fin | exact stP_of (q := N13 71 3) (by rw [eM_8, eM_7, eM_4, jup_ne (by decide)]; exact hp) (by rw [eM_8, eM_7, eM_4, jup_self]) (by rw [eM_8, eM_7, eM_4, jup_ne (by decide)]) (by rw [eM_8, eM_7, eM_4, jup_ne (by decide)]) hsk (by omega) (cTkv_num (by omega) (by omega) hr hstop hv (by omega)) (fun c z => by rw [eM_8, eM_7, eM_4]; (repeat rw [jup_cell z]); exact hk2 c z) (fun k z2 z3 z4 z5 => by rw [eM_8, eM_7, eM_4]; (repeat rw [jup_ne (by omega)]); exact hf2 k z2 z3 z4 z5) | exact stP_of (q := N13 71 3) (tk := jand (M 72 (N13 71 3)) 255) (sz := 1) (by first | (rw [eM_8, eM_7, eM_4]; simp [jup]; done) | (rw [eM_8, eM_7, eM_4]; done)) (by first | (rw [eM_8, eM_7, eM_4]; simp [jup]; done) | (rw [eM_8, eM_7, eM_4]; done)) (by first | (rw [eM_8, eM_7, eM_4]; simp [jup]; done) | (rw [eM_8, eM_7, eM_4]; done)) rfl hsk (by omega) (by rw [htk]; exact cTkv_oth (by omega) (by omega) (by omega)) (fun c z => by rw [eM_8, eM_7, eM_4]; (repeat rw [jup_cell z]); exact hk c z) (fun k z2 z3 z4 z5 => by rw [eM_8, eM_7, eM_4]; (repeat rw [jup_ne (by omega)]); exact hf k z3)
            · skip
              refine j_aload_n 0 dX5_step_209 rfl rfl ?_
              refine j_geti (k' := 2) f_X5_41 o_71_2 dX5_step_210 rfl ?_
              refine j_eq (Eq.trans ((congrFun (congrFun eM_8 71) 2).trans (jup_ne (by decide))) ((congrFun (congrFun eM_7 71) 2).trans (jup_self _ _ _ _))) ?_
              refine j_bipush dX5_step_213 (by decide) ?_
              refine j_icmp_gt (tgt := 379) dX5_step_215 (by decide) (fun c215_11 => ?_) (fun c215_11 => ?_)
              · skip
                refine j_vret rfl rfl rfl rfl dX5_step_379 ?_
                first | exact fin | exact stP_of (q := N13 71 3) (by rw [eM_8, eM_7, eM_4, jup_ne (by decide)]; exact hp) (by rw [eM_8, eM_7, eM_4, jup_self]) (by rw [eM_8, eM_7, eM_4, jup_ne (by decide)]) (by rw [eM_8, eM_7, eM_4, jup_ne (by decide)]) hsk (by omega) (cTkv_num (by omega) (by omega) hr hstop hv (by omega)) (fun c z => by rw [eM_8, eM_7, eM_4]; (repeat rw [jup_cell z]); exact hk2 c z) (fun k z2 z3 z4 z5 => by rw [eM_8, eM_7, eM_4]; (repeat rw [jup_ne (by omega)]); exact hf2 k z2 z3 z4 z5) | exact stP_of (q := N13 71 3) (tk := jand (M 72 (N13 71 3)) 255) (sz := 1) (by first | (rw [eM_8, eM_7, eM_4]; simp [jup]; done) | (rw [eM_8, eM_7, eM_4]; done)) (by first | (rw [eM_8, eM_7, eM_4]; simp [jup]; done) | (rw [eM_8, eM_7, eM_4]; done)) (by first | (rw [eM_8, eM_7, eM_4]; simp [jup]; done) | (rw [eM_8, eM_7, eM_4]; done)) rfl hsk (by omega) (by rw [htk]; exact cTkv_oth (by omega) (by omega) (by omega)) (fun c z => by rw [eM_8, eM_7, eM_4]; (repeat rw [jup_cell z]); exact hk c z) (fun k z2 z3 z4 z5 => by rw [eM_8, eM_7, eM_4]; (repeat rw [jup_ne (by omega)]); exact hf k z3)
              · skip
                refine j_aload_n 0 dX5_step_218 rfl rfl ?_
                refine j_geti (k' := 2) f_X5_41 o_71_2 dX5_step_219 rfl ?_
                refine j_eq (Eq.trans ((congrFun (congrFun eM_8 71) 2).trans (jup_ne (by decide))) ((congrFun (congrFun eM_7 71) 2).trans (jup_self _ _ _ _))) ?_
                refine j_bipush dX5_step_222 (by decide) ?_
                have hJ_12 : ∀ zz : Int, (¬ (jand (M 72 (N13 71 3)) 255) = 48 ∧ zz = 0) ∨ ((jand (M 72 (N13 71 3)) 255) = 48 ∧ zz = 1) → jG D_X5_step X FJ shJ 0 0 (jqV (q_X5_step M b)) 232 [(0, jR 71)] (jI zz :: []) M_8 := by
                  intro t_13 et_13
                  refine j_istore_n (ls' := [(0, jR 71), (1, jI t_13)]) dX5_step_232 rfl (by decide) rfl ?_
                  refine j_aload_n 0 dX5_step_233 rfl rfl ?_
                  refine j_aload_n 0 dX5_step_234 rfl rfl ?_
                  refine j_geti (k' := 2) f_X5_41 o_71_2 dX5_step_235 rfl ?_
                  refine j_eq (Eq.trans ((congrFun (congrFun eM_8 71) 2).trans (jup_ne (by decide))) ((congrFun (congrFun eM_7 71) 2).trans (jup_self _ _ _ _))) ?_
                  refine j_bipush dX5_step_238 (by decide) ?_
                  refine j_isub dX5_step_240 (by omega) ?_
                  refine j_puti (k' := 5) f_X5_68 o_71_5 dX5_step_241 rfl ?_
                  refine j_nmM (fun M_14 eM_14 => ?_)
                  have lp244_15 : ∀ n244 : Nat, ∀ N244 : jM, (N244 71 3 = N13 71 3) ∧ (1 ≤ N244 71 4 ∧ N13 71 3 + N244 71 4 ≤ M 71 0) ∧ (∀ j, N13 71 3 ≤ j → j < N13 71 3 + N244 71 4 → 48 ≤ b j ∧ b j ≤ 57) ∧ (N244 71 5 = min 10000 (nvB b (N13 71 3) (N244 71 4).toNat)) ∧ (∀ c, c ≠ 71 → N244 c = M c) ∧ (∀ k, k ≠ 2 → k ≠ 3 → k ≠ 4 → k ≠ 5 → N244 71 k = M 71 k) → (M 71 0 - (N13 71 3 + N244 71 4)).toNat < n244 → jG D_X5_step X FJ shJ 0 0 (jqV (q_X5_step M b)) 244 [(0, jR 71), (1, jI t_13)] ([]) N244 := by
                    intro n244
                    induction n244 with
                    | zero => intro  N244 _ hz; exact absurd hz (Nat.not_lt_zero _)
                    | succ n244 ih244 =>
                      intro  N244 hinv hm
                      obtain ⟨hp, hs, hr, hv, hk2, hf2⟩ := hinv
                      have hnv := nv_ge0 (b := b) (q := N13 71 3) (N244 71 4).toNat (fun j a c => hr j a (by omega))
                      refine j_aload_n 0 dX5_step_244 rfl rfl ?_
                      refine j_geti (k' := 3) f_X5_32 o_71_3 dX5_step_245 rfl ?_
                      refine j_aload_n 0 dX5_step_248 rfl rfl ?_
                      refine j_geti (k' := 4) f_X5_35 o_71_4 dX5_step_249 rfl ?_
                      refine j_iadd dX5_step_252 (by omega) ?_
                      refine j_aload_n 0 dX5_step_253 rfl rfl ?_
                      refine j_geti (k' := 0) f_X5_23 o_71_0 dX5_step_254 rfl ?_
                      refine j_eq (hf2 0 (by decide) (by decide) (by decide) (by decide)) ?_
                      refine j_icmp_ge (tgt := 346) dX5_step_257 (by decide) (fun c257_16 => ?_) (fun c257_16 => ?_)
                      · skip
                        have hstop : ¬ (48 ≤ b (N13 71 3 + N244 71 4) ∧ b (N13 71 3 + N244 71 4) ≤ 57) := by first | omega | (have hx9 := cTx_out hbt (k := N13 71 3 + N244 71 4) (by omega); omega)
                        refine j_aload_n 0 dX5_step_346 rfl rfl ?_
                        refine j_aload_n 0 dX5_step_347 rfl rfl ?_
                        refine j_geti (k' := 5) f_X5_68 o_71_5 dX5_step_348 rfl ?_
                        refine j_sipush dX5_step_351 (by decide) ?_
                        have hJ_17 : ∀ zz : Int, (9999 < (N244 71 5) ∧ zz = (-4)) ∨ (¬ (9999 < (N244 71 5)) ∧ t_13 = 0 ∧ zz = (-2)) ∨ (¬ (9999 < (N244 71 5)) ∧ ¬ t_13 = 0 ∧ (N244 71 4) ≤ 1 ∧ zz = (-2)) ∨ (¬ (9999 < (N244 71 5)) ∧ ¬ t_13 = 0 ∧ ¬ ((N244 71 4) ≤ 1) ∧ zz = (-4)) → jG D_X5_step X FJ shJ 0 0 (jqV (q_X5_step M b)) 376 [(0, jR 71), (1, jI t_13)] (jI zz :: jR 71 :: []) N244 := by
                          intro t_18 et_18
                          refine j_puti (k' := 2) f_X5_41 o_71_2 dX5_step_376 rfl ?_
                          refine j_nmM (fun M_19 eM_19 => ?_)
                          refine j_vret rfl rfl rfl rfl dX5_step_379 ?_
                          first | exact fin | exact stP_of (q := N13 71 3) (by rw [eM_19, jup_ne (by decide)]; exact hp) (by rw [eM_19, jup_self]) (by rw [eM_19, jup_ne (by decide)]) (by rw [eM_19, jup_ne (by decide)]) hsk (by omega) (cTkv_num (by omega) (by omega) hr hstop hv (by omega)) (fun c z => by rw [eM_19]; (repeat rw [jup_cell z]); exact hk2 c z) (fun k z2 z3 z4 z5 => by rw [eM_19]; (repeat rw [jup_ne (by omega)]); exact hf2 k z2 z3 z4 z5) | exact stP_of (q := N13 71 3) (tk := jand (M 72 (N13 71 3)) 255) (sz := 1) (by first | (rw [eM_19]; simp [jup]; done) | (rw [eM_19]; done)) (by first | (rw [eM_19]; simp [jup]; done) | (rw [eM_19]; done)) (by first | (rw [eM_19]; simp [jup]; done) | (rw [eM_19]; done)) rfl hsk (by omega) (by rw [htk]; exact cTkv_oth (by omega) (by omega) (by omega)) (fun c z => by rw [eM_19]; (repeat rw [jup_cell z]); exact hk c z) (fun k z2 z3 z4 z5 => by rw [eM_19]; (repeat rw [jup_ne (by omega)]); exact hf k z3)
                        refine j_icmp_gt (tgt := 369) dX5_step_354 (by decide) (fun c354_20 => ?_) (fun c354_20 => ?_)
                        · skip
                          refine j_bipush dX5_step_369 (by decide) ?_
                          refine j_goto (tgt := 376) dX5_step_371 (by decide) ?_
                          exact hJ_17 _ (Or.inl ⟨c354_20, rfl⟩)
                        · skip
                          refine j_iload_n 1 dX5_step_357 rfl rfl ?_
                          refine j_if_eq (tgt := 374) dX5_step_358 (by decide) (fun c358_21 => ?_) (fun c358_21 => ?_)
                          · skip
                            refine j_bipush dX5_step_374 (by decide) ?_
                            exact hJ_17 _ (Or.inr (Or.inl ⟨c354_20, c358_21, rfl⟩))
                          · skip
                            refine j_aload_n 0 dX5_step_361 rfl rfl ?_
                            refine j_geti (k' := 4) f_X5_35 o_71_4 dX5_step_362 rfl ?_
                            refine j_iconst dX5_step_365 (by decide) ?_
                            refine j_icmp_le (tgt := 374) dX5_step_366 (by decide) (fun c366_22 => ?_) (fun c366_22 => ?_)
                            · skip
                              refine j_bipush dX5_step_374 (by decide) ?_
                              exact hJ_17 _ (Or.inr (Or.inr (Or.inl ⟨c354_20, c358_21, c366_22, rfl⟩)))
                            · skip
                              refine j_bipush dX5_step_369 (by decide) ?_
                              refine j_goto (tgt := 376) dX5_step_371 (by decide) ?_
                              exact hJ_17 _ (Or.inr (Or.inr (Or.inr (⟨c354_20, c358_21, c366_22, rfl⟩))))
                      · skip
                        have hx1 := cTx_at hbt (k := N13 71 3 + N244 71 4) (by omega) (by omega)
                        have hi1 : M 72 (N244 71 3 + N244 71 4) = M 72 (N13 71 3 + N244 71 4) := by rw [hp]
                        have hy1 := h_ctext (N13 71 3 + N244 71 4)
                        refine j_aload_n 0 dX5_step_260 rfl rfl ?_
                        refine j_getr f_X5_11 r_71_1 dX5_step_261 ?_
                        refine j_aload_n 0 dX5_step_264 rfl rfl ?_
                        refine j_geti (k' := 3) f_X5_32 o_71_3 dX5_step_265 rfl ?_
                        refine j_aload_n 0 dX5_step_268 rfl rfl ?_
                        refine j_geti (k' := 4) f_X5_35 o_71_4 dX5_step_269 rfl ?_
                        refine j_iadd dX5_step_272 (by omega) ?_
                        refine j_bald a_72 dX5_step_273 (by omega) (by omega) ?_
                        refine j_eq (congrFun (hk2 72 (by decide)) ((N244 71 3) + (N244 71 4))) ?_
                        have g_23 := h_ctext ((N244 71 3) + (N244 71 4))
                        refine j_bipush dX5_step_274 (by decide) ?_
                        refine j_icmp_lt (tgt := 346) dX5_step_276 (by decide) (fun c276_24 => ?_) (fun c276_24 => ?_)
                        · skip
                          have hstop : ¬ (48 ≤ b (N13 71 3 + N244 71 4) ∧ b (N13 71 3 + N244 71 4) ≤ 57) := by first | omega | (have hx9 := cTx_out hbt (k := N13 71 3 + N244 71 4) (by omega); omega)
                          refine j_aload_n 0 dX5_step_346 rfl rfl ?_
                          refine j_aload_n 0 dX5_step_347 rfl rfl ?_
                          refine j_geti (k' := 5) f_X5_68 o_71_5 dX5_step_348 rfl ?_
                          refine j_sipush dX5_step_351 (by decide) ?_
                          have hJ_25 : ∀ zz : Int, (9999 < (N244 71 5) ∧ zz = (-4)) ∨ (¬ (9999 < (N244 71 5)) ∧ t_13 = 0 ∧ zz = (-2)) ∨ (¬ (9999 < (N244 71 5)) ∧ ¬ t_13 = 0 ∧ (N244 71 4) ≤ 1 ∧ zz = (-2)) ∨ (¬ (9999 < (N244 71 5)) ∧ ¬ t_13 = 0 ∧ ¬ ((N244 71 4) ≤ 1) ∧ zz = (-4)) → jG D_X5_step X FJ shJ 0 0 (jqV (q_X5_step M b)) 376 [(0, jR 71), (1, jI t_13)] (jI zz :: jR 71 :: []) N244 := by
                            intro t_26 et_26
                            refine j_puti (k' := 2) f_X5_41 o_71_2 dX5_step_376 rfl ?_
                            refine j_nmM (fun M_27 eM_27 => ?_)
                            refine j_vret rfl rfl rfl rfl dX5_step_379 ?_
                            first | exact fin | exact stP_of (q := N13 71 3) (by rw [eM_27, jup_ne (by decide)]; exact hp) (by rw [eM_27, jup_self]) (by rw [eM_27, jup_ne (by decide)]) (by rw [eM_27, jup_ne (by decide)]) hsk (by omega) (cTkv_num (by omega) (by omega) hr hstop hv (by omega)) (fun c z => by rw [eM_27]; (repeat rw [jup_cell z]); exact hk2 c z) (fun k z2 z3 z4 z5 => by rw [eM_27]; (repeat rw [jup_ne (by omega)]); exact hf2 k z2 z3 z4 z5) | exact stP_of (q := N13 71 3) (tk := jand (M 72 (N13 71 3)) 255) (sz := 1) (by first | (rw [eM_27]; simp [jup]; done) | (rw [eM_27]; done)) (by first | (rw [eM_27]; simp [jup]; done) | (rw [eM_27]; done)) (by first | (rw [eM_27]; simp [jup]; done) | (rw [eM_27]; done)) rfl hsk (by omega) (by rw [htk]; exact cTkv_oth (by omega) (by omega) (by omega)) (fun c z => by rw [eM_27]; (repeat rw [jup_cell z]); exact hk c z) (fun k z2 z3 z4 z5 => by rw [eM_27]; (repeat rw [jup_ne (by omega)]); exact hf k z3)
                          refine j_icmp_gt (tgt := 369) dX5_step_354 (by decide) (fun c354_28 => ?_) (fun c354_28 => ?_)
                          · skip
                            refine j_bipush dX5_step_369 (by decide) ?_
                            refine j_goto (tgt := 376) dX5_step_371 (by decide) ?_
                            exact hJ_25 _ (Or.inl ⟨c354_28, rfl⟩)
                          · skip
                            refine j_iload_n 1 dX5_step_357 rfl rfl ?_
                            refine j_if_eq (tgt := 374) dX5_step_358 (by decide) (fun c358_29 => ?_) (fun c358_29 => ?_)
                            · skip
                              refine j_bipush dX5_step_374 (by decide) ?_
                              exact hJ_25 _ (Or.inr (Or.inl ⟨c354_28, c358_29, rfl⟩))
                            · skip
                              refine j_aload_n 0 dX5_step_361 rfl rfl ?_
                              refine j_geti (k' := 4) f_X5_35 o_71_4 dX5_step_362 rfl ?_
                              refine j_iconst dX5_step_365 (by decide) ?_
                              refine j_icmp_le (tgt := 374) dX5_step_366 (by decide) (fun c366_30 => ?_) (fun c366_30 => ?_)
                              · skip
                                refine j_bipush dX5_step_374 (by decide) ?_
                                exact hJ_25 _ (Or.inr (Or.inr (Or.inl ⟨c354_28, c358_29, c366_30, rfl⟩)))
                              · skip
                                refine j_bipush dX5_step_369 (by decide) ?_
                                refine j_goto (tgt := 376) dX5_step_371 (by decide) ?_
                                exact hJ_25 _ (Or.inr (Or.inr (Or.inr (⟨c354_28, c358_29, c366_30, rfl⟩))))
                        · skip
                          refine j_aload_n 0 dX5_step_279 rfl rfl ?_
                          refine j_getr f_X5_11 r_71_1 dX5_step_280 ?_
                          refine j_aload_n 0 dX5_step_283 rfl rfl ?_
                          refine j_geti (k' := 3) f_X5_32 o_71_3 dX5_step_284 rfl ?_
                          refine j_aload_n 0 dX5_step_287 rfl rfl ?_
                          refine j_geti (k' := 4) f_X5_35 o_71_4 dX5_step_288 rfl ?_
                          refine j_iadd dX5_step_291 (by omega) ?_
                          refine j_bald a_72 dX5_step_292 (by omega) (by omega) ?_
                          refine j_eq (congrFun (hk2 72 (by decide)) ((N244 71 3) + (N244 71 4))) ?_
                          have g_31 := h_ctext ((N244 71 3) + (N244 71 4))
                          refine j_bipush dX5_step_293 (by decide) ?_
                          refine j_icmp_gt (tgt := 346) dX5_step_295 (by decide) (fun c295_32 => ?_) (fun c295_32 => ?_)
                          · skip
                            have hstop : ¬ (48 ≤ b (N13 71 3 + N244 71 4) ∧ b (N13 71 3 + N244 71 4) ≤ 57) := by first | omega | (have hx9 := cTx_out hbt (k := N13 71 3 + N244 71 4) (by omega); omega)
                            refine j_aload_n 0 dX5_step_346 rfl rfl ?_
                            refine j_aload_n 0 dX5_step_347 rfl rfl ?_
                            refine j_geti (k' := 5) f_X5_68 o_71_5 dX5_step_348 rfl ?_
                            refine j_sipush dX5_step_351 (by decide) ?_
                            have hJ_33 : ∀ zz : Int, (9999 < (N244 71 5) ∧ zz = (-4)) ∨ (¬ (9999 < (N244 71 5)) ∧ t_13 = 0 ∧ zz = (-2)) ∨ (¬ (9999 < (N244 71 5)) ∧ ¬ t_13 = 0 ∧ (N244 71 4) ≤ 1 ∧ zz = (-2)) ∨ (¬ (9999 < (N244 71 5)) ∧ ¬ t_13 = 0 ∧ ¬ ((N244 71 4) ≤ 1) ∧ zz = (-4)) → jG D_X5_step X FJ shJ 0 0 (jqV (q_X5_step M b)) 376 [(0, jR 71), (1, jI t_13)] (jI zz :: jR 71 :: []) N244 := by
                              intro t_34 et_34
                              refine j_puti (k' := 2) f_X5_41 o_71_2 dX5_step_376 rfl ?_
                              refine j_nmM (fun M_35 eM_35 => ?_)
                              refine j_vret rfl rfl rfl rfl dX5_step_379 ?_
                              first | exact fin | exact stP_of (q := N13 71 3) (by rw [eM_35, jup_ne (by decide)]; exact hp) (by rw [eM_35, jup_self]) (by rw [eM_35, jup_ne (by decide)]) (by rw [eM_35, jup_ne (by decide)]) hsk (by omega) (cTkv_num (by omega) (by omega) hr hstop hv (by omega)) (fun c z => by rw [eM_35]; (repeat rw [jup_cell z]); exact hk2 c z) (fun k z2 z3 z4 z5 => by rw [eM_35]; (repeat rw [jup_ne (by omega)]); exact hf2 k z2 z3 z4 z5) | exact stP_of (q := N13 71 3) (tk := jand (M 72 (N13 71 3)) 255) (sz := 1) (by first | (rw [eM_35]; simp [jup]; done) | (rw [eM_35]; done)) (by first | (rw [eM_35]; simp [jup]; done) | (rw [eM_35]; done)) (by first | (rw [eM_35]; simp [jup]; done) | (rw [eM_35]; done)) rfl hsk (by omega) (by rw [htk]; exact cTkv_oth (by omega) (by omega) (by omega)) (fun c z => by rw [eM_35]; (repeat rw [jup_cell z]); exact hk c z) (fun k z2 z3 z4 z5 => by rw [eM_35]; (repeat rw [jup_ne (by omega)]); exact hf k z3)
                            refine j_icmp_gt (tgt := 369) dX5_step_354 (by decide) (fun c354_36 => ?_) (fun c354_36 => ?_)
                            · skip
                              refine j_bipush dX5_step_369 (by decide) ?_
                              refine j_goto (tgt := 376) dX5_step_371 (by decide) ?_
                              exact hJ_33 _ (Or.inl ⟨c354_36, rfl⟩)
                            · skip
                              refine j_iload_n 1 dX5_step_357 rfl rfl ?_
                              refine j_if_eq (tgt := 374) dX5_step_358 (by decide) (fun c358_37 => ?_) (fun c358_37 => ?_)
                              · skip
                                refine j_bipush dX5_step_374 (by decide) ?_
                                exact hJ_33 _ (Or.inr (Or.inl ⟨c354_36, c358_37, rfl⟩))
                              · skip
                                refine j_aload_n 0 dX5_step_361 rfl rfl ?_
                                refine j_geti (k' := 4) f_X5_35 o_71_4 dX5_step_362 rfl ?_
                                refine j_iconst dX5_step_365 (by decide) ?_
                                refine j_icmp_le (tgt := 374) dX5_step_366 (by decide) (fun c366_38 => ?_) (fun c366_38 => ?_)
                                · skip
                                  refine j_bipush dX5_step_374 (by decide) ?_
                                  exact hJ_33 _ (Or.inr (Or.inr (Or.inl ⟨c354_36, c358_37, c366_38, rfl⟩)))
                                · skip
                                  refine j_bipush dX5_step_369 (by decide) ?_
                                  refine j_goto (tgt := 376) dX5_step_371 (by decide) ?_
                                  exact hJ_33 _ (Or.inr (Or.inr (Or.inr (⟨c354_36, c358_37, c366_38, rfl⟩))))
                          · skip
                            refine j_aload_n 0 dX5_step_298 rfl rfl ?_
                            refine j_sipush dX5_step_299 (by decide) ?_
                            refine j_aload_n 0 dX5_step_302 rfl rfl ?_
                            refine j_geti (k' := 5) f_X5_68 o_71_5 dX5_step_303 rfl ?_
                            refine j_bipush dX5_step_306 (by decide) ?_
                            refine j_imul dX5_step_308 (by omega) ?_
                            refine j_aload_n 0 dX5_step_309 rfl rfl ?_
                            refine j_getr f_X5_11 r_71_1 dX5_step_310 ?_
                            refine j_aload_n 0 dX5_step_313 rfl rfl ?_
                            refine j_geti (k' := 3) f_X5_32 o_71_3 dX5_step_314 rfl ?_
                            refine j_aload_n 0 dX5_step_317 rfl rfl ?_
                            refine j_geti (k' := 4) f_X5_35 o_71_4 dX5_step_318 rfl ?_
                            refine j_iadd dX5_step_321 (by omega) ?_
                            refine j_bald a_72 dX5_step_322 (by omega) (by omega) ?_
                            refine j_eq (congrFun (hk2 72 (by decide)) ((N244 71 3) + (N244 71 4))) ?_
                            have g_39 := h_ctext ((N244 71 3) + (N244 71 4))
                            refine j_iadd dX5_step_323 (by omega) ?_
                            refine j_bipush dX5_step_324 (by decide) ?_
                            refine j_isub dX5_step_326 (by omega) ?_
                            refine j_mmin lm_X5_71 lm_min ⟨Nat.le_of_ble_eq_true rfl, Nat.le_of_ble_eq_true rfl⟩ ⟨Nat.le_of_ble_eq_true rfl, Nat.le_of_ble_eq_true rfl⟩ dX5_step_327 ?_
                            refine j_puti (k' := 5) f_X5_68 o_71_5 dX5_step_330 rfl ?_
                            refine j_nmM (fun M_40 eM_40 => ?_)
                            refine j_aload_n 0 dX5_step_333 rfl rfl ?_
                            refine j_dup dX5_step_334 rfl ?_
                            refine j_geti (k' := 4) f_X5_35 o_71_4 dX5_step_335 rfl ?_
                            refine j_eq ((congrFun (congrFun eM_40 71) 4).trans (jup_ne (by decide))) ?_
                            refine j_iconst dX5_step_338 (by decide) ?_
                            refine j_iadd dX5_step_339 (by omega) ?_
                            refine j_puti (k' := 4) f_X5_35 o_71_4 dX5_step_340 rfl ?_
                            refine j_nmM (fun M_41 eM_41 => ?_)
                            refine j_goto (tgt := 244) dX5_step_343 (by decide) ?_
                            exact ih244 M_41 ⟨by rw [eM_41, eM_40]; simp [jup]; exact hp, by rw [show M_41 71 4 = N244 71 4 + 1 by (rw [eM_41, eM_40]; simp [jup])]; omega, by intro j a c; rw [show M_41 71 4 = N244 71 4 + 1 by (rw [eM_41, eM_40]; simp [jup])] at c; by_cases hj : j = N13 71 3 + N244 71 4; (· rw [hj]; omega); (· exact hr j a (by omega)), by rw [show M_41 71 4 = N244 71 4 + 1 by (rw [eM_41, eM_40]; simp [jup]), toNat_s (by omega)]; unfold nvB; rw [toNat_c (by omega), eM_41, eM_40, jup_ne (by decide), jup_self]; omega, by intro c z; rw [eM_41, eM_40]; (repeat rw [jup_cell z]); exact hk2 c z, by intro k z2 z3 z4 z5; rw [eM_41, eM_40]; (repeat rw [jup_ne (by omega)]); exact hf2 k z2 z3 z4 z5⟩ (by rw [show M_41 71 4 = N244 71 4 + 1 by (rw [eM_41, eM_40]; simp [jup])]; omega)
                  exact lp244_15 _ M_14 ⟨by rw [eM_14, eM_8, eM_7, eM_4]; simp [jup], by rw [show M_14 71 4 = 1 by (rw [eM_14, eM_8, eM_7, eM_4]; simp [jup])]; omega, by intro j a c; rw [show M_14 71 4 = 1 by (rw [eM_14, eM_8, eM_7, eM_4]; simp [jup])] at c; rw [show j = N13 71 3 by omega]; omega, by rw [show M_14 71 4 = 1 by (rw [eM_14, eM_8, eM_7, eM_4]; simp [jup]), eM_14, eM_8, eM_7, eM_4, jup_self]; (show _ = min 10000 (10 * 0 + (b (N13 71 3 + ((0 : Nat) : Int)) - 48))); rw [show N13 71 3 + ((0 : Nat) : Int) = N13 71 3 by omega]; omega, by intro c z; rw [eM_14, eM_8, eM_7, eM_4]; (repeat rw [jup_cell z]); exact hk c z, by intro k z2 z3 z4 z5; rw [eM_14, eM_8, eM_7, eM_4]; (repeat rw [jup_ne (by omega)]); exact hf k z3⟩ (Nat.lt_succ_self _)
                refine j_icmp_ne (tgt := 231) dX5_step_224 (by decide) (fun c224_42 => ?_) (fun c224_42 => ?_)
                · skip
                  refine j_iconst dX5_step_231 (by decide) ?_
                  exact hJ_12 _ (Or.inl ⟨c224_42, rfl⟩)
                · skip
                  refine j_iconst dX5_step_227 (by decide) ?_
                  refine j_goto (tgt := 232) dX5_step_228 (by decide) ?_
                  exact hJ_12 _ (Or.inr (⟨c224_42, rfl⟩))
          · skip
            refine j_aload_n 0 dX5_step_119 rfl rfl ?_
            refine j_geti (k' := 2) f_X5_41 o_71_2 dX5_step_120 rfl ?_
            refine j_eq (Eq.trans ((congrFun (congrFun eM_8 71) 2).trans (jup_ne (by decide))) ((congrFun (congrFun eM_7 71) 2).trans (jup_self _ _ _ _))) ?_
            refine j_bipush dX5_step_123 (by decide) ?_
            refine j_icmp_gt (tgt := 200) dX5_step_125 (by decide) (fun c125_43 => ?_) (fun c125_43 => ?_)
            · skip
              refine j_aload_n 0 dX5_step_200 rfl rfl ?_
              refine j_geti (k' := 2) f_X5_41 o_71_2 dX5_step_201 rfl ?_
              refine j_eq (Eq.trans ((congrFun (congrFun eM_8 71) 2).trans (jup_ne (by decide))) ((congrFun (congrFun eM_7 71) 2).trans (jup_self _ _ _ _))) ?_
              refine j_bipush dX5_step_204 (by decide) ?_
              refine j_icmp_lt (tgt := 379) dX5_step_206 (by decide) (fun c206_44 => ?_) (fun c206_44 => ?_)
              · skip
                refine j_vret rfl rfl rfl rfl dX5_step_379 ?_
                first | exact fin | exact stP_of (q := N13 71 3) (by rw [eM_8, eM_7, eM_4, jup_ne (by decide)]; exact hp) (by rw [eM_8, eM_7, eM_4, jup_self]) (by rw [eM_8, eM_7, eM_4, jup_ne (by decide)]) (by rw [eM_8, eM_7, eM_4, jup_ne (by decide)]) hsk (by omega) (cTkv_num (by omega) (by omega) hr hstop hv (by omega)) (fun c z => by rw [eM_8, eM_7, eM_4]; (repeat rw [jup_cell z]); exact hk2 c z) (fun k z2 z3 z4 z5 => by rw [eM_8, eM_7, eM_4]; (repeat rw [jup_ne (by omega)]); exact hf2 k z2 z3 z4 z5) | exact stP_of (q := N13 71 3) (tk := jand (M 72 (N13 71 3)) 255) (sz := 1) (by first | (rw [eM_8, eM_7, eM_4]; simp [jup]; done) | (rw [eM_8, eM_7, eM_4]; done)) (by first | (rw [eM_8, eM_7, eM_4]; simp [jup]; done) | (rw [eM_8, eM_7, eM_4]; done)) (by first | (rw [eM_8, eM_7, eM_4]; simp [jup]; done) | (rw [eM_8, eM_7, eM_4]; done)) rfl hsk (by omega) (by rw [htk]; exact cTkv_oth (by omega) (by omega) (by omega)) (fun c z => by rw [eM_8, eM_7, eM_4]; (repeat rw [jup_cell z]); exact hk c z) (fun k z2 z3 z4 z5 => by rw [eM_8, eM_7, eM_4]; (repeat rw [jup_ne (by omega)]); exact hf k z3)
              · skip
                refine j_aload_n 0 dX5_step_209 rfl rfl ?_
                refine j_geti (k' := 2) f_X5_41 o_71_2 dX5_step_210 rfl ?_
                refine j_eq (Eq.trans ((congrFun (congrFun eM_8 71) 2).trans (jup_ne (by decide))) ((congrFun (congrFun eM_7 71) 2).trans (jup_self _ _ _ _))) ?_
                refine j_bipush dX5_step_213 (by decide) ?_
                refine j_icmp_gt (tgt := 379) dX5_step_215 (by decide) (fun c215_45 => ?_) (fun c215_45 => ?_)
                · skip
                  refine j_vret rfl rfl rfl rfl dX5_step_379 ?_
                  first | exact fin | exact stP_of (q := N13 71 3) (by rw [eM_8, eM_7, eM_4, jup_ne (by decide)]; exact hp) (by rw [eM_8, eM_7, eM_4, jup_self]) (by rw [eM_8, eM_7, eM_4, jup_ne (by decide)]) (by rw [eM_8, eM_7, eM_4, jup_ne (by decide)]) hsk (by omega) (cTkv_num (by omega) (by omega) hr hstop hv (by omega)) (fun c z => by rw [eM_8, eM_7, eM_4]; (repeat rw [jup_cell z]); exact hk2 c z) (fun k z2 z3 z4 z5 => by rw [eM_8, eM_7, eM_4]; (repeat rw [jup_ne (by omega)]); exact hf2 k z2 z3 z4 z5) | exact stP_of (q := N13 71 3) (tk := jand (M 72 (N13 71 3)) 255) (sz := 1) (by first | (rw [eM_8, eM_7, eM_4]; simp [jup]; done) | (rw [eM_8, eM_7, eM_4]; done)) (by first | (rw [eM_8, eM_7, eM_4]; simp [jup]; done) | (rw [eM_8, eM_7, eM_4]; done)) (by first | (rw [eM_8, eM_7, eM_4]; simp [jup]; done) | (rw [eM_8, eM_7, eM_4]; done)) rfl hsk (by omega) (by rw [htk]; exact cTkv_oth (by omega) (by omega) (by omega)) (fun c z => by rw [eM_8, eM_7, eM_4]; (repeat rw [jup_cell z]); exact hk c z) (fun k z2 z3 z4 z5 => by rw [eM_8, eM_7, eM_4]; (repeat rw [jup_ne (by omega)]); exact hf k z3)
                · skip
                  refine j_aload_n 0 dX5_step_218 rfl rfl ?_
                  refine j_geti (k' := 2) f_X5_41 o_71_2 dX5_step_219 rfl ?_
                  refine j_eq (Eq.trans ((congrFun (congrFun eM_8 71) 2).trans (jup_ne (by decide))) ((congrFun (congrFun eM_7 71) 2).trans (jup_self _ _ _ _))) ?_
                  refine j_bipush dX5_step_222 (by decide) ?_
                  have hJ_46 : ∀ zz : Int, (¬ (jand (M 72 (N13 71 3)) 255) = 48 ∧ zz = 0) ∨ ((jand (M 72 (N13 71 3)) 255) = 48 ∧ zz = 1) → jG D_X5_step X FJ shJ 0 0 (jqV (q_X5_step M b)) 232 [(0, jR 71)] (jI zz :: []) M_8 := by
                    intro t_47 et_47
                    refine j_istore_n (ls' := [(0, jR 71), (1, jI t_47)]) dX5_step_232 rfl (by decide) rfl ?_
                    refine j_aload_n 0 dX5_step_233 rfl rfl ?_
                    refine j_aload_n 0 dX5_step_234 rfl rfl ?_
                    refine j_geti (k' := 2) f_X5_41 o_71_2 dX5_step_235 rfl ?_
                    refine j_eq (Eq.trans ((congrFun (congrFun eM_8 71) 2).trans (jup_ne (by decide))) ((congrFun (congrFun eM_7 71) 2).trans (jup_self _ _ _ _))) ?_
                    refine j_bipush dX5_step_238 (by decide) ?_
                    refine j_isub dX5_step_240 (by omega) ?_
                    refine j_puti (k' := 5) f_X5_68 o_71_5 dX5_step_241 rfl ?_
                    refine j_nmM (fun M_48 eM_48 => ?_)
                    have lp244_49 : ∀ n244 : Nat, ∀ N244 : jM, (N244 71 3 = N13 71 3) ∧ (1 ≤ N244 71 4 ∧ N13 71 3 + N244 71 4 ≤ M 71 0) ∧ (∀ j, N13 71 3 ≤ j → j < N13 71 3 + N244 71 4 → 48 ≤ b j ∧ b j ≤ 57) ∧ (N244 71 5 = min 10000 (nvB b (N13 71 3) (N244 71 4).toNat)) ∧ (∀ c, c ≠ 71 → N244 c = M c) ∧ (∀ k, k ≠ 2 → k ≠ 3 → k ≠ 4 → k ≠ 5 → N244 71 k = M 71 k) → (M 71 0 - (N13 71 3 + N244 71 4)).toNat < n244 → jG D_X5_step X FJ shJ 0 0 (jqV (q_X5_step M b)) 244 [(0, jR 71), (1, jI t_47)] ([]) N244 := by
                      intro n244
                      induction n244 with
                      | zero => intro  N244 _ hz; exact absurd hz (Nat.not_lt_zero _)
                      | succ n244 ih244 =>
                        intro  N244 hinv hm
                        obtain ⟨hp, hs, hr, hv, hk2, hf2⟩ := hinv
                        have hnv := nv_ge0 (b := b) (q := N13 71 3) (N244 71 4).toNat (fun j a c => hr j a (by omega))
                        refine j_aload_n 0 dX5_step_244 rfl rfl ?_
                        refine j_geti (k' := 3) f_X5_32 o_71_3 dX5_step_245 rfl ?_
                        refine j_aload_n 0 dX5_step_248 rfl rfl ?_
                        refine j_geti (k' := 4) f_X5_35 o_71_4 dX5_step_249 rfl ?_
                        refine j_iadd dX5_step_252 (by omega) ?_
                        refine j_aload_n 0 dX5_step_253 rfl rfl ?_
                        refine j_geti (k' := 0) f_X5_23 o_71_0 dX5_step_254 rfl ?_
                        refine j_eq (hf2 0 (by decide) (by decide) (by decide) (by decide)) ?_
                        refine j_icmp_ge (tgt := 346) dX5_step_257 (by decide) (fun c257_50 => ?_) (fun c257_50 => ?_)
                        · skip
                          have hstop : ¬ (48 ≤ b (N13 71 3 + N244 71 4) ∧ b (N13 71 3 + N244 71 4) ≤ 57) := by first | omega | (have hx9 := cTx_out hbt (k := N13 71 3 + N244 71 4) (by omega); omega)
                          refine j_aload_n 0 dX5_step_346 rfl rfl ?_
                          refine j_aload_n 0 dX5_step_347 rfl rfl ?_
                          refine j_geti (k' := 5) f_X5_68 o_71_5 dX5_step_348 rfl ?_
                          refine j_sipush dX5_step_351 (by decide) ?_
                          have hJ_51 : ∀ zz : Int, (9999 < (N244 71 5) ∧ zz = (-4)) ∨ (¬ (9999 < (N244 71 5)) ∧ t_47 = 0 ∧ zz = (-2)) ∨ (¬ (9999 < (N244 71 5)) ∧ ¬ t_47 = 0 ∧ (N244 71 4) ≤ 1 ∧ zz = (-2)) ∨ (¬ (9999 < (N244 71 5)) ∧ ¬ t_47 = 0 ∧ ¬ ((N244 71 4) ≤ 1) ∧ zz = (-4)) → jG D_X5_step X FJ shJ 0 0 (jqV (q_X5_step M b)) 376 [(0, jR 71), (1, jI t_47)] (jI zz :: jR 71 :: []) N244 := by
                            intro t_52 et_52
                            refine j_puti (k' := 2) f_X5_41 o_71_2 dX5_step_376 rfl ?_
                            refine j_nmM (fun M_53 eM_53 => ?_)
                            refine j_vret rfl rfl rfl rfl dX5_step_379 ?_
                            first | exact fin | exact stP_of (q := N13 71 3) (by rw [eM_53, jup_ne (by decide)]; exact hp) (by rw [eM_53, jup_self]) (by rw [eM_53, jup_ne (by decide)]) (by rw [eM_53, jup_ne (by decide)]) hsk (by omega) (cTkv_num (by omega) (by omega) hr hstop hv (by omega)) (fun c z => by rw [eM_53]; (repeat rw [jup_cell z]); exact hk2 c z) (fun k z2 z3 z4 z5 => by rw [eM_53]; (repeat rw [jup_ne (by omega)]); exact hf2 k z2 z3 z4 z5) | exact stP_of (q := N13 71 3) (tk := jand (M 72 (N13 71 3)) 255) (sz := 1) (by first | (rw [eM_53]; simp [jup]; done) | (rw [eM_53]; done)) (by first | (rw [eM_53]; simp [jup]; done) | (rw [eM_53]; done)) (by first | (rw [eM_53]; simp [jup]; done) | (rw [eM_53]; done)) rfl hsk (by omega) (by rw [htk]; exact cTkv_oth (by omega) (by omega) (by omega)) (fun c z => by rw [eM_53]; (repeat rw [jup_cell z]); exact hk c z) (fun k z2 z3 z4 z5 => by rw [eM_53]; (repeat rw [jup_ne (by omega)]); exact hf k z3)
                          refine j_icmp_gt (tgt := 369) dX5_step_354 (by decide) (fun c354_54 => ?_) (fun c354_54 => ?_)
                          · skip
                            refine j_bipush dX5_step_369 (by decide) ?_
                            refine j_goto (tgt := 376) dX5_step_371 (by decide) ?_
                            exact hJ_51 _ (Or.inl ⟨c354_54, rfl⟩)
                          · skip
                            refine j_iload_n 1 dX5_step_357 rfl rfl ?_
                            refine j_if_eq (tgt := 374) dX5_step_358 (by decide) (fun c358_55 => ?_) (fun c358_55 => ?_)
                            · skip
                              refine j_bipush dX5_step_374 (by decide) ?_
                              exact hJ_51 _ (Or.inr (Or.inl ⟨c354_54, c358_55, rfl⟩))
                            · skip
                              refine j_aload_n 0 dX5_step_361 rfl rfl ?_
                              refine j_geti (k' := 4) f_X5_35 o_71_4 dX5_step_362 rfl ?_
                              refine j_iconst dX5_step_365 (by decide) ?_
                              refine j_icmp_le (tgt := 374) dX5_step_366 (by decide) (fun c366_56 => ?_) (fun c366_56 => ?_)
                              · skip
                                refine j_bipush dX5_step_374 (by decide) ?_
                                exact hJ_51 _ (Or.inr (Or.inr (Or.inl ⟨c354_54, c358_55, c366_56, rfl⟩)))
                              · skip
                                refine j_bipush dX5_step_369 (by decide) ?_
                                refine j_goto (tgt := 376) dX5_step_371 (by decide) ?_
                                exact hJ_51 _ (Or.inr (Or.inr (Or.inr (⟨c354_54, c358_55, c366_56, rfl⟩))))
                        · skip
                          have hx1 := cTx_at hbt (k := N13 71 3 + N244 71 4) (by omega) (by omega)
                          have hi1 : M 72 (N244 71 3 + N244 71 4) = M 72 (N13 71 3 + N244 71 4) := by rw [hp]
                          have hy1 := h_ctext (N13 71 3 + N244 71 4)
                          refine j_aload_n 0 dX5_step_260 rfl rfl ?_
                          refine j_getr f_X5_11 r_71_1 dX5_step_261 ?_
                          refine j_aload_n 0 dX5_step_264 rfl rfl ?_
                          refine j_geti (k' := 3) f_X5_32 o_71_3 dX5_step_265 rfl ?_
                          refine j_aload_n 0 dX5_step_268 rfl rfl ?_
                          refine j_geti (k' := 4) f_X5_35 o_71_4 dX5_step_269 rfl ?_
                          refine j_iadd dX5_step_272 (by omega) ?_
                          refine j_bald a_72 dX5_step_273 (by omega) (by omega) ?_
                          refine j_eq (congrFun (hk2 72 (by decide)) ((N244 71 3) + (N244 71 4))) ?_
                          have g_57 := h_ctext ((N244 71 3) + (N244 71 4))
                          refine j_bipush dX5_step_274 (by decide) ?_
                          refine j_icmp_lt (tgt := 346) dX5_step_276 (by decide) (fun c276_58 => ?_) (fun c276_58 => ?_)
                          · skip
                            have hstop : ¬ (48 ≤ b (N13 71 3 + N244 71 4) ∧ b (N13 71 3 + N244 71 4) ≤ 57) := by first | omega | (have hx9 := cTx_out hbt (k := N13 71 3 + N244 71 4) (by omega); omega)
                            refine j_aload_n 0 dX5_step_346 rfl rfl ?_
                            refine j_aload_n 0 dX5_step_347 rfl rfl ?_
                            refine j_geti (k' := 5) f_X5_68 o_71_5 dX5_step_348 rfl ?_
                            refine j_sipush dX5_step_351 (by decide) ?_
                            have hJ_59 : ∀ zz : Int, (9999 < (N244 71 5) ∧ zz = (-4)) ∨ (¬ (9999 < (N244 71 5)) ∧ t_47 = 0 ∧ zz = (-2)) ∨ (¬ (9999 < (N244 71 5)) ∧ ¬ t_47 = 0 ∧ (N244 71 4) ≤ 1 ∧ zz = (-2)) ∨ (¬ (9999 < (N244 71 5)) ∧ ¬ t_47 = 0 ∧ ¬ ((N244 71 4) ≤ 1) ∧ zz = (-4)) → jG D_X5_step X FJ shJ 0 0 (jqV (q_X5_step M b)) 376 [(0, jR 71), (1, jI t_47)] (jI zz :: jR 71 :: []) N244 := by
                              intro t_60 et_60
                              refine j_puti (k' := 2) f_X5_41 o_71_2 dX5_step_376 rfl ?_
                              refine j_nmM (fun M_61 eM_61 => ?_)
                              refine j_vret rfl rfl rfl rfl dX5_step_379 ?_
                              first | exact fin | exact stP_of (q := N13 71 3) (by rw [eM_61, jup_ne (by decide)]; exact hp) (by rw [eM_61, jup_self]) (by rw [eM_61, jup_ne (by decide)]) (by rw [eM_61, jup_ne (by decide)]) hsk (by omega) (cTkv_num (by omega) (by omega) hr hstop hv (by omega)) (fun c z => by rw [eM_61]; (repeat rw [jup_cell z]); exact hk2 c z) (fun k z2 z3 z4 z5 => by rw [eM_61]; (repeat rw [jup_ne (by omega)]); exact hf2 k z2 z3 z4 z5) | exact stP_of (q := N13 71 3) (tk := jand (M 72 (N13 71 3)) 255) (sz := 1) (by first | (rw [eM_61]; simp [jup]; done) | (rw [eM_61]; done)) (by first | (rw [eM_61]; simp [jup]; done) | (rw [eM_61]; done)) (by first | (rw [eM_61]; simp [jup]; done) | (rw [eM_61]; done)) rfl hsk (by omega) (by rw [htk]; exact cTkv_oth (by omega) (by omega) (by omega)) (fun c z => by rw [eM_61]; (repeat rw [jup_cell z]); exact hk c z) (fun k z2 z3 z4 z5 => by rw [eM_61]; (repeat rw [jup_ne (by omega)]); exact hf k z3)
                            refine j_icmp_gt (tgt := 369) dX5_step_354 (by decide) (fun c354_62 => ?_) (fun c354_62 => ?_)
                            · skip
                              refine j_bipush dX5_step_369 (by decide) ?_
                              refine j_goto (tgt := 376) dX5_step_371 (by decide) ?_
                              exact hJ_59 _ (Or.inl ⟨c354_62, rfl⟩)
                            · skip
                              refine j_iload_n 1 dX5_step_357 rfl rfl ?_
                              refine j_if_eq (tgt := 374) dX5_step_358 (by decide) (fun c358_63 => ?_) (fun c358_63 => ?_)
                              · skip
                                refine j_bipush dX5_step_374 (by decide) ?_
                                exact hJ_59 _ (Or.inr (Or.inl ⟨c354_62, c358_63, rfl⟩))
                              · skip
                                refine j_aload_n 0 dX5_step_361 rfl rfl ?_
                                refine j_geti (k' := 4) f_X5_35 o_71_4 dX5_step_362 rfl ?_
                                refine j_iconst dX5_step_365 (by decide) ?_
                                refine j_icmp_le (tgt := 374) dX5_step_366 (by decide) (fun c366_64 => ?_) (fun c366_64 => ?_)
                                · skip
                                  refine j_bipush dX5_step_374 (by decide) ?_
                                  exact hJ_59 _ (Or.inr (Or.inr (Or.inl ⟨c354_62, c358_63, c366_64, rfl⟩)))
                                · skip
                                  refine j_bipush dX5_step_369 (by decide) ?_
                                  refine j_goto (tgt := 376) dX5_step_371 (by decide) ?_
                                  exact hJ_59 _ (Or.inr (Or.inr (Or.inr (⟨c354_62, c358_63, c366_64, rfl⟩))))
                          · skip
                            refine j_aload_n 0 dX5_step_279 rfl rfl ?_
                            refine j_getr f_X5_11 r_71_1 dX5_step_280 ?_
                            refine j_aload_n 0 dX5_step_283 rfl rfl ?_
                            refine j_geti (k' := 3) f_X5_32 o_71_3 dX5_step_284 rfl ?_
                            refine j_aload_n 0 dX5_step_287 rfl rfl ?_
                            refine j_geti (k' := 4) f_X5_35 o_71_4 dX5_step_288 rfl ?_
                            refine j_iadd dX5_step_291 (by omega) ?_
                            refine j_bald a_72 dX5_step_292 (by omega) (by omega) ?_
                            refine j_eq (congrFun (hk2 72 (by decide)) ((N244 71 3) + (N244 71 4))) ?_
                            have g_65 := h_ctext ((N244 71 3) + (N244 71 4))
                            refine j_bipush dX5_step_293 (by decide) ?_
                            refine j_icmp_gt (tgt := 346) dX5_step_295 (by decide) (fun c295_66 => ?_) (fun c295_66 => ?_)
                            · skip
                              have hstop : ¬ (48 ≤ b (N13 71 3 + N244 71 4) ∧ b (N13 71 3 + N244 71 4) ≤ 57) := by first | omega | (have hx9 := cTx_out hbt (k := N13 71 3 + N244 71 4) (by omega); omega)
                              refine j_aload_n 0 dX5_step_346 rfl rfl ?_
                              refine j_aload_n 0 dX5_step_347 rfl rfl ?_
                              refine j_geti (k' := 5) f_X5_68 o_71_5 dX5_step_348 rfl ?_
                              refine j_sipush dX5_step_351 (by decide) ?_
                              have hJ_67 : ∀ zz : Int, (9999 < (N244 71 5) ∧ zz = (-4)) ∨ (¬ (9999 < (N244 71 5)) ∧ t_47 = 0 ∧ zz = (-2)) ∨ (¬ (9999 < (N244 71 5)) ∧ ¬ t_47 = 0 ∧ (N244 71 4) ≤ 1 ∧ zz = (-2)) ∨ (¬ (9999 < (N244 71 5)) ∧ ¬ t_47 = 0 ∧ ¬ ((N244 71 4) ≤ 1) ∧ zz = (-4)) → jG D_X5_step X FJ shJ 0 0 (jqV (q_X5_step M b)) 376 [(0, jR 71), (1, jI t_47)] (jI zz :: jR 71 :: []) N244 := by
                                intro t_68 et_68
                                refine j_puti (k' := 2) f_X5_41 o_71_2 dX5_step_376 rfl ?_
                                refine j_nmM (fun M_69 eM_69 => ?_)
                                refine j_vret rfl rfl rfl rfl dX5_step_379 ?_
                                first | exact fin | exact stP_of (q := N13 71 3) (by rw [eM_69, jup_ne (by decide)]; exact hp) (by rw [eM_69, jup_self]) (by rw [eM_69, jup_ne (by decide)]) (by rw [eM_69, jup_ne (by decide)]) hsk (by omega) (cTkv_num (by omega) (by omega) hr hstop hv (by omega)) (fun c z => by rw [eM_69]; (repeat rw [jup_cell z]); exact hk2 c z) (fun k z2 z3 z4 z5 => by rw [eM_69]; (repeat rw [jup_ne (by omega)]); exact hf2 k z2 z3 z4 z5) | exact stP_of (q := N13 71 3) (tk := jand (M 72 (N13 71 3)) 255) (sz := 1) (by first | (rw [eM_69]; simp [jup]; done) | (rw [eM_69]; done)) (by first | (rw [eM_69]; simp [jup]; done) | (rw [eM_69]; done)) (by first | (rw [eM_69]; simp [jup]; done) | (rw [eM_69]; done)) rfl hsk (by omega) (by rw [htk]; exact cTkv_oth (by omega) (by omega) (by omega)) (fun c z => by rw [eM_69]; (repeat rw [jup_cell z]); exact hk c z) (fun k z2 z3 z4 z5 => by rw [eM_69]; (repeat rw [jup_ne (by omega)]); exact hf k z3)
                              refine j_icmp_gt (tgt := 369) dX5_step_354 (by decide) (fun c354_70 => ?_) (fun c354_70 => ?_)
                              · skip
                                refine j_bipush dX5_step_369 (by decide) ?_
                                refine j_goto (tgt := 376) dX5_step_371 (by decide) ?_
                                exact hJ_67 _ (Or.inl ⟨c354_70, rfl⟩)
                              · skip
                                refine j_iload_n 1 dX5_step_357 rfl rfl ?_
                                refine j_if_eq (tgt := 374) dX5_step_358 (by decide) (fun c358_71 => ?_) (fun c358_71 => ?_)
                                · skip
                                  refine j_bipush dX5_step_374 (by decide) ?_
                                  exact hJ_67 _ (Or.inr (Or.inl ⟨c354_70, c358_71, rfl⟩))
                                · skip
                                  refine j_aload_n 0 dX5_step_361 rfl rfl ?_
                                  refine j_geti (k' := 4) f_X5_35 o_71_4 dX5_step_362 rfl ?_
                                  refine j_iconst dX5_step_365 (by decide) ?_
                                  refine j_icmp_le (tgt := 374) dX5_step_366 (by decide) (fun c366_72 => ?_) (fun c366_72 => ?_)
                                  · skip
                                    refine j_bipush dX5_step_374 (by decide) ?_
                                    exact hJ_67 _ (Or.inr (Or.inr (Or.inl ⟨c354_70, c358_71, c366_72, rfl⟩)))
                                  · skip
                                    refine j_bipush dX5_step_369 (by decide) ?_
                                    refine j_goto (tgt := 376) dX5_step_371 (by decide) ?_
                                    exact hJ_67 _ (Or.inr (Or.inr (Or.inr (⟨c354_70, c358_71, c366_72, rfl⟩))))
                            · skip
                              refine j_aload_n 0 dX5_step_298 rfl rfl ?_
                              refine j_sipush dX5_step_299 (by decide) ?_
                              refine j_aload_n 0 dX5_step_302 rfl rfl ?_
                              refine j_geti (k' := 5) f_X5_68 o_71_5 dX5_step_303 rfl ?_
                              refine j_bipush dX5_step_306 (by decide) ?_
                              refine j_imul dX5_step_308 (by omega) ?_
                              refine j_aload_n 0 dX5_step_309 rfl rfl ?_
                              refine j_getr f_X5_11 r_71_1 dX5_step_310 ?_
                              refine j_aload_n 0 dX5_step_313 rfl rfl ?_
                              refine j_geti (k' := 3) f_X5_32 o_71_3 dX5_step_314 rfl ?_
                              refine j_aload_n 0 dX5_step_317 rfl rfl ?_
                              refine j_geti (k' := 4) f_X5_35 o_71_4 dX5_step_318 rfl ?_
                              refine j_iadd dX5_step_321 (by omega) ?_
                              refine j_bald a_72 dX5_step_322 (by omega) (by omega) ?_
                              refine j_eq (congrFun (hk2 72 (by decide)) ((N244 71 3) + (N244 71 4))) ?_
                              have g_73 := h_ctext ((N244 71 3) + (N244 71 4))
                              refine j_iadd dX5_step_323 (by omega) ?_
                              refine j_bipush dX5_step_324 (by decide) ?_
                              refine j_isub dX5_step_326 (by omega) ?_
                              refine j_mmin lm_X5_71 lm_min ⟨Nat.le_of_ble_eq_true rfl, Nat.le_of_ble_eq_true rfl⟩ ⟨Nat.le_of_ble_eq_true rfl, Nat.le_of_ble_eq_true rfl⟩ dX5_step_327 ?_
                              refine j_puti (k' := 5) f_X5_68 o_71_5 dX5_step_330 rfl ?_
                              refine j_nmM (fun M_74 eM_74 => ?_)
                              refine j_aload_n 0 dX5_step_333 rfl rfl ?_
                              refine j_dup dX5_step_334 rfl ?_
                              refine j_geti (k' := 4) f_X5_35 o_71_4 dX5_step_335 rfl ?_
                              refine j_eq ((congrFun (congrFun eM_74 71) 4).trans (jup_ne (by decide))) ?_
                              refine j_iconst dX5_step_338 (by decide) ?_
                              refine j_iadd dX5_step_339 (by omega) ?_
                              refine j_puti (k' := 4) f_X5_35 o_71_4 dX5_step_340 rfl ?_
                              refine j_nmM (fun M_75 eM_75 => ?_)
                              refine j_goto (tgt := 244) dX5_step_343 (by decide) ?_
                              exact ih244 M_75 ⟨by rw [eM_75, eM_74]; simp [jup]; exact hp, by rw [show M_75 71 4 = N244 71 4 + 1 by (rw [eM_75, eM_74]; simp [jup])]; omega, by intro j a c; rw [show M_75 71 4 = N244 71 4 + 1 by (rw [eM_75, eM_74]; simp [jup])] at c; by_cases hj : j = N13 71 3 + N244 71 4; (· rw [hj]; omega); (· exact hr j a (by omega)), by rw [show M_75 71 4 = N244 71 4 + 1 by (rw [eM_75, eM_74]; simp [jup]), toNat_s (by omega)]; unfold nvB; rw [toNat_c (by omega), eM_75, eM_74, jup_ne (by decide), jup_self]; omega, by intro c z; rw [eM_75, eM_74]; (repeat rw [jup_cell z]); exact hk2 c z, by intro k z2 z3 z4 z5; rw [eM_75, eM_74]; (repeat rw [jup_ne (by omega)]); exact hf2 k z2 z3 z4 z5⟩ (by rw [show M_75 71 4 = N244 71 4 + 1 by (rw [eM_75, eM_74]; simp [jup])]; omega)
                    exact lp244_49 _ M_48 ⟨by rw [eM_48, eM_8, eM_7, eM_4]; simp [jup], by rw [show M_48 71 4 = 1 by (rw [eM_48, eM_8, eM_7, eM_4]; simp [jup])]; omega, by intro j a c; rw [show M_48 71 4 = 1 by (rw [eM_48, eM_8, eM_7, eM_4]; simp [jup])] at c; rw [show j = N13 71 3 by omega]; omega, by rw [show M_48 71 4 = 1 by (rw [eM_48, eM_8, eM_7, eM_4]; simp [jup]), eM_48, eM_8, eM_7, eM_4, jup_self]; (show _ = min 10000 (10 * 0 + (b (N13 71 3 + ((0 : Nat) : Int)) - 48))); rw [show N13 71 3 + ((0 : Nat) : Int) = N13 71 3 by omega]; omega, by intro c z; rw [eM_48, eM_8, eM_7, eM_4]; (repeat rw [jup_cell z]); exact hk c z, by intro k z2 z3 z4 z5; rw [eM_48, eM_8, eM_7, eM_4]; (repeat rw [jup_ne (by omega)]); exact hf k z3⟩ (Nat.lt_succ_self _)
                  refine j_icmp_ne (tgt := 231) dX5_step_224 (by decide) (fun c224_76 => ?_) (fun c224_76 => ?_)
                  · skip
                    refine j_iconst dX5_step_231 (by decide) ?_
                    exact hJ_46 _ (Or.inl ⟨c224_76, rfl⟩)
                  · skip
                    refine j_iconst dX5_step_227 (by decide) ?_
                    refine j_goto (tgt := 232) dX5_step_228 (by decide) ?_
                    exact hJ_46 _ (Or.inr (⟨c224_76, rfl⟩))
            · skip
              refine j_aload_n 0 dX5_step_128 rfl rfl ?_
              refine j_iconst dX5_step_129 (by decide) ?_
              refine j_puti (k' := 2) f_X5_41 o_71_2 dX5_step_130 rfl ?_
              refine j_nmM (fun M_77 eM_77 => ?_)
              have lp133_78 : ∀ n133 : Nat, ∀ N133 : jM, (N133 71 3 = N13 71 3) ∧ (N133 71 2 = -1) ∧ (1 ≤ N133 71 4 ∧ N13 71 3 + N133 71 4 ≤ M 71 0) ∧ (∀ j, N13 71 3 ≤ j → j < N13 71 3 + N133 71 4 → 97 ≤ b j ∧ b j ≤ 122) ∧ (∀ c, c ≠ 71 → N133 c = M c) ∧ (∀ k, k ≠ 2 → k ≠ 3 → k ≠ 4 → k ≠ 5 → N133 71 k = M 71 k) → (M 71 0 - (N13 71 3 + N133 71 4)).toNat < n133 → jG D_X5_step X FJ shJ 0 0 (jqV (q_X5_step M b)) 133 [(0, jR 71)] ([]) N133 := by
                intro n133
                induction n133 with
                | zero => intro  N133 _ hz; exact absurd hz (Nat.not_lt_zero _)
                | succ n133 ih133 =>
                  intro  N133 hinv hm
                  obtain ⟨hp, ht, hs, hr, hk1, hf1⟩ := hinv
                  refine j_aload_n 0 dX5_step_133 rfl rfl ?_
                  refine j_geti (k' := 3) f_X5_32 o_71_3 dX5_step_134 rfl ?_
                  refine j_aload_n 0 dX5_step_137 rfl rfl ?_
                  refine j_geti (k' := 4) f_X5_35 o_71_4 dX5_step_138 rfl ?_
                  refine j_iadd dX5_step_141 (by omega) ?_
                  refine j_aload_n 0 dX5_step_142 rfl rfl ?_
                  refine j_geti (k' := 0) f_X5_23 o_71_0 dX5_step_143 rfl ?_
                  refine j_eq (hf1 0 (by decide) (by decide) (by decide) (by decide)) ?_
                  refine j_icmp_ge (tgt := 379) dX5_step_146 (by decide) (fun c146_79 => ?_) (fun c146_79 => ?_)
                  · skip
                    have fin : stP b M N133 := stP_of hp ht rfl rfl hsk (by omega) (cTkv_word (by omega) (by omega) hr (by first | omega | (have hx9 := cTx_out hbt (k := N13 71 3 + N133 71 4) (by omega); omega))) hk1 hf1
                    refine j_vret rfl rfl rfl rfl dX5_step_379 ?_
                    first | exact fin | exact stP_of (q := N13 71 3) (by rw [jup_zz, jup_ne (by decide)]; exact hp) (by rw [jup_zz, jup_self]) (by rw [jup_zz, jup_ne (by decide)]) (by rw [jup_zz, jup_ne (by decide)]) hsk (by omega) (cTkv_num (by omega) (by omega) hr hstop hv (by omega)) (fun c z => by rw [jup_zz]; (repeat rw [jup_cell z]); exact hk2 c z) (fun k z2 z3 z4 z5 => by rw [jup_zz]; (repeat rw [jup_ne (by omega)]); exact hf2 k z2 z3 z4 z5) | exact stP_of (q := N13 71 3) (tk := jand (M 72 (N13 71 3)) 255) (sz := 1) (by first | (rw [jup_zz]; simp [jup]; done) | (rw [jup_zz]; done)) (by first | (rw [jup_zz]; simp [jup]; done) | (rw [jup_zz]; done)) (by first | (rw [jup_zz]; simp [jup]; done) | (rw [jup_zz]; done)) rfl hsk (by omega) (by rw [htk]; exact cTkv_oth (by omega) (by omega) (by omega)) (fun c z => by rw [jup_zz]; (repeat rw [jup_cell z]); exact hk c z) (fun k z2 z3 z4 z5 => by rw [jup_zz]; (repeat rw [jup_ne (by omega)]); exact hf k z3)
                  · skip
                    have hx1 := cTx_at hbt (k := N13 71 3 + N133 71 4) (by omega) (by omega)
                    have hi1 : M 72 (N133 71 3 + N133 71 4) = M 72 (N13 71 3 + N133 71 4) := by rw [hp]
                    have hy1 := h_ctext (N13 71 3 + N133 71 4)
                    refine j_aload_n 0 dX5_step_149 rfl rfl ?_
                    refine j_getr f_X5_11 r_71_1 dX5_step_150 ?_
                    refine j_aload_n 0 dX5_step_153 rfl rfl ?_
                    refine j_geti (k' := 3) f_X5_32 o_71_3 dX5_step_154 rfl ?_
                    refine j_aload_n 0 dX5_step_157 rfl rfl ?_
                    refine j_geti (k' := 4) f_X5_35 o_71_4 dX5_step_158 rfl ?_
                    refine j_iadd dX5_step_161 (by omega) ?_
                    refine j_bald a_72 dX5_step_162 (by omega) (by omega) ?_
                    refine j_eq (congrFun (hk1 72 (by decide)) ((N133 71 3) + (N133 71 4))) ?_
                    have g_80 := h_ctext ((N133 71 3) + (N133 71 4))
                    refine j_bipush dX5_step_163 (by decide) ?_
                    refine j_icmp_lt (tgt := 379) dX5_step_165 (by decide) (fun c165_81 => ?_) (fun c165_81 => ?_)
                    · skip
                      have fin : stP b M N133 := stP_of hp ht rfl rfl hsk (by omega) (cTkv_word (by omega) (by omega) hr (by first | omega | (have hx9 := cTx_out hbt (k := N13 71 3 + N133 71 4) (by omega); omega))) hk1 hf1
                      refine j_vret rfl rfl rfl rfl dX5_step_379 ?_
                      first | exact fin | exact stP_of (q := N13 71 3) (by rw [jup_zz, jup_ne (by decide)]; exact hp) (by rw [jup_zz, jup_self]) (by rw [jup_zz, jup_ne (by decide)]) (by rw [jup_zz, jup_ne (by decide)]) hsk (by omega) (cTkv_num (by omega) (by omega) hr hstop hv (by omega)) (fun c z => by rw [jup_zz]; (repeat rw [jup_cell z]); exact hk2 c z) (fun k z2 z3 z4 z5 => by rw [jup_zz]; (repeat rw [jup_ne (by omega)]); exact hf2 k z2 z3 z4 z5) | exact stP_of (q := N13 71 3) (tk := jand (M 72 (N13 71 3)) 255) (sz := 1) (by first | (rw [jup_zz]; simp [jup]; done) | (rw [jup_zz]; done)) (by first | (rw [jup_zz]; simp [jup]; done) | (rw [jup_zz]; done)) (by first | (rw [jup_zz]; simp [jup]; done) | (rw [jup_zz]; done)) rfl hsk (by omega) (by rw [htk]; exact cTkv_oth (by omega) (by omega) (by omega)) (fun c z => by rw [jup_zz]; (repeat rw [jup_cell z]); exact hk c z) (fun k z2 z3 z4 z5 => by rw [jup_zz]; (repeat rw [jup_ne (by omega)]); exact hf k z3)
                    · skip
                      refine j_aload_n 0 dX5_step_168 rfl rfl ?_
                      refine j_getr f_X5_11 r_71_1 dX5_step_169 ?_
                      refine j_aload_n 0 dX5_step_172 rfl rfl ?_
                      refine j_geti (k' := 3) f_X5_32 o_71_3 dX5_step_173 rfl ?_
                      refine j_aload_n 0 dX5_step_176 rfl rfl ?_
                      refine j_geti (k' := 4) f_X5_35 o_71_4 dX5_step_177 rfl ?_
                      refine j_iadd dX5_step_180 (by omega) ?_
                      refine j_bald a_72 dX5_step_181 (by omega) (by omega) ?_
                      refine j_eq (congrFun (hk1 72 (by decide)) ((N133 71 3) + (N133 71 4))) ?_
                      have g_82 := h_ctext ((N133 71 3) + (N133 71 4))
                      refine j_bipush dX5_step_182 (by decide) ?_
                      refine j_icmp_gt (tgt := 379) dX5_step_184 (by decide) (fun c184_83 => ?_) (fun c184_83 => ?_)
                      · skip
                        have fin : stP b M N133 := stP_of hp ht rfl rfl hsk (by omega) (cTkv_word (by omega) (by omega) hr (by first | omega | (have hx9 := cTx_out hbt (k := N13 71 3 + N133 71 4) (by omega); omega))) hk1 hf1
                        refine j_vret rfl rfl rfl rfl dX5_step_379 ?_
                        first | exact fin | exact stP_of (q := N13 71 3) (by rw [jup_zz, jup_ne (by decide)]; exact hp) (by rw [jup_zz, jup_self]) (by rw [jup_zz, jup_ne (by decide)]) (by rw [jup_zz, jup_ne (by decide)]) hsk (by omega) (cTkv_num (by omega) (by omega) hr hstop hv (by omega)) (fun c z => by rw [jup_zz]; (repeat rw [jup_cell z]); exact hk2 c z) (fun k z2 z3 z4 z5 => by rw [jup_zz]; (repeat rw [jup_ne (by omega)]); exact hf2 k z2 z3 z4 z5) | exact stP_of (q := N13 71 3) (tk := jand (M 72 (N13 71 3)) 255) (sz := 1) (by first | (rw [jup_zz]; simp [jup]; done) | (rw [jup_zz]; done)) (by first | (rw [jup_zz]; simp [jup]; done) | (rw [jup_zz]; done)) (by first | (rw [jup_zz]; simp [jup]; done) | (rw [jup_zz]; done)) rfl hsk (by omega) (by rw [htk]; exact cTkv_oth (by omega) (by omega) (by omega)) (fun c z => by rw [jup_zz]; (repeat rw [jup_cell z]); exact hk c z) (fun k z2 z3 z4 z5 => by rw [jup_zz]; (repeat rw [jup_ne (by omega)]); exact hf k z3)
                      · skip
                        refine j_aload_n 0 dX5_step_187 rfl rfl ?_
                        refine j_dup dX5_step_188 rfl ?_
                        refine j_geti (k' := 4) f_X5_35 o_71_4 dX5_step_189 rfl ?_
                        refine j_iconst dX5_step_192 (by decide) ?_
                        refine j_iadd dX5_step_193 (by omega) ?_
                        refine j_puti (k' := 4) f_X5_35 o_71_4 dX5_step_194 rfl ?_
                        refine j_nmM (fun M_84 eM_84 => ?_)
                        refine j_goto (tgt := 133) dX5_step_197 (by decide) ?_
                        exact ih133 M_84 ⟨by rw [eM_84, jup_ne (by decide)]; exact hp, by rw [eM_84, jup_ne (by decide)]; exact ht, by rw [eM_84, jup_self]; omega, by intro j a c; rw [eM_84, jup_self] at c; by_cases hj : j = N13 71 3 + N133 71 4; (· rw [hj]; omega); (· exact hr j a (by omega)), by intro c z; rw [eM_84, jup_cell z]; exact hk1 c z, by intro k z2 z3 z4 z5; rw [eM_84, jup_ne (by omega)]; exact hf1 k z2 z3 z4 z5⟩ (by rw [eM_84, jup_self]; omega)
              exact lp133_78 _ M_77 ⟨by rw [eM_77, eM_8, eM_7, eM_4]; simp [jup], by rw [eM_77, eM_8, eM_7, eM_4]; simp [jup], by rw [show M_77 71 4 = 1 by (rw [eM_77, eM_8, eM_7, eM_4]; simp [jup])]; omega, by intro j a c; rw [show M_77 71 4 = 1 by (rw [eM_77, eM_8, eM_7, eM_4]; simp [jup])] at c; rw [show j = N13 71 3 by omega]; omega, by intro c z; rw [eM_77, eM_8, eM_7, eM_4]; (repeat rw [jup_cell z]); exact hk c z, by intro k z2 z3 z4 z5; rw [eM_77, eM_8, eM_7, eM_4]; (repeat rw [jup_ne (by omega)]); exact hf k z3⟩ (Nat.lt_succ_self _)
        · skip
          refine j_aload_n 0 dX5_step_81 rfl rfl ?_
          refine j_bipush dX5_step_82 (by decide) ?_
          refine j_puti (k' := 2) f_X5_41 o_71_2 dX5_step_84 rfl ?_
          refine j_nmM (fun M_85 eM_85 => ?_)
          refine j_vret rfl rfl rfl rfl dX5_step_87 ?_
          exact stP_of (q := N13 71 3) (tk := -3) (sz := 0) (by first | (rw [eM_85, eM_4]; simp [jup]; done) | (rw [eM_85, eM_4]; done)) (by first | (rw [eM_85, eM_4]; simp [jup]; done) | (rw [eM_85, eM_4]; done)) (by first | (rw [eM_85, eM_4]; simp [jup]; done) | (rw [eM_85, eM_4]; done)) rfl hsk (by omega) (cTkv_end (cTx_out hbt (by omega))) (fun c z => by rw [eM_85, eM_4]; (repeat rw [jup_cell z]); exact hk c z) (fun k z2 z3 z4 z5 => by rw [eM_85, eM_4]; (repeat rw [jup_ne (by omega)]); exact hf k z3)
      · skip
        have hx := cTx_at hbt (k := N13 71 3) (by omega) (by omega)
        have hy := h_ctext (N13 71 3)
        refine j_aload_n 0 dX5_step_24 rfl rfl ?_
        refine j_getr f_X5_11 r_71_1 dX5_step_25 ?_
        refine j_aload_n 0 dX5_step_28 rfl rfl ?_
        refine j_geti (k' := 3) f_X5_32 o_71_3 dX5_step_29 rfl ?_
        refine j_bald a_72 dX5_step_32 (by omega) (by omega) ?_
        refine j_eq (congrFun (hk 72 (by decide)) (N13 71 3)) ?_
        have g_86 := h_ctext (N13 71 3)
        refine j_bipush dX5_step_33 (by decide) ?_
        refine j_icmp_eq (tgt := 52) dX5_step_35 (by decide) (fun c35_87 => ?_) (fun c35_87 => ?_)
        · skip
          refine j_aload_n 0 dX5_step_52 rfl rfl ?_
          refine j_dup dX5_step_53 rfl ?_
          refine j_geti (k' := 3) f_X5_32 o_71_3 dX5_step_54 rfl ?_
          refine j_iconst dX5_step_57 (by decide) ?_
          refine j_iadd dX5_step_58 (by omega) ?_
          refine j_puti (k' := 3) f_X5_32 o_71_3 dX5_step_59 rfl ?_
          refine j_nmM (fun M_88 eM_88 => ?_)
          refine j_goto (tgt := 13) dX5_step_62 (by decide) ?_
          exact ih13 M_88 ⟨by rw [eM_88, jup_self]; omega, by intro j a c; rw [eM_88, jup_self] at c; by_cases hj : j = N13 71 3; (· rw [hj]; omega); (· exact h2 j a (by omega)), by intro c z; rw [eM_88, jup_cell z]; exact hk c z, by intro k z; rw [eM_88, jup_ne (by omega)]; exact hf k z⟩ (by rw [eM_88, jup_self]; omega)
        · skip
          refine j_aload_n 0 dX5_step_38 rfl rfl ?_
          refine j_getr f_X5_11 r_71_1 dX5_step_39 ?_
          refine j_aload_n 0 dX5_step_42 rfl rfl ?_
          refine j_geti (k' := 3) f_X5_32 o_71_3 dX5_step_43 rfl ?_
          refine j_bald a_72 dX5_step_46 (by omega) (by omega) ?_
          refine j_eq (congrFun (hk 72 (by decide)) (N13 71 3)) ?_
          have g_89 := h_ctext (N13 71 3)
          refine j_bipush dX5_step_47 (by decide) ?_
          refine j_icmp_ne (tgt := 65) dX5_step_49 (by decide) (fun c49_90 => ?_) (fun c49_90 => ?_)
          · skip
            have hsk : lSk b (M 71 3 + M 71 4) = N13 71 3 := lSk_of (by omega) (by omega) h2 (by first | omega | (have hx9 := cTx_out hbt (k := N13 71 3) (by omega); omega))
            refine j_aload_n 0 dX5_step_65 rfl rfl ?_
            refine j_iconst dX5_step_66 (by decide) ?_
            refine j_puti (k' := 4) f_X5_35 o_71_4 dX5_step_67 rfl ?_
            refine j_nmM (fun M_91 eM_91 => ?_)
            refine j_aload_n 0 dX5_step_70 rfl rfl ?_
            refine j_geti (k' := 3) f_X5_32 o_71_3 dX5_step_71 rfl ?_
            refine j_eq ((congrFun (congrFun eM_91 71) 3).trans (jup_ne (by decide))) ?_
            refine j_aload_n 0 dX5_step_74 rfl rfl ?_
            refine j_geti (k' := 0) f_X5_23 o_71_0 dX5_step_75 rfl ?_
            refine j_eq (Eq.trans ((congrFun (congrFun eM_91 71) 0).trans (jup_ne (by decide))) (hf 0 (by decide))) ?_
            refine j_icmp_lt (tgt := 88) dX5_step_78 (by decide) (fun c78_92 => ?_) (fun c78_92 => ?_)
            · skip
              refine j_aload_n 0 dX5_step_88 rfl rfl ?_
              refine j_aload_n 0 dX5_step_89 rfl rfl ?_
              refine j_getr f_X5_11 r_71_1 dX5_step_90 ?_
              refine j_aload_n 0 dX5_step_93 rfl rfl ?_
              refine j_geti (k' := 3) f_X5_32 o_71_3 dX5_step_94 rfl ?_
              refine j_eq ((congrFun (congrFun eM_91 71) 3).trans (jup_ne (by decide))) ?_
              refine j_bald a_72 dX5_step_97 (by omega) (by omega) ?_
              refine j_eq (Eq.trans (congrFun ((congrFun eM_91 72).trans (jup_cell (by decide))) (N13 71 3)) (congrFun (hk 72 (by decide)) (N13 71 3))) ?_
              have g_93 := h_ctext (N13 71 3)
              refine j_sipush dX5_step_98 (by decide) ?_
              refine j_iand dX5_step_101 ?_
              refine j_puti (k' := 2) f_X5_41 o_71_2 dX5_step_102 rfl ?_
              refine j_nmM (fun M_94 eM_94 => ?_)
              have hx := cTx_at hbt (k := N13 71 3) (by omega) (by omega)
              have hy := h_ctext (N13 71 3)
              have htk : (jand (M 72 (N13 71 3)) 255) = b (N13 71 3) := by rw [jand_255 hy, hx]
              refine j_aload_n 0 dX5_step_105 rfl rfl ?_
              refine j_iconst dX5_step_106 (by decide) ?_
              refine j_puti (k' := 4) f_X5_35 o_71_4 dX5_step_107 rfl ?_
              refine j_nmM (fun M_95 eM_95 => ?_)
              refine j_aload_n 0 dX5_step_110 rfl rfl ?_
              refine j_geti (k' := 2) f_X5_41 o_71_2 dX5_step_111 rfl ?_
              refine j_eq (Eq.trans ((congrFun (congrFun eM_95 71) 2).trans (jup_ne (by decide))) ((congrFun (congrFun eM_94 71) 2).trans (jup_self _ _ _ _))) ?_
              refine j_bipush dX5_step_114 (by decide) ?_
              refine j_icmp_lt (tgt := 200) dX5_step_116 (by decide) (fun c116_96 => ?_) (fun c116_96 => ?_)
              · skip
                refine j_aload_n 0 dX5_step_200 rfl rfl ?_
                refine j_geti (k' := 2) f_X5_41 o_71_2 dX5_step_201 rfl ?_
                refine j_eq (Eq.trans ((congrFun (congrFun eM_95 71) 2).trans (jup_ne (by decide))) ((congrFun (congrFun eM_94 71) 2).trans (jup_self _ _ _ _))) ?_
                refine j_bipush dX5_step_204 (by decide) ?_
                refine j_icmp_lt (tgt := 379) dX5_step_206 (by decide) (fun c206_97 => ?_) (fun c206_97 => ?_)
                · skip
                  refine j_vret rfl rfl rfl rfl dX5_step_379 ?_
                  first | exact fin | exact stP_of (q := N13 71 3) (by rw [eM_95, eM_94, eM_91, jup_ne (by decide)]; exact hp) (by rw [eM_95, eM_94, eM_91, jup_self]) (by rw [eM_95, eM_94, eM_91, jup_ne (by decide)]) (by rw [eM_95, eM_94, eM_91, jup_ne (by decide)]) hsk (by omega) (cTkv_num (by omega) (by omega) hr hstop hv (by omega)) (fun c z => by rw [eM_95, eM_94, eM_91]; (repeat rw [jup_cell z]); exact hk2 c z) (fun k z2 z3 z4 z5 => by rw [eM_95, eM_94, eM_91]; (repeat rw [jup_ne (by omega)]); exact hf2 k z2 z3 z4 z5) | exact stP_of (q := N13 71 3) (tk := jand (M 72 (N13 71 3)) 255) (sz := 1) (by first | (rw [eM_95, eM_94, eM_91]; simp [jup]; done) | (rw [eM_95, eM_94, eM_91]; done)) (by first | (rw [eM_95, eM_94, eM_91]; simp [jup]; done) | (rw [eM_95, eM_94, eM_91]; done)) (by first | (rw [eM_95, eM_94, eM_91]; simp [jup]; done) | (rw [eM_95, eM_94, eM_91]; done)) rfl hsk (by omega) (by rw [htk]; exact cTkv_oth (by omega) (by omega) (by omega)) (fun c z => by rw [eM_95, eM_94, eM_91]; (repeat rw [jup_cell z]); exact hk c z) (fun k z2 z3 z4 z5 => by rw [eM_95, eM_94, eM_91]; (repeat rw [jup_ne (by omega)]); exact hf k z3)
                · skip
                  refine j_aload_n 0 dX5_step_209 rfl rfl ?_
                  refine j_geti (k' := 2) f_X5_41 o_71_2 dX5_step_210 rfl ?_
                  refine j_eq (Eq.trans ((congrFun (congrFun eM_95 71) 2).trans (jup_ne (by decide))) ((congrFun (congrFun eM_94 71) 2).trans (jup_self _ _ _ _))) ?_
                  refine j_bipush dX5_step_213 (by decide) ?_
                  refine j_icmp_gt (tgt := 379) dX5_step_215 (by decide) (fun c215_98 => ?_) (fun c215_98 => ?_)
                  · skip
                    refine j_vret rfl rfl rfl rfl dX5_step_379 ?_
                    first | exact fin | exact stP_of (q := N13 71 3) (by rw [eM_95, eM_94, eM_91, jup_ne (by decide)]; exact hp) (by rw [eM_95, eM_94, eM_91, jup_self]) (by rw [eM_95, eM_94, eM_91, jup_ne (by decide)]) (by rw [eM_95, eM_94, eM_91, jup_ne (by decide)]) hsk (by omega) (cTkv_num (by omega) (by omega) hr hstop hv (by omega)) (fun c z => by rw [eM_95, eM_94, eM_91]; (repeat rw [jup_cell z]); exact hk2 c z) (fun k z2 z3 z4 z5 => by rw [eM_95, eM_94, eM_91]; (repeat rw [jup_ne (by omega)]); exact hf2 k z2 z3 z4 z5) | exact stP_of (q := N13 71 3) (tk := jand (M 72 (N13 71 3)) 255) (sz := 1) (by first | (rw [eM_95, eM_94, eM_91]; simp [jup]; done) | (rw [eM_95, eM_94, eM_91]; done)) (by first | (rw [eM_95, eM_94, eM_91]; simp [jup]; done) | (rw [eM_95, eM_94, eM_91]; done)) (by first | (rw [eM_95, eM_94, eM_91]; simp [jup]; done) | (rw [eM_95, eM_94, eM_91]; done)) rfl hsk (by omega) (by rw [htk]; exact cTkv_oth (by omega) (by omega) (by omega)) (fun c z => by rw [eM_95, eM_94, eM_91]; (repeat rw [jup_cell z]); exact hk c z) (fun k z2 z3 z4 z5 => by rw [eM_95, eM_94, eM_91]; (repeat rw [jup_ne (by omega)]); exact hf k z3)
                  · skip
                    refine j_aload_n 0 dX5_step_218 rfl rfl ?_
                    refine j_geti (k' := 2) f_X5_41 o_71_2 dX5_step_219 rfl ?_
                    refine j_eq (Eq.trans ((congrFun (congrFun eM_95 71) 2).trans (jup_ne (by decide))) ((congrFun (congrFun eM_94 71) 2).trans (jup_self _ _ _ _))) ?_
                    refine j_bipush dX5_step_222 (by decide) ?_
                    have hJ_99 : ∀ zz : Int, (¬ (jand (M 72 (N13 71 3)) 255) = 48 ∧ zz = 0) ∨ ((jand (M 72 (N13 71 3)) 255) = 48 ∧ zz = 1) → jG D_X5_step X FJ shJ 0 0 (jqV (q_X5_step M b)) 232 [(0, jR 71)] (jI zz :: []) M_95 := by
                      intro t_100 et_100
                      refine j_istore_n (ls' := [(0, jR 71), (1, jI t_100)]) dX5_step_232 rfl (by decide) rfl ?_
                      refine j_aload_n 0 dX5_step_233 rfl rfl ?_
                      refine j_aload_n 0 dX5_step_234 rfl rfl ?_
                      refine j_geti (k' := 2) f_X5_41 o_71_2 dX5_step_235 rfl ?_
                      refine j_eq (Eq.trans ((congrFun (congrFun eM_95 71) 2).trans (jup_ne (by decide))) ((congrFun (congrFun eM_94 71) 2).trans (jup_self _ _ _ _))) ?_
                      refine j_bipush dX5_step_238 (by decide) ?_
                      refine j_isub dX5_step_240 (by omega) ?_
                      refine j_puti (k' := 5) f_X5_68 o_71_5 dX5_step_241 rfl ?_
                      refine j_nmM (fun M_101 eM_101 => ?_)
                      have lp244_102 : ∀ n244 : Nat, ∀ N244 : jM, (N244 71 3 = N13 71 3) ∧ (1 ≤ N244 71 4 ∧ N13 71 3 + N244 71 4 ≤ M 71 0) ∧ (∀ j, N13 71 3 ≤ j → j < N13 71 3 + N244 71 4 → 48 ≤ b j ∧ b j ≤ 57) ∧ (N244 71 5 = min 10000 (nvB b (N13 71 3) (N244 71 4).toNat)) ∧ (∀ c, c ≠ 71 → N244 c = M c) ∧ (∀ k, k ≠ 2 → k ≠ 3 → k ≠ 4 → k ≠ 5 → N244 71 k = M 71 k) → (M 71 0 - (N13 71 3 + N244 71 4)).toNat < n244 → jG D_X5_step X FJ shJ 0 0 (jqV (q_X5_step M b)) 244 [(0, jR 71), (1, jI t_100)] ([]) N244 := by
                        intro n244
                        induction n244 with
                        | zero => intro  N244 _ hz; exact absurd hz (Nat.not_lt_zero _)
                        | succ n244 ih244 =>
                          intro  N244 hinv hm
                          obtain ⟨hp, hs, hr, hv, hk2, hf2⟩ := hinv
                          have hnv := nv_ge0 (b := b) (q := N13 71 3) (N244 71 4).toNat (fun j a c => hr j a (by omega))
                          refine j_aload_n 0 dX5_step_244 rfl rfl ?_
                          refine j_geti (k' := 3) f_X5_32 o_71_3 dX5_step_245 rfl ?_
                          refine j_aload_n 0 dX5_step_248 rfl rfl ?_
                          refine j_geti (k' := 4) f_X5_35 o_71_4 dX5_step_249 rfl ?_
                          refine j_iadd dX5_step_252 (by omega) ?_
                          refine j_aload_n 0 dX5_step_253 rfl rfl ?_
                          refine j_geti (k' := 0) f_X5_23 o_71_0 dX5_step_254 rfl ?_
                          refine j_eq (hf2 0 (by decide) (by decide) (by decide) (by decide)) ?_
                          refine j_icmp_ge (tgt := 346) dX5_step_257 (by decide) (fun c257_103 => ?_) (fun c257_103 => ?_)
                          · skip
                            have hstop : ¬ (48 ≤ b (N13 71 3 + N244 71 4) ∧ b (N13 71 3 + N244 71 4) ≤ 57) := by first | omega | (have hx9 := cTx_out hbt (k := N13 71 3 + N244 71 4) (by omega); omega)
                            refine j_aload_n 0 dX5_step_346 rfl rfl ?_
                            refine j_aload_n 0 dX5_step_347 rfl rfl ?_
                            refine j_geti (k' := 5) f_X5_68 o_71_5 dX5_step_348 rfl ?_
                            refine j_sipush dX5_step_351 (by decide) ?_
                            have hJ_104 : ∀ zz : Int, (9999 < (N244 71 5) ∧ zz = (-4)) ∨ (¬ (9999 < (N244 71 5)) ∧ t_100 = 0 ∧ zz = (-2)) ∨ (¬ (9999 < (N244 71 5)) ∧ ¬ t_100 = 0 ∧ (N244 71 4) ≤ 1 ∧ zz = (-2)) ∨ (¬ (9999 < (N244 71 5)) ∧ ¬ t_100 = 0 ∧ ¬ ((N244 71 4) ≤ 1) ∧ zz = (-4)) → jG D_X5_step X FJ shJ 0 0 (jqV (q_X5_step M b)) 376 [(0, jR 71), (1, jI t_100)] (jI zz :: jR 71 :: []) N244 := by
                              intro t_105 et_105
                              refine j_puti (k' := 2) f_X5_41 o_71_2 dX5_step_376 rfl ?_
                              refine j_nmM (fun M_106 eM_106 => ?_)
                              refine j_vret rfl rfl rfl rfl dX5_step_379 ?_
                              first | exact fin | exact stP_of (q := N13 71 3) (by rw [eM_106, jup_ne (by decide)]; exact hp) (by rw [eM_106, jup_self]) (by rw [eM_106, jup_ne (by decide)]) (by rw [eM_106, jup_ne (by decide)]) hsk (by omega) (cTkv_num (by omega) (by omega) hr hstop hv (by omega)) (fun c z => by rw [eM_106]; (repeat rw [jup_cell z]); exact hk2 c z) (fun k z2 z3 z4 z5 => by rw [eM_106]; (repeat rw [jup_ne (by omega)]); exact hf2 k z2 z3 z4 z5) | exact stP_of (q := N13 71 3) (tk := jand (M 72 (N13 71 3)) 255) (sz := 1) (by first | (rw [eM_106]; simp [jup]; done) | (rw [eM_106]; done)) (by first | (rw [eM_106]; simp [jup]; done) | (rw [eM_106]; done)) (by first | (rw [eM_106]; simp [jup]; done) | (rw [eM_106]; done)) rfl hsk (by omega) (by rw [htk]; exact cTkv_oth (by omega) (by omega) (by omega)) (fun c z => by rw [eM_106]; (repeat rw [jup_cell z]); exact hk c z) (fun k z2 z3 z4 z5 => by rw [eM_106]; (repeat rw [jup_ne (by omega)]); exact hf k z3)
                            refine j_icmp_gt (tgt := 369) dX5_step_354 (by decide) (fun c354_107 => ?_) (fun c354_107 => ?_)
                            · skip
                              refine j_bipush dX5_step_369 (by decide) ?_
                              refine j_goto (tgt := 376) dX5_step_371 (by decide) ?_
                              exact hJ_104 _ (Or.inl ⟨c354_107, rfl⟩)
                            · skip
                              refine j_iload_n 1 dX5_step_357 rfl rfl ?_
                              refine j_if_eq (tgt := 374) dX5_step_358 (by decide) (fun c358_108 => ?_) (fun c358_108 => ?_)
                              · skip
                                refine j_bipush dX5_step_374 (by decide) ?_
                                exact hJ_104 _ (Or.inr (Or.inl ⟨c354_107, c358_108, rfl⟩))
                              · skip
                                refine j_aload_n 0 dX5_step_361 rfl rfl ?_
                                refine j_geti (k' := 4) f_X5_35 o_71_4 dX5_step_362 rfl ?_
                                refine j_iconst dX5_step_365 (by decide) ?_
                                refine j_icmp_le (tgt := 374) dX5_step_366 (by decide) (fun c366_109 => ?_) (fun c366_109 => ?_)
                                · skip
                                  refine j_bipush dX5_step_374 (by decide) ?_
                                  exact hJ_104 _ (Or.inr (Or.inr (Or.inl ⟨c354_107, c358_108, c366_109, rfl⟩)))
                                · skip
                                  refine j_bipush dX5_step_369 (by decide) ?_
                                  refine j_goto (tgt := 376) dX5_step_371 (by decide) ?_
                                  exact hJ_104 _ (Or.inr (Or.inr (Or.inr (⟨c354_107, c358_108, c366_109, rfl⟩))))
                          · skip
                            have hx1 := cTx_at hbt (k := N13 71 3 + N244 71 4) (by omega) (by omega)
                            have hi1 : M 72 (N244 71 3 + N244 71 4) = M 72 (N13 71 3 + N244 71 4) := by rw [hp]
                            have hy1 := h_ctext (N13 71 3 + N244 71 4)
                            refine j_aload_n 0 dX5_step_260 rfl rfl ?_
                            refine j_getr f_X5_11 r_71_1 dX5_step_261 ?_
                            refine j_aload_n 0 dX5_step_264 rfl rfl ?_
                            refine j_geti (k' := 3) f_X5_32 o_71_3 dX5_step_265 rfl ?_
                            refine j_aload_n 0 dX5_step_268 rfl rfl ?_
                            refine j_geti (k' := 4) f_X5_35 o_71_4 dX5_step_269 rfl ?_
                            refine j_iadd dX5_step_272 (by omega) ?_
                            refine j_bald a_72 dX5_step_273 (by omega) (by omega) ?_
                            refine j_eq (congrFun (hk2 72 (by decide)) ((N244 71 3) + (N244 71 4))) ?_
                            have g_110 := h_ctext ((N244 71 3) + (N244 71 4))
                            refine j_bipush dX5_step_274 (by decide) ?_
                            refine j_icmp_lt (tgt := 346) dX5_step_276 (by decide) (fun c276_111 => ?_) (fun c276_111 => ?_)
                            · skip
                              have hstop : ¬ (48 ≤ b (N13 71 3 + N244 71 4) ∧ b (N13 71 3 + N244 71 4) ≤ 57) := by first | omega | (have hx9 := cTx_out hbt (k := N13 71 3 + N244 71 4) (by omega); omega)
                              refine j_aload_n 0 dX5_step_346 rfl rfl ?_
                              refine j_aload_n 0 dX5_step_347 rfl rfl ?_
                              refine j_geti (k' := 5) f_X5_68 o_71_5 dX5_step_348 rfl ?_
                              refine j_sipush dX5_step_351 (by decide) ?_
                              have hJ_112 : ∀ zz : Int, (9999 < (N244 71 5) ∧ zz = (-4)) ∨ (¬ (9999 < (N244 71 5)) ∧ t_100 = 0 ∧ zz = (-2)) ∨ (¬ (9999 < (N244 71 5)) ∧ ¬ t_100 = 0 ∧ (N244 71 4) ≤ 1 ∧ zz = (-2)) ∨ (¬ (9999 < (N244 71 5)) ∧ ¬ t_100 = 0 ∧ ¬ ((N244 71 4) ≤ 1) ∧ zz = (-4)) → jG D_X5_step X FJ shJ 0 0 (jqV (q_X5_step M b)) 376 [(0, jR 71), (1, jI t_100)] (jI zz :: jR 71 :: []) N244 := by
                                intro t_113 et_113
                                refine j_puti (k' := 2) f_X5_41 o_71_2 dX5_step_376 rfl ?_
                                refine j_nmM (fun M_114 eM_114 => ?_)
                                refine j_vret rfl rfl rfl rfl dX5_step_379 ?_
                                first | exact fin | exact stP_of (q := N13 71 3) (by rw [eM_114, jup_ne (by decide)]; exact hp) (by rw [eM_114, jup_self]) (by rw [eM_114, jup_ne (by decide)]) (by rw [eM_114, jup_ne (by decide)]) hsk (by omega) (cTkv_num (by omega) (by omega) hr hstop hv (by omega)) (fun c z => by rw [eM_114]; (repeat rw [jup_cell z]); exact hk2 c z) (fun k z2 z3 z4 z5 => by rw [eM_114]; (repeat rw [jup_ne (by omega)]); exact hf2 k z2 z3 z4 z5) | exact stP_of (q := N13 71 3) (tk := jand (M 72 (N13 71 3)) 255) (sz := 1) (by first | (rw [eM_114]; simp [jup]; done) | (rw [eM_114]; done)) (by first | (rw [eM_114]; simp [jup]; done) | (rw [eM_114]; done)) (by first | (rw [eM_114]; simp [jup]; done) | (rw [eM_114]; done)) rfl hsk (by omega) (by rw [htk]; exact cTkv_oth (by omega) (by omega) (by omega)) (fun c z => by rw [eM_114]; (repeat rw [jup_cell z]); exact hk c z) (fun k z2 z3 z4 z5 => by rw [eM_114]; (repeat rw [jup_ne (by omega)]); exact hf k z3)
                              refine j_icmp_gt (tgt := 369) dX5_step_354 (by decide) (fun c354_115 => ?_) (fun c354_115 => ?_)
                              · skip
                                refine j_bipush dX5_step_369 (by decide) ?_
                                refine j_goto (tgt := 376) dX5_step_371 (by decide) ?_
                                exact hJ_112 _ (Or.inl ⟨c354_115, rfl⟩)
                              · skip
                                refine j_iload_n 1 dX5_step_357 rfl rfl ?_
                                refine j_if_eq (tgt := 374) dX5_step_358 (by decide) (fun c358_116 => ?_) (fun c358_116 => ?_)
                                · skip
                                  refine j_bipush dX5_step_374 (by decide) ?_
                                  exact hJ_112 _ (Or.inr (Or.inl ⟨c354_115, c358_116, rfl⟩))
                                · skip
                                  refine j_aload_n 0 dX5_step_361 rfl rfl ?_
                                  refine j_geti (k' := 4) f_X5_35 o_71_4 dX5_step_362 rfl ?_
                                  refine j_iconst dX5_step_365 (by decide) ?_
                                  refine j_icmp_le (tgt := 374) dX5_step_366 (by decide) (fun c366_117 => ?_) (fun c366_117 => ?_)
                                  · skip
                                    refine j_bipush dX5_step_374 (by decide) ?_
                                    exact hJ_112 _ (Or.inr (Or.inr (Or.inl ⟨c354_115, c358_116, c366_117, rfl⟩)))
                                  · skip
                                    refine j_bipush dX5_step_369 (by decide) ?_
                                    refine j_goto (tgt := 376) dX5_step_371 (by decide) ?_
                                    exact hJ_112 _ (Or.inr (Or.inr (Or.inr (⟨c354_115, c358_116, c366_117, rfl⟩))))
                            · skip
                              refine j_aload_n 0 dX5_step_279 rfl rfl ?_
                              refine j_getr f_X5_11 r_71_1 dX5_step_280 ?_
                              refine j_aload_n 0 dX5_step_283 rfl rfl ?_
                              refine j_geti (k' := 3) f_X5_32 o_71_3 dX5_step_284 rfl ?_
                              refine j_aload_n 0 dX5_step_287 rfl rfl ?_
                              refine j_geti (k' := 4) f_X5_35 o_71_4 dX5_step_288 rfl ?_
                              refine j_iadd dX5_step_291 (by omega) ?_
                              refine j_bald a_72 dX5_step_292 (by omega) (by omega) ?_
                              refine j_eq (congrFun (hk2 72 (by decide)) ((N244 71 3) + (N244 71 4))) ?_
                              have g_118 := h_ctext ((N244 71 3) + (N244 71 4))
                              refine j_bipush dX5_step_293 (by decide) ?_
                              refine j_icmp_gt (tgt := 346) dX5_step_295 (by decide) (fun c295_119 => ?_) (fun c295_119 => ?_)
                              · skip
                                have hstop : ¬ (48 ≤ b (N13 71 3 + N244 71 4) ∧ b (N13 71 3 + N244 71 4) ≤ 57) := by first | omega | (have hx9 := cTx_out hbt (k := N13 71 3 + N244 71 4) (by omega); omega)
                                refine j_aload_n 0 dX5_step_346 rfl rfl ?_
                                refine j_aload_n 0 dX5_step_347 rfl rfl ?_
                                refine j_geti (k' := 5) f_X5_68 o_71_5 dX5_step_348 rfl ?_
                                refine j_sipush dX5_step_351 (by decide) ?_
                                have hJ_120 : ∀ zz : Int, (9999 < (N244 71 5) ∧ zz = (-4)) ∨ (¬ (9999 < (N244 71 5)) ∧ t_100 = 0 ∧ zz = (-2)) ∨ (¬ (9999 < (N244 71 5)) ∧ ¬ t_100 = 0 ∧ (N244 71 4) ≤ 1 ∧ zz = (-2)) ∨ (¬ (9999 < (N244 71 5)) ∧ ¬ t_100 = 0 ∧ ¬ ((N244 71 4) ≤ 1) ∧ zz = (-4)) → jG D_X5_step X FJ shJ 0 0 (jqV (q_X5_step M b)) 376 [(0, jR 71), (1, jI t_100)] (jI zz :: jR 71 :: []) N244 := by
                                  intro t_121 et_121
                                  refine j_puti (k' := 2) f_X5_41 o_71_2 dX5_step_376 rfl ?_
                                  refine j_nmM (fun M_122 eM_122 => ?_)
                                  refine j_vret rfl rfl rfl rfl dX5_step_379 ?_
                                  first | exact fin | exact stP_of (q := N13 71 3) (by rw [eM_122, jup_ne (by decide)]; exact hp) (by rw [eM_122, jup_self]) (by rw [eM_122, jup_ne (by decide)]) (by rw [eM_122, jup_ne (by decide)]) hsk (by omega) (cTkv_num (by omega) (by omega) hr hstop hv (by omega)) (fun c z => by rw [eM_122]; (repeat rw [jup_cell z]); exact hk2 c z) (fun k z2 z3 z4 z5 => by rw [eM_122]; (repeat rw [jup_ne (by omega)]); exact hf2 k z2 z3 z4 z5) | exact stP_of (q := N13 71 3) (tk := jand (M 72 (N13 71 3)) 255) (sz := 1) (by first | (rw [eM_122]; simp [jup]; done) | (rw [eM_122]; done)) (by first | (rw [eM_122]; simp [jup]; done) | (rw [eM_122]; done)) (by first | (rw [eM_122]; simp [jup]; done) | (rw [eM_122]; done)) rfl hsk (by omega) (by rw [htk]; exact cTkv_oth (by omega) (by omega) (by omega)) (fun c z => by rw [eM_122]; (repeat rw [jup_cell z]); exact hk c z) (fun k z2 z3 z4 z5 => by rw [eM_122]; (repeat rw [jup_ne (by omega)]); exact hf k z3)
                                refine j_icmp_gt (tgt := 369) dX5_step_354 (by decide) (fun c354_123 => ?_) (fun c354_123 => ?_)
                                · skip
                                  refine j_bipush dX5_step_369 (by decide) ?_
                                  refine j_goto (tgt := 376) dX5_step_371 (by decide) ?_
                                  exact hJ_120 _ (Or.inl ⟨c354_123, rfl⟩)
                                · skip
                                  refine j_iload_n 1 dX5_step_357 rfl rfl ?_
                                  refine j_if_eq (tgt := 374) dX5_step_358 (by decide) (fun c358_124 => ?_) (fun c358_124 => ?_)
                                  · skip
                                    refine j_bipush dX5_step_374 (by decide) ?_
                                    exact hJ_120 _ (Or.inr (Or.inl ⟨c354_123, c358_124, rfl⟩))
                                  · skip
                                    refine j_aload_n 0 dX5_step_361 rfl rfl ?_
                                    refine j_geti (k' := 4) f_X5_35 o_71_4 dX5_step_362 rfl ?_
                                    refine j_iconst dX5_step_365 (by decide) ?_
                                    refine j_icmp_le (tgt := 374) dX5_step_366 (by decide) (fun c366_125 => ?_) (fun c366_125 => ?_)
                                    · skip
                                      refine j_bipush dX5_step_374 (by decide) ?_
                                      exact hJ_120 _ (Or.inr (Or.inr (Or.inl ⟨c354_123, c358_124, c366_125, rfl⟩)))
                                    · skip
                                      refine j_bipush dX5_step_369 (by decide) ?_
                                      refine j_goto (tgt := 376) dX5_step_371 (by decide) ?_
                                      exact hJ_120 _ (Or.inr (Or.inr (Or.inr (⟨c354_123, c358_124, c366_125, rfl⟩))))
                              · skip
                                refine j_aload_n 0 dX5_step_298 rfl rfl ?_
                                refine j_sipush dX5_step_299 (by decide) ?_
                                refine j_aload_n 0 dX5_step_302 rfl rfl ?_
                                refine j_geti (k' := 5) f_X5_68 o_71_5 dX5_step_303 rfl ?_
                                refine j_bipush dX5_step_306 (by decide) ?_
                                refine j_imul dX5_step_308 (by omega) ?_
                                refine j_aload_n 0 dX5_step_309 rfl rfl ?_
                                refine j_getr f_X5_11 r_71_1 dX5_step_310 ?_
                                refine j_aload_n 0 dX5_step_313 rfl rfl ?_
                                refine j_geti (k' := 3) f_X5_32 o_71_3 dX5_step_314 rfl ?_
                                refine j_aload_n 0 dX5_step_317 rfl rfl ?_
                                refine j_geti (k' := 4) f_X5_35 o_71_4 dX5_step_318 rfl ?_
                                refine j_iadd dX5_step_321 (by omega) ?_
                                refine j_bald a_72 dX5_step_322 (by omega) (by omega) ?_
                                refine j_eq (congrFun (hk2 72 (by decide)) ((N244 71 3) + (N244 71 4))) ?_
                                have g_126 := h_ctext ((N244 71 3) + (N244 71 4))
                                refine j_iadd dX5_step_323 (by omega) ?_
                                refine j_bipush dX5_step_324 (by decide) ?_
                                refine j_isub dX5_step_326 (by omega) ?_
                                refine j_mmin lm_X5_71 lm_min ⟨Nat.le_of_ble_eq_true rfl, Nat.le_of_ble_eq_true rfl⟩ ⟨Nat.le_of_ble_eq_true rfl, Nat.le_of_ble_eq_true rfl⟩ dX5_step_327 ?_
                                refine j_puti (k' := 5) f_X5_68 o_71_5 dX5_step_330 rfl ?_
                                refine j_nmM (fun M_127 eM_127 => ?_)
                                refine j_aload_n 0 dX5_step_333 rfl rfl ?_
                                refine j_dup dX5_step_334 rfl ?_
                                refine j_geti (k' := 4) f_X5_35 o_71_4 dX5_step_335 rfl ?_
                                refine j_eq ((congrFun (congrFun eM_127 71) 4).trans (jup_ne (by decide))) ?_
                                refine j_iconst dX5_step_338 (by decide) ?_
                                refine j_iadd dX5_step_339 (by omega) ?_
                                refine j_puti (k' := 4) f_X5_35 o_71_4 dX5_step_340 rfl ?_
                                refine j_nmM (fun M_128 eM_128 => ?_)
                                refine j_goto (tgt := 244) dX5_step_343 (by decide) ?_
                                exact ih244 M_128 ⟨by rw [eM_128, eM_127]; simp [jup]; exact hp, by rw [show M_128 71 4 = N244 71 4 + 1 by (rw [eM_128, eM_127]; simp [jup])]; omega, by intro j a c; rw [show M_128 71 4 = N244 71 4 + 1 by (rw [eM_128, eM_127]; simp [jup])] at c; by_cases hj : j = N13 71 3 + N244 71 4; (· rw [hj]; omega); (· exact hr j a (by omega)), by rw [show M_128 71 4 = N244 71 4 + 1 by (rw [eM_128, eM_127]; simp [jup]), toNat_s (by omega)]; unfold nvB; rw [toNat_c (by omega), eM_128, eM_127, jup_ne (by decide), jup_self]; omega, by intro c z; rw [eM_128, eM_127]; (repeat rw [jup_cell z]); exact hk2 c z, by intro k z2 z3 z4 z5; rw [eM_128, eM_127]; (repeat rw [jup_ne (by omega)]); exact hf2 k z2 z3 z4 z5⟩ (by rw [show M_128 71 4 = N244 71 4 + 1 by (rw [eM_128, eM_127]; simp [jup])]; omega)
                      exact lp244_102 _ M_101 ⟨by rw [eM_101, eM_95, eM_94, eM_91]; simp [jup], by rw [show M_101 71 4 = 1 by (rw [eM_101, eM_95, eM_94, eM_91]; simp [jup])]; omega, by intro j a c; rw [show M_101 71 4 = 1 by (rw [eM_101, eM_95, eM_94, eM_91]; simp [jup])] at c; rw [show j = N13 71 3 by omega]; omega, by rw [show M_101 71 4 = 1 by (rw [eM_101, eM_95, eM_94, eM_91]; simp [jup]), eM_101, eM_95, eM_94, eM_91, jup_self]; (show _ = min 10000 (10 * 0 + (b (N13 71 3 + ((0 : Nat) : Int)) - 48))); rw [show N13 71 3 + ((0 : Nat) : Int) = N13 71 3 by omega]; omega, by intro c z; rw [eM_101, eM_95, eM_94, eM_91]; (repeat rw [jup_cell z]); exact hk c z, by intro k z2 z3 z4 z5; rw [eM_101, eM_95, eM_94, eM_91]; (repeat rw [jup_ne (by omega)]); exact hf k z3⟩ (Nat.lt_succ_self _)
                    refine j_icmp_ne (tgt := 231) dX5_step_224 (by decide) (fun c224_129 => ?_) (fun c224_129 => ?_)
                    · skip
                      refine j_iconst dX5_step_231 (by decide) ?_
                      exact hJ_99 _ (Or.inl ⟨c224_129, rfl⟩)
                    · skip
                      refine j_iconst dX5_step_227 (by decide) ?_
                      refine j_goto (tgt := 232) dX5_step_228 (by decide) ?_
                      exact hJ_99 _ (Or.inr (⟨c224_129, rfl⟩))
              · skip
                refine j_aload_n 0 dX5_step_119 rfl rfl ?_
                refine j_geti (k' := 2) f_X5_41 o_71_2 dX5_step_120 rfl ?_
                refine j_eq (Eq.trans ((congrFun (congrFun eM_95 71) 2).trans (jup_ne (by decide))) ((congrFun (congrFun eM_94 71) 2).trans (jup_self _ _ _ _))) ?_
                refine j_bipush dX5_step_123 (by decide) ?_
                refine j_icmp_gt (tgt := 200) dX5_step_125 (by decide) (fun c125_130 => ?_) (fun c125_130 => ?_)
                · skip
                  refine j_aload_n 0 dX5_step_200 rfl rfl ?_
                  refine j_geti (k' := 2) f_X5_41 o_71_2 dX5_step_201 rfl ?_
                  refine j_eq (Eq.trans ((congrFun (congrFun eM_95 71) 2).trans (jup_ne (by decide))) ((congrFun (congrFun eM_94 71) 2).trans (jup_self _ _ _ _))) ?_
                  refine j_bipush dX5_step_204 (by decide) ?_
                  refine j_icmp_lt (tgt := 379) dX5_step_206 (by decide) (fun c206_131 => ?_) (fun c206_131 => ?_)
                  · skip
                    refine j_vret rfl rfl rfl rfl dX5_step_379 ?_
                    first | exact fin | exact stP_of (q := N13 71 3) (by rw [eM_95, eM_94, eM_91, jup_ne (by decide)]; exact hp) (by rw [eM_95, eM_94, eM_91, jup_self]) (by rw [eM_95, eM_94, eM_91, jup_ne (by decide)]) (by rw [eM_95, eM_94, eM_91, jup_ne (by decide)]) hsk (by omega) (cTkv_num (by omega) (by omega) hr hstop hv (by omega)) (fun c z => by rw [eM_95, eM_94, eM_91]; (repeat rw [jup_cell z]); exact hk2 c z) (fun k z2 z3 z4 z5 => by rw [eM_95, eM_94, eM_91]; (repeat rw [jup_ne (by omega)]); exact hf2 k z2 z3 z4 z5) | exact stP_of (q := N13 71 3) (tk := jand (M 72 (N13 71 3)) 255) (sz := 1) (by first | (rw [eM_95, eM_94, eM_91]; simp [jup]; done) | (rw [eM_95, eM_94, eM_91]; done)) (by first | (rw [eM_95, eM_94, eM_91]; simp [jup]; done) | (rw [eM_95, eM_94, eM_91]; done)) (by first | (rw [eM_95, eM_94, eM_91]; simp [jup]; done) | (rw [eM_95, eM_94, eM_91]; done)) rfl hsk (by omega) (by rw [htk]; exact cTkv_oth (by omega) (by omega) (by omega)) (fun c z => by rw [eM_95, eM_94, eM_91]; (repeat rw [jup_cell z]); exact hk c z) (fun k z2 z3 z4 z5 => by rw [eM_95, eM_94, eM_91]; (repeat rw [jup_ne (by omega)]); exact hf k z3)
                  · skip
                    refine j_aload_n 0 dX5_step_209 rfl rfl ?_
                    refine j_geti (k' := 2) f_X5_41 o_71_2 dX5_step_210 rfl ?_
                    refine j_eq (Eq.trans ((congrFun (congrFun eM_95 71) 2).trans (jup_ne (by decide))) ((congrFun (congrFun eM_94 71) 2).trans (jup_self _ _ _ _))) ?_
                    refine j_bipush dX5_step_213 (by decide) ?_
                    refine j_icmp_gt (tgt := 379) dX5_step_215 (by decide) (fun c215_132 => ?_) (fun c215_132 => ?_)
                    · skip
                      refine j_vret rfl rfl rfl rfl dX5_step_379 ?_
                      first | exact fin | exact stP_of (q := N13 71 3) (by rw [eM_95, eM_94, eM_91, jup_ne (by decide)]; exact hp) (by rw [eM_95, eM_94, eM_91, jup_self]) (by rw [eM_95, eM_94, eM_91, jup_ne (by decide)]) (by rw [eM_95, eM_94, eM_91, jup_ne (by decide)]) hsk (by omega) (cTkv_num (by omega) (by omega) hr hstop hv (by omega)) (fun c z => by rw [eM_95, eM_94, eM_91]; (repeat rw [jup_cell z]); exact hk2 c z) (fun k z2 z3 z4 z5 => by rw [eM_95, eM_94, eM_91]; (repeat rw [jup_ne (by omega)]); exact hf2 k z2 z3 z4 z5) | exact stP_of (q := N13 71 3) (tk := jand (M 72 (N13 71 3)) 255) (sz := 1) (by first | (rw [eM_95, eM_94, eM_91]; simp [jup]; done) | (rw [eM_95, eM_94, eM_91]; done)) (by first | (rw [eM_95, eM_94, eM_91]; simp [jup]; done) | (rw [eM_95, eM_94, eM_91]; done)) (by first | (rw [eM_95, eM_94, eM_91]; simp [jup]; done) | (rw [eM_95, eM_94, eM_91]; done)) rfl hsk (by omega) (by rw [htk]; exact cTkv_oth (by omega) (by omega) (by omega)) (fun c z => by rw [eM_95, eM_94, eM_91]; (repeat rw [jup_cell z]); exact hk c z) (fun k z2 z3 z4 z5 => by rw [eM_95, eM_94, eM_91]; (repeat rw [jup_ne (by omega)]); exact hf k z3)
                    · skip
                      refine j_aload_n 0 dX5_step_218 rfl rfl ?_
                      refine j_geti (k' := 2) f_X5_41 o_71_2 dX5_step_219 rfl ?_
                      refine j_eq (Eq.trans ((congrFun (congrFun eM_95 71) 2).trans (jup_ne (by decide))) ((congrFun (congrFun eM_94 71) 2).trans (jup_self _ _ _ _))) ?_
                      refine j_bipush dX5_step_222 (by decide) ?_
                      have hJ_133 : ∀ zz : Int, (¬ (jand (M 72 (N13 71 3)) 255) = 48 ∧ zz = 0) ∨ ((jand (M 72 (N13 71 3)) 255) = 48 ∧ zz = 1) → jG D_X5_step X FJ shJ 0 0 (jqV (q_X5_step M b)) 232 [(0, jR 71)] (jI zz :: []) M_95 := by
                        intro t_134 et_134
                        refine j_istore_n (ls' := [(0, jR 71), (1, jI t_134)]) dX5_step_232 rfl (by decide) rfl ?_
                        refine j_aload_n 0 dX5_step_233 rfl rfl ?_
                        refine j_aload_n 0 dX5_step_234 rfl rfl ?_
                        refine j_geti (k' := 2) f_X5_41 o_71_2 dX5_step_235 rfl ?_
                        refine j_eq (Eq.trans ((congrFun (congrFun eM_95 71) 2).trans (jup_ne (by decide))) ((congrFun (congrFun eM_94 71) 2).trans (jup_self _ _ _ _))) ?_
                        refine j_bipush dX5_step_238 (by decide) ?_
                        refine j_isub dX5_step_240 (by omega) ?_
                        refine j_puti (k' := 5) f_X5_68 o_71_5 dX5_step_241 rfl ?_
                        refine j_nmM (fun M_135 eM_135 => ?_)
                        have lp244_136 : ∀ n244 : Nat, ∀ N244 : jM, (N244 71 3 = N13 71 3) ∧ (1 ≤ N244 71 4 ∧ N13 71 3 + N244 71 4 ≤ M 71 0) ∧ (∀ j, N13 71 3 ≤ j → j < N13 71 3 + N244 71 4 → 48 ≤ b j ∧ b j ≤ 57) ∧ (N244 71 5 = min 10000 (nvB b (N13 71 3) (N244 71 4).toNat)) ∧ (∀ c, c ≠ 71 → N244 c = M c) ∧ (∀ k, k ≠ 2 → k ≠ 3 → k ≠ 4 → k ≠ 5 → N244 71 k = M 71 k) → (M 71 0 - (N13 71 3 + N244 71 4)).toNat < n244 → jG D_X5_step X FJ shJ 0 0 (jqV (q_X5_step M b)) 244 [(0, jR 71), (1, jI t_134)] ([]) N244 := by
                          intro n244
                          induction n244 with
                          | zero => intro  N244 _ hz; exact absurd hz (Nat.not_lt_zero _)
                          | succ n244 ih244 =>
                            intro  N244 hinv hm
                            obtain ⟨hp, hs, hr, hv, hk2, hf2⟩ := hinv
                            have hnv := nv_ge0 (b := b) (q := N13 71 3) (N244 71 4).toNat (fun j a c => hr j a (by omega))
                            refine j_aload_n 0 dX5_step_244 rfl rfl ?_
                            refine j_geti (k' := 3) f_X5_32 o_71_3 dX5_step_245 rfl ?_
                            refine j_aload_n 0 dX5_step_248 rfl rfl ?_
                            refine j_geti (k' := 4) f_X5_35 o_71_4 dX5_step_249 rfl ?_
                            refine j_iadd dX5_step_252 (by omega) ?_
                            refine j_aload_n 0 dX5_step_253 rfl rfl ?_
                            refine j_geti (k' := 0) f_X5_23 o_71_0 dX5_step_254 rfl ?_
                            refine j_eq (hf2 0 (by decide) (by decide) (by decide) (by decide)) ?_
                            refine j_icmp_ge (tgt := 346) dX5_step_257 (by decide) (fun c257_137 => ?_) (fun c257_137 => ?_)
                            · skip
                              have hstop : ¬ (48 ≤ b (N13 71 3 + N244 71 4) ∧ b (N13 71 3 + N244 71 4) ≤ 57) := by first | omega | (have hx9 := cTx_out hbt (k := N13 71 3 + N244 71 4) (by omega); omega)
                              refine j_aload_n 0 dX5_step_346 rfl rfl ?_
                              refine j_aload_n 0 dX5_step_347 rfl rfl ?_
                              refine j_geti (k' := 5) f_X5_68 o_71_5 dX5_step_348 rfl ?_
                              refine j_sipush dX5_step_351 (by decide) ?_
                              have hJ_138 : ∀ zz : Int, (9999 < (N244 71 5) ∧ zz = (-4)) ∨ (¬ (9999 < (N244 71 5)) ∧ t_134 = 0 ∧ zz = (-2)) ∨ (¬ (9999 < (N244 71 5)) ∧ ¬ t_134 = 0 ∧ (N244 71 4) ≤ 1 ∧ zz = (-2)) ∨ (¬ (9999 < (N244 71 5)) ∧ ¬ t_134 = 0 ∧ ¬ ((N244 71 4) ≤ 1) ∧ zz = (-4)) → jG D_X5_step X FJ shJ 0 0 (jqV (q_X5_step M b)) 376 [(0, jR 71), (1, jI t_134)] (jI zz :: jR 71 :: []) N244 := by
                                intro t_139 et_139
                                refine j_puti (k' := 2) f_X5_41 o_71_2 dX5_step_376 rfl ?_
                                refine j_nmM (fun M_140 eM_140 => ?_)
                                refine j_vret rfl rfl rfl rfl dX5_step_379 ?_
                                first | exact fin | exact stP_of (q := N13 71 3) (by rw [eM_140, jup_ne (by decide)]; exact hp) (by rw [eM_140, jup_self]) (by rw [eM_140, jup_ne (by decide)]) (by rw [eM_140, jup_ne (by decide)]) hsk (by omega) (cTkv_num (by omega) (by omega) hr hstop hv (by omega)) (fun c z => by rw [eM_140]; (repeat rw [jup_cell z]); exact hk2 c z) (fun k z2 z3 z4 z5 => by rw [eM_140]; (repeat rw [jup_ne (by omega)]); exact hf2 k z2 z3 z4 z5) | exact stP_of (q := N13 71 3) (tk := jand (M 72 (N13 71 3)) 255) (sz := 1) (by first | (rw [eM_140]; simp [jup]; done) | (rw [eM_140]; done)) (by first | (rw [eM_140]; simp [jup]; done) | (rw [eM_140]; done)) (by first | (rw [eM_140]; simp [jup]; done) | (rw [eM_140]; done)) rfl hsk (by omega) (by rw [htk]; exact cTkv_oth (by omega) (by omega) (by omega)) (fun c z => by rw [eM_140]; (repeat rw [jup_cell z]); exact hk c z) (fun k z2 z3 z4 z5 => by rw [eM_140]; (repeat rw [jup_ne (by omega)]); exact hf k z3)
                              refine j_icmp_gt (tgt := 369) dX5_step_354 (by decide) (fun c354_141 => ?_) (fun c354_141 => ?_)
                              · skip
                                refine j_bipush dX5_step_369 (by decide) ?_
                                refine j_goto (tgt := 376) dX5_step_371 (by decide) ?_
                                exact hJ_138 _ (Or.inl ⟨c354_141, rfl⟩)
                              · skip
                                refine j_iload_n 1 dX5_step_357 rfl rfl ?_
                                refine j_if_eq (tgt := 374) dX5_step_358 (by decide) (fun c358_142 => ?_) (fun c358_142 => ?_)
                                · skip
                                  refine j_bipush dX5_step_374 (by decide) ?_
                                  exact hJ_138 _ (Or.inr (Or.inl ⟨c354_141, c358_142, rfl⟩))
                                · skip
                                  refine j_aload_n 0 dX5_step_361 rfl rfl ?_
                                  refine j_geti (k' := 4) f_X5_35 o_71_4 dX5_step_362 rfl ?_
                                  refine j_iconst dX5_step_365 (by decide) ?_
                                  refine j_icmp_le (tgt := 374) dX5_step_366 (by decide) (fun c366_143 => ?_) (fun c366_143 => ?_)
                                  · skip
                                    refine j_bipush dX5_step_374 (by decide) ?_
                                    exact hJ_138 _ (Or.inr (Or.inr (Or.inl ⟨c354_141, c358_142, c366_143, rfl⟩)))
                                  · skip
                                    refine j_bipush dX5_step_369 (by decide) ?_
                                    refine j_goto (tgt := 376) dX5_step_371 (by decide) ?_
                                    exact hJ_138 _ (Or.inr (Or.inr (Or.inr (⟨c354_141, c358_142, c366_143, rfl⟩))))
                            · skip
                              have hx1 := cTx_at hbt (k := N13 71 3 + N244 71 4) (by omega) (by omega)
                              have hi1 : M 72 (N244 71 3 + N244 71 4) = M 72 (N13 71 3 + N244 71 4) := by rw [hp]
                              have hy1 := h_ctext (N13 71 3 + N244 71 4)
                              refine j_aload_n 0 dX5_step_260 rfl rfl ?_
                              refine j_getr f_X5_11 r_71_1 dX5_step_261 ?_
                              refine j_aload_n 0 dX5_step_264 rfl rfl ?_
                              refine j_geti (k' := 3) f_X5_32 o_71_3 dX5_step_265 rfl ?_
                              refine j_aload_n 0 dX5_step_268 rfl rfl ?_
                              refine j_geti (k' := 4) f_X5_35 o_71_4 dX5_step_269 rfl ?_
                              refine j_iadd dX5_step_272 (by omega) ?_
                              refine j_bald a_72 dX5_step_273 (by omega) (by omega) ?_
                              refine j_eq (congrFun (hk2 72 (by decide)) ((N244 71 3) + (N244 71 4))) ?_
                              have g_144 := h_ctext ((N244 71 3) + (N244 71 4))
                              refine j_bipush dX5_step_274 (by decide) ?_
                              refine j_icmp_lt (tgt := 346) dX5_step_276 (by decide) (fun c276_145 => ?_) (fun c276_145 => ?_)
                              · skip
                                have hstop : ¬ (48 ≤ b (N13 71 3 + N244 71 4) ∧ b (N13 71 3 + N244 71 4) ≤ 57) := by first | omega | (have hx9 := cTx_out hbt (k := N13 71 3 + N244 71 4) (by omega); omega)
                                refine j_aload_n 0 dX5_step_346 rfl rfl ?_
                                refine j_aload_n 0 dX5_step_347 rfl rfl ?_
                                refine j_geti (k' := 5) f_X5_68 o_71_5 dX5_step_348 rfl ?_
                                refine j_sipush dX5_step_351 (by decide) ?_
                                have hJ_146 : ∀ zz : Int, (9999 < (N244 71 5) ∧ zz = (-4)) ∨ (¬ (9999 < (N244 71 5)) ∧ t_134 = 0 ∧ zz = (-2)) ∨ (¬ (9999 < (N244 71 5)) ∧ ¬ t_134 = 0 ∧ (N244 71 4) ≤ 1 ∧ zz = (-2)) ∨ (¬ (9999 < (N244 71 5)) ∧ ¬ t_134 = 0 ∧ ¬ ((N244 71 4) ≤ 1) ∧ zz = (-4)) → jG D_X5_step X FJ shJ 0 0 (jqV (q_X5_step M b)) 376 [(0, jR 71), (1, jI t_134)] (jI zz :: jR 71 :: []) N244 := by
                                  intro t_147 et_147
                                  refine j_puti (k' := 2) f_X5_41 o_71_2 dX5_step_376 rfl ?_
                                  refine j_nmM (fun M_148 eM_148 => ?_)
                                  refine j_vret rfl rfl rfl rfl dX5_step_379 ?_
                                  first | exact fin | exact stP_of (q := N13 71 3) (by rw [eM_148, jup_ne (by decide)]; exact hp) (by rw [eM_148, jup_self]) (by rw [eM_148, jup_ne (by decide)]) (by rw [eM_148, jup_ne (by decide)]) hsk (by omega) (cTkv_num (by omega) (by omega) hr hstop hv (by omega)) (fun c z => by rw [eM_148]; (repeat rw [jup_cell z]); exact hk2 c z) (fun k z2 z3 z4 z5 => by rw [eM_148]; (repeat rw [jup_ne (by omega)]); exact hf2 k z2 z3 z4 z5) | exact stP_of (q := N13 71 3) (tk := jand (M 72 (N13 71 3)) 255) (sz := 1) (by first | (rw [eM_148]; simp [jup]; done) | (rw [eM_148]; done)) (by first | (rw [eM_148]; simp [jup]; done) | (rw [eM_148]; done)) (by first | (rw [eM_148]; simp [jup]; done) | (rw [eM_148]; done)) rfl hsk (by omega) (by rw [htk]; exact cTkv_oth (by omega) (by omega) (by omega)) (fun c z => by rw [eM_148]; (repeat rw [jup_cell z]); exact hk c z) (fun k z2 z3 z4 z5 => by rw [eM_148]; (repeat rw [jup_ne (by omega)]); exact hf k z3)
                                refine j_icmp_gt (tgt := 369) dX5_step_354 (by decide) (fun c354_149 => ?_) (fun c354_149 => ?_)
                                · skip
                                  refine j_bipush dX5_step_369 (by decide) ?_
                                  refine j_goto (tgt := 376) dX5_step_371 (by decide) ?_
                                  exact hJ_146 _ (Or.inl ⟨c354_149, rfl⟩)
                                · skip
                                  refine j_iload_n 1 dX5_step_357 rfl rfl ?_
                                  refine j_if_eq (tgt := 374) dX5_step_358 (by decide) (fun c358_150 => ?_) (fun c358_150 => ?_)
                                  · skip
                                    refine j_bipush dX5_step_374 (by decide) ?_
                                    exact hJ_146 _ (Or.inr (Or.inl ⟨c354_149, c358_150, rfl⟩))
                                  · skip
                                    refine j_aload_n 0 dX5_step_361 rfl rfl ?_
                                    refine j_geti (k' := 4) f_X5_35 o_71_4 dX5_step_362 rfl ?_
                                    refine j_iconst dX5_step_365 (by decide) ?_
                                    refine j_icmp_le (tgt := 374) dX5_step_366 (by decide) (fun c366_151 => ?_) (fun c366_151 => ?_)
                                    · skip
                                      refine j_bipush dX5_step_374 (by decide) ?_
                                      exact hJ_146 _ (Or.inr (Or.inr (Or.inl ⟨c354_149, c358_150, c366_151, rfl⟩)))
                                    · skip
                                      refine j_bipush dX5_step_369 (by decide) ?_
                                      refine j_goto (tgt := 376) dX5_step_371 (by decide) ?_
                                      exact hJ_146 _ (Or.inr (Or.inr (Or.inr (⟨c354_149, c358_150, c366_151, rfl⟩))))
                              · skip
                                refine j_aload_n 0 dX5_step_279 rfl rfl ?_
                                refine j_getr f_X5_11 r_71_1 dX5_step_280 ?_
                                refine j_aload_n 0 dX5_step_283 rfl rfl ?_
                                refine j_geti (k' := 3) f_X5_32 o_71_3 dX5_step_284 rfl ?_
                                refine j_aload_n 0 dX5_step_287 rfl rfl ?_
                                refine j_geti (k' := 4) f_X5_35 o_71_4 dX5_step_288 rfl ?_
                                refine j_iadd dX5_step_291 (by omega) ?_
                                refine j_bald a_72 dX5_step_292 (by omega) (by omega) ?_
                                refine j_eq (congrFun (hk2 72 (by decide)) ((N244 71 3) + (N244 71 4))) ?_
                                have g_152 := h_ctext ((N244 71 3) + (N244 71 4))
                                refine j_bipush dX5_step_293 (by decide) ?_
                                refine j_icmp_gt (tgt := 346) dX5_step_295 (by decide) (fun c295_153 => ?_) (fun c295_153 => ?_)
                                · skip
                                  have hstop : ¬ (48 ≤ b (N13 71 3 + N244 71 4) ∧ b (N13 71 3 + N244 71 4) ≤ 57) := by first | omega | (have hx9 := cTx_out hbt (k := N13 71 3 + N244 71 4) (by omega); omega)
                                  refine j_aload_n 0 dX5_step_346 rfl rfl ?_
                                  refine j_aload_n 0 dX5_step_347 rfl rfl ?_
                                  refine j_geti (k' := 5) f_X5_68 o_71_5 dX5_step_348 rfl ?_
                                  refine j_sipush dX5_step_351 (by decide) ?_
                                  have hJ_154 : ∀ zz : Int, (9999 < (N244 71 5) ∧ zz = (-4)) ∨ (¬ (9999 < (N244 71 5)) ∧ t_134 = 0 ∧ zz = (-2)) ∨ (¬ (9999 < (N244 71 5)) ∧ ¬ t_134 = 0 ∧ (N244 71 4) ≤ 1 ∧ zz = (-2)) ∨ (¬ (9999 < (N244 71 5)) ∧ ¬ t_134 = 0 ∧ ¬ ((N244 71 4) ≤ 1) ∧ zz = (-4)) → jG D_X5_step X FJ shJ 0 0 (jqV (q_X5_step M b)) 376 [(0, jR 71), (1, jI t_134)] (jI zz :: jR 71 :: []) N244 := by
                                    intro t_155 et_155
                                    refine j_puti (k' := 2) f_X5_41 o_71_2 dX5_step_376 rfl ?_
                                    refine j_nmM (fun M_156 eM_156 => ?_)
                                    refine j_vret rfl rfl rfl rfl dX5_step_379 ?_
                                    first | exact fin | exact stP_of (q := N13 71 3) (by rw [eM_156, jup_ne (by decide)]; exact hp) (by rw [eM_156, jup_self]) (by rw [eM_156, jup_ne (by decide)]) (by rw [eM_156, jup_ne (by decide)]) hsk (by omega) (cTkv_num (by omega) (by omega) hr hstop hv (by omega)) (fun c z => by rw [eM_156]; (repeat rw [jup_cell z]); exact hk2 c z) (fun k z2 z3 z4 z5 => by rw [eM_156]; (repeat rw [jup_ne (by omega)]); exact hf2 k z2 z3 z4 z5) | exact stP_of (q := N13 71 3) (tk := jand (M 72 (N13 71 3)) 255) (sz := 1) (by first | (rw [eM_156]; simp [jup]; done) | (rw [eM_156]; done)) (by first | (rw [eM_156]; simp [jup]; done) | (rw [eM_156]; done)) (by first | (rw [eM_156]; simp [jup]; done) | (rw [eM_156]; done)) rfl hsk (by omega) (by rw [htk]; exact cTkv_oth (by omega) (by omega) (by omega)) (fun c z => by rw [eM_156]; (repeat rw [jup_cell z]); exact hk c z) (fun k z2 z3 z4 z5 => by rw [eM_156]; (repeat rw [jup_ne (by omega)]); exact hf k z3)
                                  refine j_icmp_gt (tgt := 369) dX5_step_354 (by decide) (fun c354_157 => ?_) (fun c354_157 => ?_)
                                  · skip
                                    refine j_bipush dX5_step_369 (by decide) ?_
                                    refine j_goto (tgt := 376) dX5_step_371 (by decide) ?_
                                    exact hJ_154 _ (Or.inl ⟨c354_157, rfl⟩)
                                  · skip
                                    refine j_iload_n 1 dX5_step_357 rfl rfl ?_
                                    refine j_if_eq (tgt := 374) dX5_step_358 (by decide) (fun c358_158 => ?_) (fun c358_158 => ?_)
                                    · skip
                                      refine j_bipush dX5_step_374 (by decide) ?_
                                      exact hJ_154 _ (Or.inr (Or.inl ⟨c354_157, c358_158, rfl⟩))
                                    · skip
                                      refine j_aload_n 0 dX5_step_361 rfl rfl ?_
                                      refine j_geti (k' := 4) f_X5_35 o_71_4 dX5_step_362 rfl ?_
                                      refine j_iconst dX5_step_365 (by decide) ?_
                                      refine j_icmp_le (tgt := 374) dX5_step_366 (by decide) (fun c366_159 => ?_) (fun c366_159 => ?_)
                                      · skip
                                        refine j_bipush dX5_step_374 (by decide) ?_
                                        exact hJ_154 _ (Or.inr (Or.inr (Or.inl ⟨c354_157, c358_158, c366_159, rfl⟩)))
                                      · skip
                                        refine j_bipush dX5_step_369 (by decide) ?_
                                        refine j_goto (tgt := 376) dX5_step_371 (by decide) ?_
                                        exact hJ_154 _ (Or.inr (Or.inr (Or.inr (⟨c354_157, c358_158, c366_159, rfl⟩))))
                                · skip
                                  refine j_aload_n 0 dX5_step_298 rfl rfl ?_
                                  refine j_sipush dX5_step_299 (by decide) ?_
                                  refine j_aload_n 0 dX5_step_302 rfl rfl ?_
                                  refine j_geti (k' := 5) f_X5_68 o_71_5 dX5_step_303 rfl ?_
                                  refine j_bipush dX5_step_306 (by decide) ?_
                                  refine j_imul dX5_step_308 (by omega) ?_
                                  refine j_aload_n 0 dX5_step_309 rfl rfl ?_
                                  refine j_getr f_X5_11 r_71_1 dX5_step_310 ?_
                                  refine j_aload_n 0 dX5_step_313 rfl rfl ?_
                                  refine j_geti (k' := 3) f_X5_32 o_71_3 dX5_step_314 rfl ?_
                                  refine j_aload_n 0 dX5_step_317 rfl rfl ?_
                                  refine j_geti (k' := 4) f_X5_35 o_71_4 dX5_step_318 rfl ?_
                                  refine j_iadd dX5_step_321 (by omega) ?_
                                  refine j_bald a_72 dX5_step_322 (by omega) (by omega) ?_
                                  refine j_eq (congrFun (hk2 72 (by decide)) ((N244 71 3) + (N244 71 4))) ?_
                                  have g_160 := h_ctext ((N244 71 3) + (N244 71 4))
                                  refine j_iadd dX5_step_323 (by omega) ?_
                                  refine j_bipush dX5_step_324 (by decide) ?_
                                  refine j_isub dX5_step_326 (by omega) ?_
                                  refine j_mmin lm_X5_71 lm_min ⟨Nat.le_of_ble_eq_true rfl, Nat.le_of_ble_eq_true rfl⟩ ⟨Nat.le_of_ble_eq_true rfl, Nat.le_of_ble_eq_true rfl⟩ dX5_step_327 ?_
                                  refine j_puti (k' := 5) f_X5_68 o_71_5 dX5_step_330 rfl ?_
                                  refine j_nmM (fun M_161 eM_161 => ?_)
                                  refine j_aload_n 0 dX5_step_333 rfl rfl ?_
                                  refine j_dup dX5_step_334 rfl ?_
                                  refine j_geti (k' := 4) f_X5_35 o_71_4 dX5_step_335 rfl ?_
                                  refine j_eq ((congrFun (congrFun eM_161 71) 4).trans (jup_ne (by decide))) ?_
                                  refine j_iconst dX5_step_338 (by decide) ?_
                                  refine j_iadd dX5_step_339 (by omega) ?_
                                  refine j_puti (k' := 4) f_X5_35 o_71_4 dX5_step_340 rfl ?_
                                  refine j_nmM (fun M_162 eM_162 => ?_)
                                  refine j_goto (tgt := 244) dX5_step_343 (by decide) ?_
                                  exact ih244 M_162 ⟨by rw [eM_162, eM_161]; simp [jup]; exact hp, by rw [show M_162 71 4 = N244 71 4 + 1 by (rw [eM_162, eM_161]; simp [jup])]; omega, by intro j a c; rw [show M_162 71 4 = N244 71 4 + 1 by (rw [eM_162, eM_161]; simp [jup])] at c; by_cases hj : j = N13 71 3 + N244 71 4; (· rw [hj]; omega); (· exact hr j a (by omega)), by rw [show M_162 71 4 = N244 71 4 + 1 by (rw [eM_162, eM_161]; simp [jup]), toNat_s (by omega)]; unfold nvB; rw [toNat_c (by omega), eM_162, eM_161, jup_ne (by decide), jup_self]; omega, by intro c z; rw [eM_162, eM_161]; (repeat rw [jup_cell z]); exact hk2 c z, by intro k z2 z3 z4 z5; rw [eM_162, eM_161]; (repeat rw [jup_ne (by omega)]); exact hf2 k z2 z3 z4 z5⟩ (by rw [show M_162 71 4 = N244 71 4 + 1 by (rw [eM_162, eM_161]; simp [jup])]; omega)
                        exact lp244_136 _ M_135 ⟨by rw [eM_135, eM_95, eM_94, eM_91]; simp [jup], by rw [show M_135 71 4 = 1 by (rw [eM_135, eM_95, eM_94, eM_91]; simp [jup])]; omega, by intro j a c; rw [show M_135 71 4 = 1 by (rw [eM_135, eM_95, eM_94, eM_91]; simp [jup])] at c; rw [show j = N13 71 3 by omega]; omega, by rw [show M_135 71 4 = 1 by (rw [eM_135, eM_95, eM_94, eM_91]; simp [jup]), eM_135, eM_95, eM_94, eM_91, jup_self]; (show _ = min 10000 (10 * 0 + (b (N13 71 3 + ((0 : Nat) : Int)) - 48))); rw [show N13 71 3 + ((0 : Nat) : Int) = N13 71 3 by omega]; omega, by intro c z; rw [eM_135, eM_95, eM_94, eM_91]; (repeat rw [jup_cell z]); exact hk c z, by intro k z2 z3 z4 z5; rw [eM_135, eM_95, eM_94, eM_91]; (repeat rw [jup_ne (by omega)]); exact hf k z3⟩ (Nat.lt_succ_self _)
                      refine j_icmp_ne (tgt := 231) dX5_step_224 (by decide) (fun c224_163 => ?_) (fun c224_163 => ?_)
                      · skip
                        refine j_iconst dX5_step_231 (by decide) ?_
                        exact hJ_133 _ (Or.inl ⟨c224_163, rfl⟩)
                      · skip
                        refine j_iconst dX5_step_227 (by decide) ?_
                        refine j_goto (tgt := 232) dX5_step_228 (by decide) ?_
                        exact hJ_133 _ (Or.inr (⟨c224_163, rfl⟩))
                · skip
                  refine j_aload_n 0 dX5_step_128 rfl rfl ?_
                  refine j_iconst dX5_step_129 (by decide) ?_
                  refine j_puti (k' := 2) f_X5_41 o_71_2 dX5_step_130 rfl ?_
                  refine j_nmM (fun M_164 eM_164 => ?_)
                  have lp133_165 : ∀ n133 : Nat, ∀ N133 : jM, (N133 71 3 = N13 71 3) ∧ (N133 71 2 = -1) ∧ (1 ≤ N133 71 4 ∧ N13 71 3 + N133 71 4 ≤ M 71 0) ∧ (∀ j, N13 71 3 ≤ j → j < N13 71 3 + N133 71 4 → 97 ≤ b j ∧ b j ≤ 122) ∧ (∀ c, c ≠ 71 → N133 c = M c) ∧ (∀ k, k ≠ 2 → k ≠ 3 → k ≠ 4 → k ≠ 5 → N133 71 k = M 71 k) → (M 71 0 - (N13 71 3 + N133 71 4)).toNat < n133 → jG D_X5_step X FJ shJ 0 0 (jqV (q_X5_step M b)) 133 [(0, jR 71)] ([]) N133 := by
                    intro n133
                    induction n133 with
                    | zero => intro  N133 _ hz; exact absurd hz (Nat.not_lt_zero _)
                    | succ n133 ih133 =>
                      intro  N133 hinv hm
                      obtain ⟨hp, ht, hs, hr, hk1, hf1⟩ := hinv
                      refine j_aload_n 0 dX5_step_133 rfl rfl ?_
                      refine j_geti (k' := 3) f_X5_32 o_71_3 dX5_step_134 rfl ?_
                      refine j_aload_n 0 dX5_step_137 rfl rfl ?_
                      refine j_geti (k' := 4) f_X5_35 o_71_4 dX5_step_138 rfl ?_
                      refine j_iadd dX5_step_141 (by omega) ?_
                      refine j_aload_n 0 dX5_step_142 rfl rfl ?_
                      refine j_geti (k' := 0) f_X5_23 o_71_0 dX5_step_143 rfl ?_
                      refine j_eq (hf1 0 (by decide) (by decide) (by decide) (by decide)) ?_
                      refine j_icmp_ge (tgt := 379) dX5_step_146 (by decide) (fun c146_166 => ?_) (fun c146_166 => ?_)
                      · skip
                        have fin : stP b M N133 := stP_of hp ht rfl rfl hsk (by omega) (cTkv_word (by omega) (by omega) hr (by first | omega | (have hx9 := cTx_out hbt (k := N13 71 3 + N133 71 4) (by omega); omega))) hk1 hf1
                        refine j_vret rfl rfl rfl rfl dX5_step_379 ?_
                        first | exact fin | exact stP_of (q := N13 71 3) (by rw [jup_zz, jup_ne (by decide)]; exact hp) (by rw [jup_zz, jup_self]) (by rw [jup_zz, jup_ne (by decide)]) (by rw [jup_zz, jup_ne (by decide)]) hsk (by omega) (cTkv_num (by omega) (by omega) hr hstop hv (by omega)) (fun c z => by rw [jup_zz]; (repeat rw [jup_cell z]); exact hk2 c z) (fun k z2 z3 z4 z5 => by rw [jup_zz]; (repeat rw [jup_ne (by omega)]); exact hf2 k z2 z3 z4 z5) | exact stP_of (q := N13 71 3) (tk := jand (M 72 (N13 71 3)) 255) (sz := 1) (by first | (rw [jup_zz]; simp [jup]; done) | (rw [jup_zz]; done)) (by first | (rw [jup_zz]; simp [jup]; done) | (rw [jup_zz]; done)) (by first | (rw [jup_zz]; simp [jup]; done) | (rw [jup_zz]; done)) rfl hsk (by omega) (by rw [htk]; exact cTkv_oth (by omega) (by omega) (by omega)) (fun c z => by rw [jup_zz]; (repeat rw [jup_cell z]); exact hk c z) (fun k z2 z3 z4 z5 => by rw [jup_zz]; (repeat rw [jup_ne (by omega)]); exact hf k z3)
                      · skip
                        have hx1 := cTx_at hbt (k := N13 71 3 + N133 71 4) (by omega) (by omega)
                        have hi1 : M 72 (N133 71 3 + N133 71 4) = M 72 (N13 71 3 + N133 71 4) := by rw [hp]
                        have hy1 := h_ctext (N13 71 3 + N133 71 4)
                        refine j_aload_n 0 dX5_step_149 rfl rfl ?_
                        refine j_getr f_X5_11 r_71_1 dX5_step_150 ?_
                        refine j_aload_n 0 dX5_step_153 rfl rfl ?_
                        refine j_geti (k' := 3) f_X5_32 o_71_3 dX5_step_154 rfl ?_
                        refine j_aload_n 0 dX5_step_157 rfl rfl ?_
                        refine j_geti (k' := 4) f_X5_35 o_71_4 dX5_step_158 rfl ?_
                        refine j_iadd dX5_step_161 (by omega) ?_
                        refine j_bald a_72 dX5_step_162 (by omega) (by omega) ?_
                        refine j_eq (congrFun (hk1 72 (by decide)) ((N133 71 3) + (N133 71 4))) ?_
                        have g_167 := h_ctext ((N133 71 3) + (N133 71 4))
                        refine j_bipush dX5_step_163 (by decide) ?_
                        refine j_icmp_lt (tgt := 379) dX5_step_165 (by decide) (fun c165_168 => ?_) (fun c165_168 => ?_)
                        · skip
                          have fin : stP b M N133 := stP_of hp ht rfl rfl hsk (by omega) (cTkv_word (by omega) (by omega) hr (by first | omega | (have hx9 := cTx_out hbt (k := N13 71 3 + N133 71 4) (by omega); omega))) hk1 hf1
                          refine j_vret rfl rfl rfl rfl dX5_step_379 ?_
                          first | exact fin | exact stP_of (q := N13 71 3) (by rw [jup_zz, jup_ne (by decide)]; exact hp) (by rw [jup_zz, jup_self]) (by rw [jup_zz, jup_ne (by decide)]) (by rw [jup_zz, jup_ne (by decide)]) hsk (by omega) (cTkv_num (by omega) (by omega) hr hstop hv (by omega)) (fun c z => by rw [jup_zz]; (repeat rw [jup_cell z]); exact hk2 c z) (fun k z2 z3 z4 z5 => by rw [jup_zz]; (repeat rw [jup_ne (by omega)]); exact hf2 k z2 z3 z4 z5) | exact stP_of (q := N13 71 3) (tk := jand (M 72 (N13 71 3)) 255) (sz := 1) (by first | (rw [jup_zz]; simp [jup]; done) | (rw [jup_zz]; done)) (by first | (rw [jup_zz]; simp [jup]; done) | (rw [jup_zz]; done)) (by first | (rw [jup_zz]; simp [jup]; done) | (rw [jup_zz]; done)) rfl hsk (by omega) (by rw [htk]; exact cTkv_oth (by omega) (by omega) (by omega)) (fun c z => by rw [jup_zz]; (repeat rw [jup_cell z]); exact hk c z) (fun k z2 z3 z4 z5 => by rw [jup_zz]; (repeat rw [jup_ne (by omega)]); exact hf k z3)
                        · skip
                          refine j_aload_n 0 dX5_step_168 rfl rfl ?_
                          refine j_getr f_X5_11 r_71_1 dX5_step_169 ?_
                          refine j_aload_n 0 dX5_step_172 rfl rfl ?_
                          refine j_geti (k' := 3) f_X5_32 o_71_3 dX5_step_173 rfl ?_
                          refine j_aload_n 0 dX5_step_176 rfl rfl ?_
                          refine j_geti (k' := 4) f_X5_35 o_71_4 dX5_step_177 rfl ?_
                          refine j_iadd dX5_step_180 (by omega) ?_
                          refine j_bald a_72 dX5_step_181 (by omega) (by omega) ?_
                          refine j_eq (congrFun (hk1 72 (by decide)) ((N133 71 3) + (N133 71 4))) ?_
                          have g_169 := h_ctext ((N133 71 3) + (N133 71 4))
                          refine j_bipush dX5_step_182 (by decide) ?_
                          refine j_icmp_gt (tgt := 379) dX5_step_184 (by decide) (fun c184_170 => ?_) (fun c184_170 => ?_)
                          · skip
                            have fin : stP b M N133 := stP_of hp ht rfl rfl hsk (by omega) (cTkv_word (by omega) (by omega) hr (by first | omega | (have hx9 := cTx_out hbt (k := N13 71 3 + N133 71 4) (by omega); omega))) hk1 hf1
                            refine j_vret rfl rfl rfl rfl dX5_step_379 ?_
                            first | exact fin | exact stP_of (q := N13 71 3) (by rw [jup_zz, jup_ne (by decide)]; exact hp) (by rw [jup_zz, jup_self]) (by rw [jup_zz, jup_ne (by decide)]) (by rw [jup_zz, jup_ne (by decide)]) hsk (by omega) (cTkv_num (by omega) (by omega) hr hstop hv (by omega)) (fun c z => by rw [jup_zz]; (repeat rw [jup_cell z]); exact hk2 c z) (fun k z2 z3 z4 z5 => by rw [jup_zz]; (repeat rw [jup_ne (by omega)]); exact hf2 k z2 z3 z4 z5) | exact stP_of (q := N13 71 3) (tk := jand (M 72 (N13 71 3)) 255) (sz := 1) (by first | (rw [jup_zz]; simp [jup]; done) | (rw [jup_zz]; done)) (by first | (rw [jup_zz]; simp [jup]; done) | (rw [jup_zz]; done)) (by first | (rw [jup_zz]; simp [jup]; done) | (rw [jup_zz]; done)) rfl hsk (by omega) (by rw [htk]; exact cTkv_oth (by omega) (by omega) (by omega)) (fun c z => by rw [jup_zz]; (repeat rw [jup_cell z]); exact hk c z) (fun k z2 z3 z4 z5 => by rw [jup_zz]; (repeat rw [jup_ne (by omega)]); exact hf k z3)
                          · skip
                            refine j_aload_n 0 dX5_step_187 rfl rfl ?_
                            refine j_dup dX5_step_188 rfl ?_
                            refine j_geti (k' := 4) f_X5_35 o_71_4 dX5_step_189 rfl ?_
                            refine j_iconst dX5_step_192 (by decide) ?_
                            refine j_iadd dX5_step_193 (by omega) ?_
                            refine j_puti (k' := 4) f_X5_35 o_71_4 dX5_step_194 rfl ?_
                            refine j_nmM (fun M_171 eM_171 => ?_)
                            refine j_goto (tgt := 133) dX5_step_197 (by decide) ?_
                            exact ih133 M_171 ⟨by rw [eM_171, jup_ne (by decide)]; exact hp, by rw [eM_171, jup_ne (by decide)]; exact ht, by rw [eM_171, jup_self]; omega, by intro j a c; rw [eM_171, jup_self] at c; by_cases hj : j = N13 71 3 + N133 71 4; (· rw [hj]; omega); (· exact hr j a (by omega)), by intro c z; rw [eM_171, jup_cell z]; exact hk1 c z, by intro k z2 z3 z4 z5; rw [eM_171, jup_ne (by omega)]; exact hf1 k z2 z3 z4 z5⟩ (by rw [eM_171, jup_self]; omega)
                  exact lp133_165 _ M_164 ⟨by rw [eM_164, eM_95, eM_94, eM_91]; simp [jup], by rw [eM_164, eM_95, eM_94, eM_91]; simp [jup], by rw [show M_164 71 4 = 1 by (rw [eM_164, eM_95, eM_94, eM_91]; simp [jup])]; omega, by intro j a c; rw [show M_164 71 4 = 1 by (rw [eM_164, eM_95, eM_94, eM_91]; simp [jup])] at c; rw [show j = N13 71 3 by omega]; omega, by intro c z; rw [eM_164, eM_95, eM_94, eM_91]; (repeat rw [jup_cell z]); exact hk c z, by intro k z2 z3 z4 z5; rw [eM_164, eM_95, eM_94, eM_91]; (repeat rw [jup_ne (by omega)]); exact hf k z3⟩ (Nat.lt_succ_self _)
            · skip
              refine j_aload_n 0 dX5_step_81 rfl rfl ?_
              refine j_bipush dX5_step_82 (by decide) ?_
              refine j_puti (k' := 2) f_X5_41 o_71_2 dX5_step_84 rfl ?_
              refine j_nmM (fun M_172 eM_172 => ?_)
              refine j_vret rfl rfl rfl rfl dX5_step_87 ?_
              exact stP_of (q := N13 71 3) (tk := -3) (sz := 0) (by first | (rw [eM_172, eM_91]; simp [jup]; done) | (rw [eM_172, eM_91]; done)) (by first | (rw [eM_172, eM_91]; simp [jup]; done) | (rw [eM_172, eM_91]; done)) (by first | (rw [eM_172, eM_91]; simp [jup]; done) | (rw [eM_172, eM_91]; done)) rfl hsk (by omega) (cTkv_end (cTx_out hbt (by omega))) (fun c z => by rw [eM_172, eM_91]; (repeat rw [jup_cell z]); exact hk c z) (fun k z2 z3 z4 z5 => by rw [eM_172, eM_91]; (repeat rw [jup_ne (by omega)]); exact hf k z3)
          · skip
            refine j_aload_n 0 dX5_step_52 rfl rfl ?_
            refine j_dup dX5_step_53 rfl ?_
            refine j_geti (k' := 3) f_X5_32 o_71_3 dX5_step_54 rfl ?_
            refine j_iconst dX5_step_57 (by decide) ?_
            refine j_iadd dX5_step_58 (by omega) ?_
            refine j_puti (k' := 3) f_X5_32 o_71_3 dX5_step_59 rfl ?_
            refine j_nmM (fun M_173 eM_173 => ?_)
            refine j_goto (tgt := 13) dX5_step_62 (by decide) ?_
            exact ih13 M_173 ⟨by rw [eM_173, jup_self]; omega, by intro j a c; rw [eM_173, jup_self] at c; by_cases hj : j = N13 71 3; (· rw [hj]; omega); (· exact h2 j a (by omega)), by intro c z; rw [eM_173, jup_cell z]; exact hk c z, by intro k z; rw [eM_173, jup_ne (by omega)]; exact hf k z⟩ (by rw [eM_173, jup_self]; omega)
  exact lp13_2 _ M_1 ⟨by rw [eM_1, jup_self]; omega, by intro j a c; rw [eM_1, jup_self] at c; omega, by intro c z; rw [eM_1, jup_cell z], by intro k z; rw [eM_1, jup_ne (by omega)]⟩ (Nat.lt_succ_self _)
