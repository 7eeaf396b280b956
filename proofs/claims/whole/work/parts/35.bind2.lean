abbrev q_X0_binding (M : jM) (f : Int) (hf : jA f) (r0 h m d : Int) : Int → jM → Prop := fun r N => r = (if (d < M (f + 2) r0 ∨ M (f + 3) r0 < d ∨ (¬ M (f + 4) r0 = -9 ∧ M (f + 4) r0 ≤ d)) then 0 else vBot (rpn (eTest ((M 12 h + d) / 360) ((M 13 h + d) / 360) (M 10 h) (M 2 m) (M 11 h) m) (sPre (M (f + 9)) (M (f + 7) r0) (M (f + 8) r0 - M (f + 7) r0).toNat))) ∧ ∀ c, c ≠ f + 10 → N c = M c
set_option maxHeartbeats 4000000 in
set_option maxRecDepth 20000 in
theorem c_X0_binding {X : jX} (M : jM) (f : Int) (hf : jA f) (r0 h m d : Int) (h_cfrom : ∀ i, 0 ≤ M 12 i ∧ M 12 i ≤ 99999) (h_cto : ∀ i, 0 ≤ M 13 i ∧ M 13 i ≤ 10799) (h_ckind : ∀ i, 0 ≤ M 10 i ∧ M 10 i ≤ 5) (h_ctrade : ∀ i, 0 ≤ M 2 i ∧ M 2 i ≤ 3) (h_cpapers : ∀ i, 0 ≤ M 11 i ∧ M 11 i ≤ 3) (hr0 : 0 ≤ r0 ∧ r0 < 16) (h0 : 0 ≤ h ∧ h < 24) (hm0 : 0 ≤ m ∧ m < 6) (hd0 : 0 ≤ d ∧ d ≤ 359) (hst : 0 ≤ M (f + 7) r0 ∧ M (f + 7) r0 ≤ M (f + 8) r0 ∧ M (f + 8) r0 ≤ 900) (hss : ∀ k, M (f + 7) r0 ≤ k → k < M (f + 8) r0 → 0 ≤ M (f + 9) k ∧ M (f + 9) k < 110000) : jC yX0_binding D_X0_binding X FJ shJ [jR f, jI r0, jI h, jI m, jI d] M (jqI (q_X0_binding M f hf r0 h m d)) := by
  refine jC_of (by decide) rfl (fun ad => Nat.le_of_ble_eq_true rfl) (by decide) ?_
  show jG D_X0_binding X FJ shJ 0 0 (jqI (q_X0_binding M f hf r0 h m d)) 0 [(0, jR f), (1, jI r0), (2, jI h), (3, jI m), (4, jI d)] [] M
  have hf2 : f = 47 ∨ f = 59 := hf
  have hE : ∀ c n, 0 ≤ (eTest ((M 12 h + d) / 360) ((M 13 h + d) / 360) (M 10 h) (M 2 m) (M 11 h) m) c n ∧ (eTest ((M 12 h + d) / 360) ((M 13 h + d) / 360) (M 10 h) (M 2 m) (M 11 h) m) c n ≤ 2 := fun c n => eTest_in _ _ _ _ _ _ c n
  refine j_iload 4 dX0_binding_0 rfl ?_
  refine j_aload_n 0 dX0_binding_2 rfl rfl ?_
  refine j_getr f_X0_15 (ra_2 hf) dX0_binding_3 ?_
  refine j_iload_n 1 dX0_binding_6 rfl rfl ?_
  refine j_iald (aa_2 hf) dX0_binding_7 (by omega) (by omega) ?_
  refine j_icmp_lt (tgt := 44) dX0_binding_8 (by decide) (fun c8_1 => ?_) (fun c8_1 => ?_)
  · skip
    refine j_iconst dX0_binding_44 (by decide) ?_
    refine j_iret rfl rfl rfl rfl dX0_binding_45 ?_
    exact ⟨by rw [if_pos (by omega)], fun c _ => rfl⟩
  · skip
    refine j_iload 4 dX0_binding_11 rfl ?_
    refine j_aload_n 0 dX0_binding_13 rfl rfl ?_
    refine j_getr f_X0_18 (ra_3 hf) dX0_binding_14 ?_
    refine j_iload_n 1 dX0_binding_17 rfl rfl ?_
    refine j_iald (aa_3 hf) dX0_binding_18 (by omega) (by omega) ?_
    refine j_icmp_gt (tgt := 44) dX0_binding_19 (by decide) (fun c19_2 => ?_) (fun c19_2 => ?_)
    · skip
      refine j_iconst dX0_binding_44 (by decide) ?_
      refine j_iret rfl rfl rfl rfl dX0_binding_45 ?_
      exact ⟨by rw [if_pos (by omega)], fun c _ => rfl⟩
    · skip
      refine j_aload_n 0 dX0_binding_22 rfl rfl ?_
      refine j_getr f_X0_21 (ra_4 hf) dX0_binding_23 ?_
      refine j_iload_n 1 dX0_binding_26 rfl rfl ?_
      refine j_iald (aa_4 hf) dX0_binding_27 (by omega) (by omega) ?_
      refine j_bipush dX0_binding_28 (by decide) ?_
      refine j_icmp_eq (tgt := 46) dX0_binding_30 (by decide) (fun c30_3 => ?_) (fun c30_3 => ?_)
      · skip
        refine j_iconst dX0_binding_46 (by decide) ?_
        refine j_istore (ls' := [(0, jR f), (1, jI r0), (2, jI h), (3, jI m), (4, jI d), (5, jI 0)]) dX0_binding_47 (by decide) rfl ?_
        refine j_aload_n 0 dX0_binding_49 rfl rfl ?_
        refine j_getr f_X0_30 (ra_7 hf) dX0_binding_50 ?_
        refine j_iload_n 1 dX0_binding_53 rfl rfl ?_
        refine j_iald (aa_7 hf) dX0_binding_54 (by omega) (by omega) ?_
        refine j_nm (fun v6_4 ev6_4 => ?_)
        refine j_istore (ls' := [(0, jR f), (1, jI r0), (2, jI h), (3, jI m), (4, jI d), (5, jI 0), (6, jI v6_4)]) dX0_binding_55 (by decide) rfl ?_
        have lp57_5 : ∀ n57 : Nat, ∀ (v5 v6 : Int), ∀ N57 : jM, (M (f + 7) r0 ≤ v6 ∧ v6 ≤ M (f + 8) r0) ∧ (aSt (N57 (f + 10)) v5 (rpn (eTest ((M 12 h + d) / 360) ((M 13 h + d) / 360) (M 10 h) (M 2 m) (M 11 h) m) (sPre (M (f + 9)) (M (f + 7) r0) (v6 - M (f + 7) r0).toNat))) ∧ (∀ c, c ≠ f + 10 → N57 c = M c) → (M (f + 8) r0 - v6).toNat < n57 → jG D_X0_binding X FJ shJ 0 0 (jqI (q_X0_binding M f hf r0 h m d)) 57 [(0, jR f), (1, jI r0), (2, jI h), (3, jI m), (4, jI d), (5, jI v5), (6, jI v6)] ([]) N57 := by
          intro n57
          induction n57 with
          | zero => intro v5 v6 N57 _ hz; exact absurd hz (Nat.not_lt_zero _)
          | succ n57 ih57 =>
            intro v5 v6 N57 hinv hm
            obtain ⟨h6, hv, hk⟩ := hinv
            have q1 := rpn_in hE (M (f + 9)) (M (f + 7) r0) (v6 - M (f + 7) r0).toNat
            have q2 := aSt_len _ hv
            refine j_iload 6 dX0_binding_57 rfl ?_
            refine j_aload_n 0 dX0_binding_59 rfl rfl ?_
            refine j_getr f_X0_33 (ra_8 hf) dX0_binding_60 ?_
            refine j_iload_n 1 dX0_binding_63 rfl rfl ?_
            refine j_iald (aa_8 hf) dX0_binding_64 (by omega) (by omega) ?_
            refine j_eq (congrFun (hk (f + 8) (by omega)) r0) ?_
            refine j_icmp_ge (tgt := 254) dX0_binding_65 (by decide) (fun c65_6 => ?_) (fun c65_6 => ?_)
            · skip
              refine j_iload 5 dX0_binding_254 rfl ?_
              have hJ_7 : ∀ zz : Int, (¬ v5 = 0 ∧ zz = (N57 (f + 10) 0)) ∨ (v5 = 0 ∧ zz = 2) → jG D_X0_binding X FJ shJ 0 0 (jqI (q_X0_binding M f hf r0 h m d)) 269 [(0, jR f), (1, jI r0), (2, jI h), (3, jI m), (4, jI d), (5, jI v5), (6, jI v6)] (jI zz :: []) N57 := by
                intro t_8 et_8
                refine j_iret rfl rfl rfl rfl dX0_binding_269 ?_
                have e6 : v6 = M (f + 8) r0 := by omega
                rw [e6] at hv
                have hnp : ¬ (d < M (f + 2) r0 ∨ M (f + 3) r0 < d ∨ (¬ M (f + 4) r0 = -9 ∧ M (f + 4) r0 ≤ d)) := by omega
                refine ⟨?_, hk⟩
                rw [if_neg hnp]
                have q3 := aSt_len _ hv
                rcases et_8 with ⟨z1, z2⟩ | ⟨z1, z2⟩
                · rw [z2]; exact aSt_bot _ hv (by omega)
                · rw [z2]; have q4 := List.eq_nil_of_length_eq_zero (l := rpn (eTest ((M 12 h + d) / 360) ((M 13 h + d) / 360) (M 10 h) (M 2 m) (M 11 h) m) (sPre (M (f + 9)) (M (f + 7) r0) (M (f + 8) r0 - M (f + 7) r0).toNat)) (by omega); rw [q4]; rfl
              refine j_if_ne (tgt := 263) dX0_binding_256 (by decide) (fun c256_9 => ?_) (fun c256_9 => ?_)
              · skip
                refine j_aload_n 0 dX0_binding_263 rfl rfl ?_
                refine j_getr f_X0_39 (ra_11 hf) dX0_binding_264 ?_
                refine j_iconst dX0_binding_267 (by decide) ?_
                refine j_iald (aa_10 hf) dX0_binding_268 (by omega) (by omega) ?_
                exact hJ_7 _ (Or.inl ⟨c256_9, rfl⟩)
              · skip
                refine j_iconst dX0_binding_259 (by decide) ?_
                refine j_goto (tgt := 269) dX0_binding_260 (by decide) ?_
                exact hJ_7 _ (Or.inr (⟨c256_9, rfl⟩))
            · skip
              have hs6 := hss v6 (by omega) (by omega)
              have hx := aSt_in _ hv q1.1
              have hpre := rpn_pre (eTest ((M 12 h + d) / 360) ((M 13 h + d) / 360) (M 10 h) (M 2 m) (M 11 h) m) (M (f + 9)) (a := M (f + 7) r0) (k := v6) h6.1
              refine j_aload_n 0 dX0_binding_68 rfl rfl ?_
              refine j_getr f_X0_36 (ra_10 hf) dX0_binding_69 ?_
              refine j_iload 6 dX0_binding_72 rfl ?_
              refine j_iald (aa_9 hf) dX0_binding_74 (by omega) (by omega) ?_
              refine j_eq (congrFun (hk (f + 9) (by omega)) v6) ?_
              refine j_sipush dX0_binding_75 (by decide) ?_
              refine j_idiv dX0_binding_78 (by omega) (by omega) ?_
              refine j_nm (fun v7_10 ev7_10 => ?_)
              refine j_istore (ls' := [(0, jR f), (1, jI r0), (2, jI h), (3, jI m), (4, jI d), (5, jI v5), (6, jI v6), (7, jI v7_10)]) dX0_binding_79 (by decide) rfl ?_
              refine j_iload 7 dX0_binding_81 rfl ?_
              refine j_iconst dX0_binding_83 (by decide) ?_
              refine j_icmp_ne (tgt := 115) dX0_binding_84 (by decide) (fun c84_11 => ?_) (fun c84_11 => ?_)
              · skip
                refine j_iload 7 dX0_binding_115 rfl ?_
                refine j_iconst dX0_binding_117 (by decide) ?_
                refine j_icmp_ne (tgt := 161) dX0_binding_118 (by decide) (fun c118_12 => ?_) (fun c118_12 => ?_)
                · skip
                  refine j_iload 7 dX0_binding_161 rfl ?_
                  refine j_iconst dX0_binding_163 (by decide) ?_
                  refine j_icmp_ne (tgt := 207) dX0_binding_164 (by decide) (fun c164_13 => ?_) (fun c164_13 => ?_)
                  · skip
                    refine j_iload 7 dX0_binding_207 rfl ?_
                    refine j_iconst dX0_binding_209 (by decide) ?_
                    refine j_icmp_le (tgt := 248) dX0_binding_210 (by decide) (fun c210_14 => ?_) (fun c210_14 => ?_)
                    · skip
                      obtain ⟨v6_15, ev6_15⟩ : ∃ y : Int, y = v6 + 1 := ⟨_, rfl⟩
                      refine j_iinc (y := v6_15) (ls' := [(0, jR f), (1, jI r0), (2, jI h), (3, jI m), (4, jI d), (5, jI v5), (6, jI v6_15), (7, jI v7_10)]) 6 dX0_binding_248 rfl ev6_15 (by omega) (by decide) rfl ?_
                      refine j_goto (tgt := 57) dX0_binding_251 (by decide) ?_
                      refine j_sub (ls' := [(0, jR f), (1, jI r0), (2, jI h), (3, jI m), (4, jI d), (5, jI v5), (6, jI v6_15)]) [0, 1, 2, 3, 4, 5, 6] rfl ?_
                      exact ih57 v5 v6_15 N57 ⟨by omega, by rw [ev6_15, hpre]; first | (exfalso; omega; done) | exact aSt_rp0 hv (by omega) (by omega) (by omega) (by omega) | exact aSt_rp3 hv (by omega) (by omega) (by rw [jup_zz, jup_self]) (fun j j0 j1 => by first | (rw [jup_zz, jup_at, if_neg (by omega)]; done) | rfl) | (rw [show v5 = v5 - 1 by omega]; first | exact aSt_rp2 hv (by omega) (by omega) (by rw [jup_zz, show v5 - 2 = v5 - 1 by omega, jup_self, show v5 - 1 = v5 by omega]) (fun j j0 j1 => by first | (rw [jup_zz, jup_at, if_neg (by omega)]; done) | rfl) | exact aSt_rp1 hv (by omega) (by omega) (by rw [jup_zz, show v5 - 2 = v5 - 1 by omega, jup_self, show v5 - 1 = v5 by omega]) (fun j j0 j1 => by first | (rw [jup_zz, jup_at, if_neg (by omega)]; done) | rfl)) | (rw [show v5 = v5 + 1 by omega]; exact aSt_rp4 hv (by omega) (by omega) (by rw [jup_zz, jup_self]; exact jup_zz) (fun j j0 j1 => by first | (rw [jup_zz, jup_at, if_neg (by omega)]; done) | rfl)), by intro c hc; first | exact hk c hc | (rw [jup_zz, jup_cell hc]; exact hk c hc)⟩ (by omega)
                    · skip
                      refine j_iload 5 dX0_binding_213 rfl ?_
                      refine j_aload_n 0 dX0_binding_215 rfl rfl ?_
                      refine j_getr f_X0_39 (ra_11 hf) dX0_binding_216 ?_
                      refine j_alen (n' := 64) (aa_10 hf) (by decide) dX0_binding_219 rfl ?_
                      refine j_icmp_ge (tgt := 248) dX0_binding_220 (by decide) (fun c220_16 => ?_) (fun c220_16 => ?_)
                      · skip
                        obtain ⟨v6_17, ev6_17⟩ : ∃ y : Int, y = v6 + 1 := ⟨_, rfl⟩
                        refine j_iinc (y := v6_17) (ls' := [(0, jR f), (1, jI r0), (2, jI h), (3, jI m), (4, jI d), (5, jI v5), (6, jI v6_17), (7, jI v7_10)]) 6 dX0_binding_248 rfl ev6_17 (by omega) (by decide) rfl ?_
                        refine j_goto (tgt := 57) dX0_binding_251 (by decide) ?_
                        refine j_sub (ls' := [(0, jR f), (1, jI r0), (2, jI h), (3, jI m), (4, jI d), (5, jI v5), (6, jI v6_17)]) [0, 1, 2, 3, 4, 5, 6] rfl ?_
                        exact ih57 v5 v6_17 N57 ⟨by omega, by rw [ev6_17, hpre]; first | (exfalso; omega; done) | exact aSt_rp0 hv (by omega) (by omega) (by omega) (by omega) | exact aSt_rp3 hv (by omega) (by omega) (by rw [jup_zz, jup_self]) (fun j j0 j1 => by first | (rw [jup_zz, jup_at, if_neg (by omega)]; done) | rfl) | (rw [show v5 = v5 - 1 by omega]; first | exact aSt_rp2 hv (by omega) (by omega) (by rw [jup_zz, show v5 - 2 = v5 - 1 by omega, jup_self, show v5 - 1 = v5 by omega]) (fun j j0 j1 => by first | (rw [jup_zz, jup_at, if_neg (by omega)]; done) | rfl) | exact aSt_rp1 hv (by omega) (by omega) (by rw [jup_zz, show v5 - 2 = v5 - 1 by omega, jup_self, show v5 - 1 = v5 by omega]) (fun j j0 j1 => by first | (rw [jup_zz, jup_at, if_neg (by omega)]; done) | rfl)) | (rw [show v5 = v5 + 1 by omega]; exact aSt_rp4 hv (by omega) (by omega) (by rw [jup_zz, jup_self]; exact jup_zz) (fun j j0 j1 => by first | (rw [jup_zz, jup_at, if_neg (by omega)]; done) | rfl)), by intro c hc; first | exact hk c hc | (rw [jup_zz, jup_cell hc]; exact hk c hc)⟩ (by omega)
                      · skip
                        refine j_aload_n 0 dX0_binding_223 rfl rfl ?_
                        refine j_getr f_X0_39 (ra_11 hf) dX0_binding_224 ?_
                        refine j_iload 5 dX0_binding_227 rfl ?_
                        refine j_aload_n 0 dX0_binding_229 rfl rfl ?_
                        refine j_aload_n 0 dX0_binding_230 rfl rfl ?_
                        refine j_getr f_X0_36 (ra_10 hf) dX0_binding_231 ?_
                        refine j_iload 6 dX0_binding_234 rfl ?_
                        refine j_iald (aa_9 hf) dX0_binding_236 (by omega) (by omega) ?_
                        refine j_eq (congrFun (hk (f + 9) (by omega)) v6) ?_
                        refine j_iload_n 2 dX0_binding_237 rfl rfl ?_
                        refine j_iload_n 3 dX0_binding_238 rfl rfl ?_
                        refine j_iload 4 dX0_binding_239 rfl ?_
                        refine j_callVi l_X0_69 ⟨Nat.le_of_ble_eq_true rfl, Nat.le_of_ble_eq_true rfl⟩ ⟨rfl, rfl⟩ dX0_binding_241 (oba hf) (c_X0_test N57 f hf ((M (f + 9) v6)) h m d (by rw [(hk 12 (by omega))]; exact h_cfrom) (by rw [(hk 13 (by omega))]; exact h_cto) (by rw [(hk 10 (by omega))]; exact h_ckind) (by rw [(hk 2 (by omega))]; exact h_ctrade) (by rw [(hk 11 (by omega))]; exact h_cpapers) (by first | assumption | omega) (by first | assumption | omega) (by first | assumption | omega) (by first | assumption | omega)) rfl rfl (Nat.le_of_ble_eq_true rfl) (fun r_18 M_19 h_20 => ?_)
                        obtain ⟨er_18, nh_20⟩ := h_20
                        refine j_eqM nh_20 ?_
                        clear nh_20
                        simp only [(hk 12 (by omega)), (hk 13 (by omega)), (hk 10 (by omega)), (hk 2 (by omega)), (hk 11 (by omega))] at er_18
                        refine j_iast (aa_10 hf) dX0_binding_244 (by omega) (by omega) ?_
                        refine j_nmM (fun M_21 eM_21 => ?_)
                        obtain ⟨v5_22, ev5_22⟩ : ∃ y : Int, y = v5 + 1 := ⟨_, rfl⟩
                        refine j_iinc (y := v5_22) (ls' := [(0, jR f), (1, jI r0), (2, jI h), (3, jI m), (4, jI d), (5, jI v5_22), (6, jI v6), (7, jI v7_10)]) 5 dX0_binding_245 rfl ev5_22 (by omega) (by decide) rfl ?_
                        obtain ⟨v6_23, ev6_23⟩ : ∃ y : Int, y = v6 + 1 := ⟨_, rfl⟩
                        refine j_iinc (y := v6_23) (ls' := [(0, jR f), (1, jI r0), (2, jI h), (3, jI m), (4, jI d), (5, jI v5_22), (6, jI v6_23), (7, jI v7_10)]) 6 dX0_binding_248 rfl ev6_23 (by omega) (by decide) rfl ?_
                        refine j_goto (tgt := 57) dX0_binding_251 (by decide) ?_
                        refine j_sub (ls' := [(0, jR f), (1, jI r0), (2, jI h), (3, jI m), (4, jI d), (5, jI v5_22), (6, jI v6_23)]) [0, 1, 2, 3, 4, 5, 6] rfl ?_
                        exact ih57 v5_22 v6_23 M_21 ⟨by omega, by rw [ev6_23, hpre]; first | (exfalso; omega; done) | exact aSt_rp0 hv (by omega) (by omega) (by omega) (by omega) | exact aSt_rp3 hv (by omega) (by omega) (by rw [eM_21, jup_self]) (fun j j0 j1 => by first | (rw [eM_21, jup_at, if_neg (by omega)]; done) | rfl) | (rw [show v5_22 = v5 - 1 by omega]; first | exact aSt_rp2 hv (by omega) (by omega) (by rw [eM_21, show v5 - 2 = v5_22 - 1 by omega, jup_self, show v5 - 1 = v5_22 by omega]) (fun j j0 j1 => by first | (rw [eM_21, jup_at, if_neg (by omega)]; done) | rfl) | exact aSt_rp1 hv (by omega) (by omega) (by rw [eM_21, show v5 - 2 = v5_22 - 1 by omega, jup_self, show v5 - 1 = v5_22 by omega]) (fun j j0 j1 => by first | (rw [eM_21, jup_at, if_neg (by omega)]; done) | rfl)) | (rw [show v5_22 = v5 + 1 by omega]; exact aSt_rp4 hv (by omega) (by omega) (by rw [eM_21, jup_self]; exact er_18) (fun j j0 j1 => by first | (rw [eM_21, jup_at, if_neg (by omega)]; done) | rfl)), by intro c hc; first | exact hk c hc | (rw [eM_21, jup_cell hc]; exact hk c hc)⟩ (by omega)
                  · skip
                    refine j_iload 5 dX0_binding_167 rfl ?_
                    refine j_iconst dX0_binding_169 (by decide) ?_
                    refine j_icmp_le (tgt := 207) dX0_binding_170 (by decide) (fun c170_24 => ?_) (fun c170_24 => ?_)
                    · skip
                      refine j_iload 7 dX0_binding_207 rfl ?_
                      refine j_iconst dX0_binding_209 (by decide) ?_
                      refine j_icmp_le (tgt := 248) dX0_binding_210 (by decide) (fun c210_25 => ?_) (fun c210_25 => ?_)
                      · skip
                        obtain ⟨v6_26, ev6_26⟩ : ∃ y : Int, y = v6 + 1 := ⟨_, rfl⟩
                        refine j_iinc (y := v6_26) (ls' := [(0, jR f), (1, jI r0), (2, jI h), (3, jI m), (4, jI d), (5, jI v5), (6, jI v6_26), (7, jI v7_10)]) 6 dX0_binding_248 rfl ev6_26 (by omega) (by decide) rfl ?_
                        refine j_goto (tgt := 57) dX0_binding_251 (by decide) ?_
                        refine j_sub (ls' := [(0, jR f), (1, jI r0), (2, jI h), (3, jI m), (4, jI d), (5, jI v5), (6, jI v6_26)]) [0, 1, 2, 3, 4, 5, 6] rfl ?_
                        exact ih57 v5 v6_26 N57 ⟨by omega, by rw [ev6_26, hpre]; first | (exfalso; omega; done) | exact aSt_rp0 hv (by omega) (by omega) (by omega) (by omega) | exact aSt_rp3 hv (by omega) (by omega) (by rw [jup_zz, jup_self]) (fun j j0 j1 => by first | (rw [jup_zz, jup_at, if_neg (by omega)]; done) | rfl) | (rw [show v5 = v5 - 1 by omega]; first | exact aSt_rp2 hv (by omega) (by omega) (by rw [jup_zz, show v5 - 2 = v5 - 1 by omega, jup_self, show v5 - 1 = v5 by omega]) (fun j j0 j1 => by first | (rw [jup_zz, jup_at, if_neg (by omega)]; done) | rfl) | exact aSt_rp1 hv (by omega) (by omega) (by rw [jup_zz, show v5 - 2 = v5 - 1 by omega, jup_self, show v5 - 1 = v5 by omega]) (fun j j0 j1 => by first | (rw [jup_zz, jup_at, if_neg (by omega)]; done) | rfl)) | (rw [show v5 = v5 + 1 by omega]; exact aSt_rp4 hv (by omega) (by omega) (by rw [jup_zz, jup_self]; exact er_18) (fun j j0 j1 => by first | (rw [jup_zz, jup_at, if_neg (by omega)]; done) | rfl)), by intro c hc; first | exact hk c hc | (rw [jup_zz, jup_cell hc]; exact hk c hc)⟩ (by omega)
                      · skip
                        refine j_iload 5 dX0_binding_213 rfl ?_
                        refine j_aload_n 0 dX0_binding_215 rfl rfl ?_
                        refine j_getr f_X0_39 (ra_11 hf) dX0_binding_216 ?_
                        refine j_alen (n' := 64) (aa_10 hf) (by decide) dX0_binding_219 rfl ?_
                        refine j_icmp_ge (tgt := 248) dX0_binding_220 (by decide) (fun c220_27 => ?_) (fun c220_27 => ?_)
                        · skip
                          obtain ⟨v6_28, ev6_28⟩ : ∃ y : Int, y = v6 + 1 := ⟨_, rfl⟩
                          refine j_iinc (y := v6_28) (ls' := [(0, jR f), (1, jI r0), (2, jI h), (3, jI m), (4, jI d), (5, jI v5), (6, jI v6_28), (7, jI v7_10)]) 6 dX0_binding_248 rfl ev6_28 (by omega) (by decide) rfl ?_
                          refine j_goto (tgt := 57) dX0_binding_251 (by decide) ?_
                          refine j_sub (ls' := [(0, jR f), (1, jI r0), (2, jI h), (3, jI m), (4, jI d), (5, jI v5), (6, jI v6_28)]) [0, 1, 2, 3, 4, 5, 6] rfl ?_
                          exact ih57 v5 v6_28 N57 ⟨by omega, by rw [ev6_28, hpre]; first | (exfalso; omega; done) | exact aSt_rp0 hv (by omega) (by omega) (by omega) (by omega) | exact aSt_rp3 hv (by omega) (by omega) (by rw [jup_zz, jup_self]) (fun j j0 j1 => by first | (rw [jup_zz, jup_at, if_neg (by omega)]; done) | rfl) | (rw [show v5 = v5 - 1 by omega]; first | exact aSt_rp2 hv (by omega) (by omega) (by rw [jup_zz, show v5 - 2 = v5 - 1 by omega, jup_self, show v5 - 1 = v5 by omega]) (fun j j0 j1 => by first | (rw [jup_zz, jup_at, if_neg (by omega)]; done) | rfl) | exact aSt_rp1 hv (by omega) (by omega) (by rw [jup_zz, show v5 - 2 = v5 - 1 by omega, jup_self, show v5 - 1 = v5 by omega]) (fun j j0 j1 => by first | (rw [jup_zz, jup_at, if_neg (by omega)]; done) | rfl)) | (rw [show v5 = v5 + 1 by omega]; exact aSt_rp4 hv (by omega) (by omega) (by rw [jup_zz, jup_self]; exact er_18) (fun j j0 j1 => by first | (rw [jup_zz, jup_at, if_neg (by omega)]; done) | rfl)), by intro c hc; first | exact hk c hc | (rw [jup_zz, jup_cell hc]; exact hk c hc)⟩ (by omega)
                        · skip
                          refine j_aload_n 0 dX0_binding_223 rfl rfl ?_
                          refine j_getr f_X0_39 (ra_11 hf) dX0_binding_224 ?_
                          refine j_iload 5 dX0_binding_227 rfl ?_
                          refine j_aload_n 0 dX0_binding_229 rfl rfl ?_
                          refine j_aload_n 0 dX0_binding_230 rfl rfl ?_
                          refine j_getr f_X0_36 (ra_10 hf) dX0_binding_231 ?_
                          refine j_iload 6 dX0_binding_234 rfl ?_
                          refine j_iald (aa_9 hf) dX0_binding_236 (by omega) (by omega) ?_
                          refine j_eq (congrFun (hk (f + 9) (by omega)) v6) ?_
                          refine j_iload_n 2 dX0_binding_237 rfl rfl ?_
                          refine j_iload_n 3 dX0_binding_238 rfl rfl ?_
                          refine j_iload 4 dX0_binding_239 rfl ?_
                          refine j_callVi l_X0_69 ⟨Nat.le_of_ble_eq_true rfl, Nat.le_of_ble_eq_true rfl⟩ ⟨rfl, rfl⟩ dX0_binding_241 (oba hf) (c_X0_test N57 f hf ((M (f + 9) v6)) h m d (by rw [(hk 12 (by omega))]; exact h_cfrom) (by rw [(hk 13 (by omega))]; exact h_cto) (by rw [(hk 10 (by omega))]; exact h_ckind) (by rw [(hk 2 (by omega))]; exact h_ctrade) (by rw [(hk 11 (by omega))]; exact h_cpapers) (by first | assumption | omega) (by first | assumption | omega) (by first | assumption | omega) (by first | assumption | omega)) rfl rfl (Nat.le_of_ble_eq_true rfl) (fun r_29 M_30 h_31 => ?_)
                          obtain ⟨er_29, nh_31⟩ := h_31
                          refine j_eqM nh_31 ?_
                          clear nh_31
                          simp only [(hk 12 (by omega)), (hk 13 (by omega)), (hk 10 (by omega)), (hk 2 (by omega)), (hk 11 (by omega))] at er_29
                          refine j_iast (aa_10 hf) dX0_binding_244 (by omega) (by omega) ?_
                          refine j_nmM (fun M_32 eM_32 => ?_)
                          obtain ⟨v5_33, ev5_33⟩ : ∃ y : Int, y = v5 + 1 := ⟨_, rfl⟩
                          refine j_iinc (y := v5_33) (ls' := [(0, jR f), (1, jI r0), (2, jI h), (3, jI m), (4, jI d), (5, jI v5_33), (6, jI v6), (7, jI v7_10)]) 5 dX0_binding_245 rfl ev5_33 (by omega) (by decide) rfl ?_
                          obtain ⟨v6_34, ev6_34⟩ : ∃ y : Int, y = v6 + 1 := ⟨_, rfl⟩
                          refine j_iinc (y := v6_34) (ls' := [(0, jR f), (1, jI r0), (2, jI h), (3, jI m), (4, jI d), (5, jI v5_33), (6, jI v6_34), (7, jI v7_10)]) 6 dX0_binding_248 rfl ev6_34 (by omega) (by decide) rfl ?_
                          refine j_goto (tgt := 57) dX0_binding_251 (by decide) ?_
                          refine j_sub (ls' := [(0, jR f), (1, jI r0), (2, jI h), (3, jI m), (4, jI d), (5, jI v5_33), (6, jI v6_34)]) [0, 1, 2, 3, 4, 5, 6] rfl ?_
                          exact ih57 v5_33 v6_34 M_32 ⟨by omega, by rw [ev6_34, hpre]; first | (exfalso; omega; done) | exact aSt_rp0 hv (by omega) (by omega) (by omega) (by omega) | exact aSt_rp3 hv (by omega) (by omega) (by rw [eM_32, jup_self]) (fun j j0 j1 => by first | (rw [eM_32, jup_at, if_neg (by omega)]; done) | rfl) | (rw [show v5_33 = v5 - 1 by omega]; first | exact aSt_rp2 hv (by omega) (by omega) (by rw [eM_32, show v5 - 2 = v5_33 - 1 by omega, jup_self, show v5 - 1 = v5_33 by omega]) (fun j j0 j1 => by first | (rw [eM_32, jup_at, if_neg (by omega)]; done) | rfl) | exact aSt_rp1 hv (by omega) (by omega) (by rw [eM_32, show v5 - 2 = v5_33 - 1 by omega, jup_self, show v5 - 1 = v5_33 by omega]) (fun j j0 j1 => by first | (rw [eM_32, jup_at, if_neg (by omega)]; done) | rfl)) | (rw [show v5_33 = v5 + 1 by omega]; exact aSt_rp4 hv (by omega) (by omega) (by rw [eM_32, jup_self]; exact er_29) (fun j j0 j1 => by first | (rw [eM_32, jup_at, if_neg (by omega)]; done) | rfl)), by intro c hc; first | exact hk c hc | (rw [eM_32, jup_cell hc]; exact hk c hc)⟩ (by omega)
                    · skip
                      obtain ⟨v5_35, ev5_35⟩ : ∃ y : Int, y = v5 + (-1) := ⟨_, rfl⟩
                      refine j_iinc (y := v5_35) (ls' := [(0, jR f), (1, jI r0), (2, jI h), (3, jI m), (4, jI d), (5, jI v5_35), (6, jI v6), (7, jI v7_10)]) 5 dX0_binding_173 rfl ev5_35 (by omega) (by decide) rfl ?_
                      refine j_aload_n 0 dX0_binding_176 rfl rfl ?_
                      refine j_getr f_X0_39 (ra_11 hf) dX0_binding_177 ?_
                      refine j_iload 5 dX0_binding_180 rfl ?_
                      refine j_iconst dX0_binding_182 (by decide) ?_
                      refine j_isub dX0_binding_183 (by omega) ?_
                      refine j_aload_n 0 dX0_binding_184 rfl rfl ?_
                      refine j_getr f_X0_39 (ra_11 hf) dX0_binding_185 ?_
                      refine j_iload 5 dX0_binding_188 rfl ?_
                      refine j_iconst dX0_binding_190 (by decide) ?_
                      refine j_isub dX0_binding_191 (by omega) ?_
                      refine j_iald (aa_10 hf) dX0_binding_192 (by omega) (by omega) ?_
                      refine j_aload_n 0 dX0_binding_193 rfl rfl ?_
                      refine j_getr f_X0_39 (ra_11 hf) dX0_binding_194 ?_
                      refine j_iload 5 dX0_binding_197 rfl ?_
                      refine j_iald (aa_10 hf) dX0_binding_199 (by omega) (by omega) ?_
                      refine j_mmax lm_X0_66 lm_max ⟨Nat.le_of_ble_eq_true rfl, Nat.le_of_ble_eq_true rfl⟩ ⟨Nat.le_of_ble_eq_true rfl, Nat.le_of_ble_eq_true rfl⟩ dX0_binding_200 ?_
                      refine j_iast (aa_10 hf) dX0_binding_203 (by omega) (by omega) ?_
                      refine j_nmM (fun M_36 eM_36 => ?_)
                      refine j_goto (tgt := 248) dX0_binding_204 (by decide) ?_
                      obtain ⟨v6_37, ev6_37⟩ : ∃ y : Int, y = v6 + 1 := ⟨_, rfl⟩
                      refine j_iinc (y := v6_37) (ls' := [(0, jR f), (1, jI r0), (2, jI h), (3, jI m), (4, jI d), (5, jI v5_35), (6, jI v6_37), (7, jI v7_10)]) 6 dX0_binding_248 rfl ev6_37 (by omega) (by decide) rfl ?_
                      refine j_goto (tgt := 57) dX0_binding_251 (by decide) ?_
                      refine j_sub (ls' := [(0, jR f), (1, jI r0), (2, jI h), (3, jI m), (4, jI d), (5, jI v5_35), (6, jI v6_37)]) [0, 1, 2, 3, 4, 5, 6] rfl ?_
                      exact ih57 v5_35 v6_37 M_36 ⟨by omega, by rw [ev6_37, hpre]; first | (exfalso; omega; done) | exact aSt_rp0 hv (by omega) (by omega) (by omega) (by omega) | exact aSt_rp3 hv (by omega) (by omega) (by rw [eM_36, jup_self]) (fun j j0 j1 => by first | (rw [eM_36, jup_at, if_neg (by omega)]; done) | rfl) | (rw [show v5_35 = v5 - 1 by omega]; first | exact aSt_rp2 hv (by omega) (by omega) (by rw [eM_36, show v5 - 2 = v5_35 - 1 by omega, jup_self, show v5 - 1 = v5_35 by omega]) (fun j j0 j1 => by first | (rw [eM_36, jup_at, if_neg (by omega)]; done) | rfl) | exact aSt_rp1 hv (by omega) (by omega) (by rw [eM_36, show v5 - 2 = v5_35 - 1 by omega, jup_self, show v5 - 1 = v5_35 by omega]) (fun j j0 j1 => by first | (rw [eM_36, jup_at, if_neg (by omega)]; done) | rfl)) | (rw [show v5_35 = v5 + 1 by omega]; exact aSt_rp4 hv (by omega) (by omega) (by rw [eM_36, jup_self]; exact er_29) (fun j j0 j1 => by first | (rw [eM_36, jup_at, if_neg (by omega)]; done) | rfl)), by intro c hc; first | exact hk c hc | (rw [eM_36, jup_cell hc]; exact hk c hc)⟩ (by omega)
                · skip
                  refine j_iload 5 dX0_binding_121 rfl ?_
                  refine j_iconst dX0_binding_123 (by decide) ?_
                  refine j_icmp_le (tgt := 161) dX0_binding_124 (by decide) (fun c124_38 => ?_) (fun c124_38 => ?_)
                  · skip
                    refine j_iload 7 dX0_binding_161 rfl ?_
                    refine j_iconst dX0_binding_163 (by decide) ?_
                    refine j_icmp_ne (tgt := 207) dX0_binding_164 (by decide) (fun c164_39 => ?_) (fun c164_39 => ?_)
                    · skip
                      refine j_iload 7 dX0_binding_207 rfl ?_
                      refine j_iconst dX0_binding_209 (by decide) ?_
                      refine j_icmp_le (tgt := 248) dX0_binding_210 (by decide) (fun c210_40 => ?_) (fun c210_40 => ?_)
                      · skip
                        obtain ⟨v6_41, ev6_41⟩ : ∃ y : Int, y = v6 + 1 := ⟨_, rfl⟩
                        refine j_iinc (y := v6_41) (ls' := [(0, jR f), (1, jI r0), (2, jI h), (3, jI m), (4, jI d), (5, jI v5), (6, jI v6_41), (7, jI v7_10)]) 6 dX0_binding_248 rfl ev6_41 (by omega) (by decide) rfl ?_
                        refine j_goto (tgt := 57) dX0_binding_251 (by decide) ?_
                        refine j_sub (ls' := [(0, jR f), (1, jI r0), (2, jI h), (3, jI m), (4, jI d), (5, jI v5), (6, jI v6_41)]) [0, 1, 2, 3, 4, 5, 6] rfl ?_
                        exact ih57 v5 v6_41 N57 ⟨by omega, by rw [ev6_41, hpre]; first | (exfalso; omega; done) | exact aSt_rp0 hv (by omega) (by omega) (by omega) (by omega) | exact aSt_rp3 hv (by omega) (by omega) (by rw [jup_zz, jup_self]) (fun j j0 j1 => by first | (rw [jup_zz, jup_at, if_neg (by omega)]; done) | rfl) | (rw [show v5 = v5 - 1 by omega]; first | exact aSt_rp2 hv (by omega) (by omega) (by rw [jup_zz, show v5 - 2 = v5 - 1 by omega, jup_self, show v5 - 1 = v5 by omega]) (fun j j0 j1 => by first | (rw [jup_zz, jup_at, if_neg (by omega)]; done) | rfl) | exact aSt_rp1 hv (by omega) (by omega) (by rw [jup_zz, show v5 - 2 = v5 - 1 by omega, jup_self, show v5 - 1 = v5 by omega]) (fun j j0 j1 => by first | (rw [jup_zz, jup_at, if_neg (by omega)]; done) | rfl)) | (rw [show v5 = v5 + 1 by omega]; exact aSt_rp4 hv (by omega) (by omega) (by rw [jup_zz, jup_self]; exact er_29) (fun j j0 j1 => by first | (rw [jup_zz, jup_at, if_neg (by omega)]; done) | rfl)), by intro c hc; first | exact hk c hc | (rw [jup_zz, jup_cell hc]; exact hk c hc)⟩ (by omega)
                      · skip
                        refine j_iload 5 dX0_binding_213 rfl ?_
                        refine j_aload_n 0 dX0_binding_215 rfl rfl ?_
                        refine j_getr f_X0_39 (ra_11 hf) dX0_binding_216 ?_
                        refine j_alen (n' := 64) (aa_10 hf) (by decide) dX0_binding_219 rfl ?_
                        refine j_icmp_ge (tgt := 248) dX0_binding_220 (by decide) (fun c220_42 => ?_) (fun c220_42 => ?_)
                        · skip
                          obtain ⟨v6_43, ev6_43⟩ : ∃ y : Int, y = v6 + 1 := ⟨_, rfl⟩
                          refine j_iinc (y := v6_43) (ls' := [(0, jR f), (1, jI r0), (2, jI h), (3, jI m), (4, jI d), (5, jI v5), (6, jI v6_43), (7, jI v7_10)]) 6 dX0_binding_248 rfl ev6_43 (by omega) (by decide) rfl ?_
                          refine j_goto (tgt := 57) dX0_binding_251 (by decide) ?_
                          refine j_sub (ls' := [(0, jR f), (1, jI r0), (2, jI h), (3, jI m), (4, jI d), (5, jI v5), (6, jI v6_43)]) [0, 1, 2, 3, 4, 5, 6] rfl ?_
                          exact ih57 v5 v6_43 N57 ⟨by omega, by rw [ev6_43, hpre]; first | (exfalso; omega; done) | exact aSt_rp0 hv (by omega) (by omega) (by omega) (by omega) | exact aSt_rp3 hv (by omega) (by omega) (by rw [jup_zz, jup_self]) (fun j j0 j1 => by first | (rw [jup_zz, jup_at, if_neg (by omega)]; done) | rfl) | (rw [show v5 = v5 - 1 by omega]; first | exact aSt_rp2 hv (by omega) (by omega) (by rw [jup_zz, show v5 - 2 = v5 - 1 by omega, jup_self, show v5 - 1 = v5 by omega]) (fun j j0 j1 => by first | (rw [jup_zz, jup_at, if_neg (by omega)]; done) | rfl) | exact aSt_rp1 hv (by omega) (by omega) (by rw [jup_zz, show v5 - 2 = v5 - 1 by omega, jup_self, show v5 - 1 = v5 by omega]) (fun j j0 j1 => by first | (rw [jup_zz, jup_at, if_neg (by omega)]; done) | rfl)) | (rw [show v5 = v5 + 1 by omega]; exact aSt_rp4 hv (by omega) (by omega) (by rw [jup_zz, jup_self]; exact er_29) (fun j j0 j1 => by first | (rw [jup_zz, jup_at, if_neg (by omega)]; done) | rfl)), by intro c hc; first | exact hk c hc | (rw [jup_zz, jup_cell hc]; exact hk c hc)⟩ (by omega)
                        · skip
                          refine j_aload_n 0 dX0_binding_223 rfl rfl ?_
                          refine j_getr f_X0_39 (ra_11 hf) dX0_binding_224 ?_
                          refine j_iload 5 dX0_binding_227 rfl ?_
                          refine j_aload_n 0 dX0_binding_229 rfl rfl ?_
                          refine j_aload_n 0 dX0_binding_230 rfl rfl ?_
                          refine j_getr f_X0_36 (ra_10 hf) dX0_binding_231 ?_
                          refine j_iload 6 dX0_binding_234 rfl ?_
                          refine j_iald (aa_9 hf) dX0_binding_236 (by omega) (by omega) ?_
                          refine j_eq (congrFun (hk (f + 9) (by omega)) v6) ?_
                          refine j_iload_n 2 dX0_binding_237 rfl rfl ?_
                          refine j_iload_n 3 dX0_binding_238 rfl rfl ?_
                          refine j_iload 4 dX0_binding_239 rfl ?_
                          refine j_callVi l_X0_69 ⟨Nat.le_of_ble_eq_true rfl, Nat.le_of_ble_eq_true rfl⟩ ⟨rfl, rfl⟩ dX0_binding_241 (oba hf) (c_X0_test N57 f hf ((M (f + 9) v6)) h m d (by rw [(hk 12 (by omega))]; exact h_cfrom) (by rw [(hk 13 (by omega))]; exact h_cto) (by rw [(hk 10 (by omega))]; exact h_ckind) (by rw [(hk 2 (by omega))]; exact h_ctrade) (by rw [(hk 11 (by omega))]; exact h_cpapers) (by first | assumption | omega) (by first | assumption | omega) (by first | assumption | omega) (by first | assumption | omega)) rfl rfl (Nat.le_of_ble_eq_true rfl) (fun r_44 M_45 h_46 => ?_)
                          obtain ⟨er_44, nh_46⟩ := h_46
                          refine j_eqM nh_46 ?_
                          clear nh_46
                          simp only [(hk 12 (by omega)), (hk 13 (by omega)), (hk 10 (by omega)), (hk 2 (by omega)), (hk 11 (by omega))] at er_44
                          refine j_iast (aa_10 hf) dX0_binding_244 (by omega) (by omega) ?_
                          refine j_nmM (fun M_47 eM_47 => ?_)
                          obtain ⟨v5_48, ev5_48⟩ : ∃ y : Int, y = v5 + 1 := ⟨_, rfl⟩
                          refine j_iinc (y := v5_48) (ls' := [(0, jR f), (1, jI r0), (2, jI h), (3, jI m), (4, jI d), (5, jI v5_48), (6, jI v6), (7, jI v7_10)]) 5 dX0_binding_245 rfl ev5_48 (by omega) (by decide) rfl ?_
                          obtain ⟨v6_49, ev6_49⟩ : ∃ y : Int, y = v6 + 1 := ⟨_, rfl⟩
                          refine j_iinc (y := v6_49) (ls' := [(0, jR f), (1, jI r0), (2, jI h), (3, jI m), (4, jI d), (5, jI v5_48), (6, jI v6_49), (7, jI v7_10)]) 6 dX0_binding_248 rfl ev6_49 (by omega) (by decide) rfl ?_
                          refine j_goto (tgt := 57) dX0_binding_251 (by decide) ?_
                          refine j_sub (ls' := [(0, jR f), (1, jI r0), (2, jI h), (3, jI m), (4, jI d), (5, jI v5_48), (6, jI v6_49)]) [0, 1, 2, 3, 4, 5, 6] rfl ?_
                          exact ih57 v5_48 v6_49 M_47 ⟨by omega, by rw [ev6_49, hpre]; first | (exfalso; omega; done) | exact aSt_rp0 hv (by omega) (by omega) (by omega) (by omega) | exact aSt_rp3 hv (by omega) (by omega) (by rw [eM_47, jup_self]) (fun j j0 j1 => by first | (rw [eM_47, jup_at, if_neg (by omega)]; done) | rfl) | (rw [show v5_48 = v5 - 1 by omega]; first | exact aSt_rp2 hv (by omega) (by omega) (by rw [eM_47, show v5 - 2 = v5_48 - 1 by omega, jup_self, show v5 - 1 = v5_48 by omega]) (fun j j0 j1 => by first | (rw [eM_47, jup_at, if_neg (by omega)]; done) | rfl) | exact aSt_rp1 hv (by omega) (by omega) (by rw [eM_47, show v5 - 2 = v5_48 - 1 by omega, jup_self, show v5 - 1 = v5_48 by omega]) (fun j j0 j1 => by first | (rw [eM_47, jup_at, if_neg (by omega)]; done) | rfl)) | (rw [show v5_48 = v5 + 1 by omega]; exact aSt_rp4 hv (by omega) (by omega) (by rw [eM_47, jup_self]; exact er_44) (fun j j0 j1 => by first | (rw [eM_47, jup_at, if_neg (by omega)]; done) | rfl)), by intro c hc; first | exact hk c hc | (rw [eM_47, jup_cell hc]; exact hk c hc)⟩ (by omega)
                    · skip
                      refine j_iload 5 dX0_binding_167 rfl ?_
                      refine j_iconst dX0_binding_169 (by decide) ?_
                      refine j_icmp_le (tgt := 207) dX0_binding_170 (by decide) (fun c170_50 => ?_) (fun c170_50 => ?_)
                      · skip
                        refine j_iload 7 dX0_binding_207 rfl ?_
                        refine j_iconst dX0_binding_209 (by decide) ?_
                        refine j_icmp_le (tgt := 248) dX0_binding_210 (by decide) (fun c210_51 => ?_) (fun c210_51 => ?_)
                        · skip
                          obtain ⟨v6_52, ev6_52⟩ : ∃ y : Int, y = v6 + 1 := ⟨_, rfl⟩
                          refine j_iinc (y := v6_52) (ls' := [(0, jR f), (1, jI r0), (2, jI h), (3, jI m), (4, jI d), (5, jI v5), (6, jI v6_52), (7, jI v7_10)]) 6 dX0_binding_248 rfl ev6_52 (by omega) (by decide) rfl ?_
                          refine j_goto (tgt := 57) dX0_binding_251 (by decide) ?_
                          refine j_sub (ls' := [(0, jR f), (1, jI r0), (2, jI h), (3, jI m), (4, jI d), (5, jI v5), (6, jI v6_52)]) [0, 1, 2, 3, 4, 5, 6] rfl ?_
                          exact ih57 v5 v6_52 N57 ⟨by omega, by rw [ev6_52, hpre]; first | (exfalso; omega; done) | exact aSt_rp0 hv (by omega) (by omega) (by omega) (by omega) | exact aSt_rp3 hv (by omega) (by omega) (by rw [jup_zz, jup_self]) (fun j j0 j1 => by first | (rw [jup_zz, jup_at, if_neg (by omega)]; done) | rfl) | (rw [show v5 = v5 - 1 by omega]; first | exact aSt_rp2 hv (by omega) (by omega) (by rw [jup_zz, show v5 - 2 = v5 - 1 by omega, jup_self, show v5 - 1 = v5 by omega]) (fun j j0 j1 => by first | (rw [jup_zz, jup_at, if_neg (by omega)]; done) | rfl) | exact aSt_rp1 hv (by omega) (by omega) (by rw [jup_zz, show v5 - 2 = v5 - 1 by omega, jup_self, show v5 - 1 = v5 by omega]) (fun j j0 j1 => by first | (rw [jup_zz, jup_at, if_neg (by omega)]; done) | rfl)) | (rw [show v5 = v5 + 1 by omega]; exact aSt_rp4 hv (by omega) (by omega) (by rw [jup_zz, jup_self]; exact er_44) (fun j j0 j1 => by first | (rw [jup_zz, jup_at, if_neg (by omega)]; done) | rfl)), by intro c hc; first | exact hk c hc | (rw [jup_zz, jup_cell hc]; exact hk c hc)⟩ (by omega)
                        · skip
                          refine j_iload 5 dX0_binding_213 rfl ?_
                          refine j_aload_n 0 dX0_binding_215 rfl rfl ?_
                          refine j_getr f_X0_39 (ra_11 hf) dX0_binding_216 ?_
                          refine j_alen (n' := 64) (aa_10 hf) (by decide) dX0_binding_219 rfl ?_
                          refine j_icmp_ge (tgt := 248) dX0_binding_220 (by decide) (fun c220_53 => ?_) (fun c220_53 => ?_)
                          · skip
                            obtain ⟨v6_54, ev6_54⟩ : ∃ y : Int, y = v6 + 1 := ⟨_, rfl⟩
                            refine j_iinc (y := v6_54) (ls' := [(0, jR f), (1, jI r0), (2, jI h), (3, jI m), (4, jI d), (5, jI v5), (6, jI v6_54), (7, jI v7_10)]) 6 dX0_binding_248 rfl ev6_54 (by omega) (by decide) rfl ?_
                            refine j_goto (tgt := 57) dX0_binding_251 (by decide) ?_
                            refine j_sub (ls' := [(0, jR f), (1, jI r0), (2, jI h), (3, jI m), (4, jI d), (5, jI v5), (6, jI v6_54)]) [0, 1, 2, 3, 4, 5, 6] rfl ?_
                            exact ih57 v5 v6_54 N57 ⟨by omega, by rw [ev6_54, hpre]; first | (exfalso; omega; done) | exact aSt_rp0 hv (by omega) (by omega) (by omega) (by omega) | exact aSt_rp3 hv (by omega) (by omega) (by rw [jup_zz, jup_self]) (fun j j0 j1 => by first | (rw [jup_zz, jup_at, if_neg (by omega)]; done) | rfl) | (rw [show v5 = v5 - 1 by omega]; first | exact aSt_rp2 hv (by omega) (by omega) (by rw [jup_zz, show v5 - 2 = v5 - 1 by omega, jup_self, show v5 - 1 = v5 by omega]) (fun j j0 j1 => by first | (rw [jup_zz, jup_at, if_neg (by omega)]; done) | rfl) | exact aSt_rp1 hv (by omega) (by omega) (by rw [jup_zz, show v5 - 2 = v5 - 1 by omega, jup_self, show v5 - 1 = v5 by omega]) (fun j j0 j1 => by first | (rw [jup_zz, jup_at, if_neg (by omega)]; done) | rfl)) | (rw [show v5 = v5 + 1 by omega]; exact aSt_rp4 hv (by omega) (by omega) (by rw [jup_zz, jup_self]; exact er_44) (fun j j0 j1 => by first | (rw [jup_zz, jup_at, if_neg (by omega)]; done) | rfl)), by intro c hc; first | exact hk c hc | (rw [jup_zz, jup_cell hc]; exact hk c hc)⟩ (by omega)
                          · skip
                            refine j_aload_n 0 dX0_binding_223 rfl rfl ?_
                            refine j_getr f_X0_39 (ra_11 hf) dX0_binding_224 ?_
                            refine j_iload 5 dX0_binding_227 rfl ?_
                            refine j_aload_n 0 dX0_binding_229 rfl rfl ?_
                            refine j_aload_n 0 dX0_binding_230 rfl rfl ?_
                            refine j_getr f_X0_36 (ra_10 hf) dX0_binding_231 ?_
                            refine j_iload 6 dX0_binding_234 rfl ?_
                            refine j_iald (aa_9 hf) dX0_binding_236 (by omega) (by omega) ?_
                            refine j_eq (congrFun (hk (f + 9) (by omega)) v6) ?_
                            refine j_iload_n 2 dX0_binding_237 rfl rfl ?_
                            refine j_iload_n 3 dX0_binding_238 rfl rfl ?_
                            refine j_iload 4 dX0_binding_239 rfl ?_
                            refine j_callVi l_X0_69 ⟨Nat.le_of_ble_eq_true rfl, Nat.le_of_ble_eq_true rfl⟩ ⟨rfl, rfl⟩ dX0_binding_241 (oba hf) (c_X0_test N57 f hf ((M (f + 9) v6)) h m d (by rw [(hk 12 (by omega))]; exact h_cfrom) (by rw [(hk 13 (by omega))]; exact h_cto) (by rw [(hk 10 (by omega))]; exact h_ckind) (by rw [(hk 2 (by omega))]; exact h_ctrade) (by rw [(hk 11 (by omega))]; exact h_cpapers) (by first | assumption | omega) (by first | assumption | omega) (by first | assumption | omega) (by first | assumption | omega)) rfl rfl (Nat.le_of_ble_eq_true rfl) (fun r_55 M_56 h_57 => ?_)
                            obtain ⟨er_55, nh_57⟩ := h_57
                            refine j_eqM nh_57 ?_
                            clear nh_57
                            simp only [(hk 12 (by omega)), (hk 13 (by omega)), (hk 10 (by omega)), (hk 2 (by omega)), (hk 11 (by omega))] at er_55
                            refine j_iast (aa_10 hf) dX0_binding_244 (by omega) (by omega) ?_
                            refine j_nmM (fun M_58 eM_58 => ?_)
                            obtain ⟨v5_59, ev5_59⟩ : ∃ y : Int, y = v5 + 1 := ⟨_, rfl⟩
                            refine j_iinc (y := v5_59) (ls' := [(0, jR f), (1, jI r0), (2, jI h), (3, jI m), (4, jI d), (5, jI v5_59), (6, jI v6), (7, jI v7_10)]) 5 dX0_binding_245 rfl ev5_59 (by omega) (by decide) rfl ?_
                            obtain ⟨v6_60, ev6_60⟩ : ∃ y : Int, y = v6 + 1 := ⟨_, rfl⟩
                            refine j_iinc (y := v6_60) (ls' := [(0, jR f), (1, jI r0), (2, jI h), (3, jI m), (4, jI d), (5, jI v5_59), (6, jI v6_60), (7, jI v7_10)]) 6 dX0_binding_248 rfl ev6_60 (by omega) (by decide) rfl ?_
                            refine j_goto (tgt := 57) dX0_binding_251 (by decide) ?_
                            refine j_sub (ls' := [(0, jR f), (1, jI r0), (2, jI h), (3, jI m), (4, jI d), (5, jI v5_59), (6, jI v6_60)]) [0, 1, 2, 3, 4, 5, 6] rfl ?_
                            exact ih57 v5_59 v6_60 M_58 ⟨by omega, by rw [ev6_60, hpre]; first | (exfalso; omega; done) | exact aSt_rp0 hv (by omega) (by omega) (by omega) (by omega) | exact aSt_rp3 hv (by omega) (by omega) (by rw [eM_58, jup_self]) (fun j j0 j1 => by first | (rw [eM_58, jup_at, if_neg (by omega)]; done) | rfl) | (rw [show v5_59 = v5 - 1 by omega]; first | exact aSt_rp2 hv (by omega) (by omega) (by rw [eM_58, show v5 - 2 = v5_59 - 1 by omega, jup_self, show v5 - 1 = v5_59 by omega]) (fun j j0 j1 => by first | (rw [eM_58, jup_at, if_neg (by omega)]; done) | rfl) | exact aSt_rp1 hv (by omega) (by omega) (by rw [eM_58, show v5 - 2 = v5_59 - 1 by omega, jup_self, show v5 - 1 = v5_59 by omega]) (fun j j0 j1 => by first | (rw [eM_58, jup_at, if_neg (by omega)]; done) | rfl)) | (rw [show v5_59 = v5 + 1 by omega]; exact aSt_rp4 hv (by omega) (by omega) (by rw [eM_58, jup_self]; exact er_55) (fun j j0 j1 => by first | (rw [eM_58, jup_at, if_neg (by omega)]; done) | rfl)), by intro c hc; first | exact hk c hc | (rw [eM_58, jup_cell hc]; exact hk c hc)⟩ (by omega)
                      · skip
                        obtain ⟨v5_61, ev5_61⟩ : ∃ y : Int, y = v5 + (-1) := ⟨_, rfl⟩
                        refine j_iinc (y := v5_61) (ls' := [(0, jR f), (1, jI r0), (2, jI h), (3, jI m), (4, jI d), (5, jI v5_61), (6, jI v6), (7, jI v7_10)]) 5 dX0_binding_173 rfl ev5_61 (by omega) (by decide) rfl ?_
                        refine j_aload_n 0 dX0_binding_176 rfl rfl ?_
                        refine j_getr f_X0_39 (ra_11 hf) dX0_binding_177 ?_
                        refine j_iload 5 dX0_binding_180 rfl ?_
                        refine j_iconst dX0_binding_182 (by decide) ?_
                        refine j_isub dX0_binding_183 (by omega) ?_
                        refine j_aload_n 0 dX0_binding_184 rfl rfl ?_
                        refine j_getr f_X0_39 (ra_11 hf) dX0_binding_185 ?_
                        refine j_iload 5 dX0_binding_188 rfl ?_
                        refine j_iconst dX0_binding_190 (by decide) ?_
                        refine j_isub dX0_binding_191 (by omega) ?_
                        refine j_iald (aa_10 hf) dX0_binding_192 (by omega) (by omega) ?_
                        refine j_aload_n 0 dX0_binding_193 rfl rfl ?_
                        refine j_getr f_X0_39 (ra_11 hf) dX0_binding_194 ?_
                        refine j_iload 5 dX0_binding_197 rfl ?_
                        refine j_iald (aa_10 hf) dX0_binding_199 (by omega) (by omega) ?_
                        refine j_mmax lm_X0_66 lm_max ⟨Nat.le_of_ble_eq_true rfl, Nat.le_of_ble_eq_true rfl⟩ ⟨Nat.le_of_ble_eq_true rfl, Nat.le_of_ble_eq_true rfl⟩ dX0_binding_200 ?_
                        refine j_iast (aa_10 hf) dX0_binding_203 (by omega) (by omega) ?_
                        refine j_nmM (fun M_62 eM_62 => ?_)
                        refine j_goto (tgt := 248) dX0_binding_204 (by decide) ?_
                        obtain ⟨v6_63, ev6_63⟩ : ∃ y : Int, y = v6 + 1 := ⟨_, rfl⟩
                        refine j_iinc (y := v6_63) (ls' := [(0, jR f), (1, jI r0), (2, jI h), (3, jI m), (4, jI d), (5, jI v5_61), (6, jI v6_63), (7, jI v7_10)]) 6 dX0_binding_248 rfl ev6_63 (by omega) (by decide) rfl ?_
                        refine j_goto (tgt := 57) dX0_binding_251 (by decide) ?_
                        refine j_sub (ls' := [(0, jR f), (1, jI r0), (2, jI h), (3, jI m), (4, jI d), (5, jI v5_61), (6, jI v6_63)]) [0, 1, 2, 3, 4, 5, 6] rfl ?_
                        exact ih57 v5_61 v6_63 M_62 ⟨by omega, by rw [ev6_63, hpre]; first | (exfalso; omega; done) | exact aSt_rp0 hv (by omega) (by omega) (by omega) (by omega) | exact aSt_rp3 hv (by omega) (by omega) (by rw [eM_62, jup_self]) (fun j j0 j1 => by first | (rw [eM_62, jup_at, if_neg (by omega)]; done) | rfl) | (rw [show v5_61 = v5 - 1 by omega]; first | exact aSt_rp2 hv (by omega) (by omega) (by rw [eM_62, show v5 - 2 = v5_61 - 1 by omega, jup_self, show v5 - 1 = v5_61 by omega]) (fun j j0 j1 => by first | (rw [eM_62, jup_at, if_neg (by omega)]; done) | rfl) | exact aSt_rp1 hv (by omega) (by omega) (by rw [eM_62, show v5 - 2 = v5_61 - 1 by omega, jup_self, show v5 - 1 = v5_61 by omega]) (fun j j0 j1 => by first | (rw [eM_62, jup_at, if_neg (by omega)]; done) | rfl)) | (rw [show v5_61 = v5 + 1 by omega]; exact aSt_rp4 hv (by omega) (by omega) (by rw [eM_62, jup_self]; exact er_55) (fun j j0 j1 => by first | (rw [eM_62, jup_at, if_neg (by omega)]; done) | rfl)), by intro c hc; first | exact hk c hc | (rw [eM_62, jup_cell hc]; exact hk c hc)⟩ (by omega)
                  · skip
                    obtain ⟨v5_64, ev5_64⟩ : ∃ y : Int, y = v5 + (-1) := ⟨_, rfl⟩
                    refine j_iinc (y := v5_64) (ls' := [(0, jR f), (1, jI r0), (2, jI h), (3, jI m), (4, jI d), (5, jI v5_64), (6, jI v6), (7, jI v7_10)]) 5 dX0_binding_127 rfl ev5_64 (by omega) (by decide) rfl ?_
                    refine j_aload_n 0 dX0_binding_130 rfl rfl ?_
                    refine j_getr f_X0_39 (ra_11 hf) dX0_binding_131 ?_
                    refine j_iload 5 dX0_binding_134 rfl ?_
                    refine j_iconst dX0_binding_136 (by decide) ?_
                    refine j_isub dX0_binding_137 (by omega) ?_
                    refine j_aload_n 0 dX0_binding_138 rfl rfl ?_
                    refine j_getr f_X0_39 (ra_11 hf) dX0_binding_139 ?_
                    refine j_iload 5 dX0_binding_142 rfl ?_
                    refine j_iconst dX0_binding_144 (by decide) ?_
                    refine j_isub dX0_binding_145 (by omega) ?_
                    refine j_iald (aa_10 hf) dX0_binding_146 (by omega) (by omega) ?_
                    refine j_aload_n 0 dX0_binding_147 rfl rfl ?_
                    refine j_getr f_X0_39 (ra_11 hf) dX0_binding_148 ?_
                    refine j_iload 5 dX0_binding_151 rfl ?_
                    refine j_iald (aa_10 hf) dX0_binding_153 (by omega) (by omega) ?_
                    refine j_mmin lm_X0_60 lm_min ⟨Nat.le_of_ble_eq_true rfl, Nat.le_of_ble_eq_true rfl⟩ ⟨Nat.le_of_ble_eq_true rfl, Nat.le_of_ble_eq_true rfl⟩ dX0_binding_154 ?_
                    refine j_iast (aa_10 hf) dX0_binding_157 (by omega) (by omega) ?_
                    refine j_nmM (fun M_65 eM_65 => ?_)
                    refine j_goto (tgt := 248) dX0_binding_158 (by decide) ?_
                    obtain ⟨v6_66, ev6_66⟩ : ∃ y : Int, y = v6 + 1 := ⟨_, rfl⟩
                    refine j_iinc (y := v6_66) (ls' := [(0, jR f), (1, jI r0), (2, jI h), (3, jI m), (4, jI d), (5, jI v5_64), (6, jI v6_66), (7, jI v7_10)]) 6 dX0_binding_248 rfl ev6_66 (by omega) (by decide) rfl ?_
                    refine j_goto (tgt := 57) dX0_binding_251 (by decide) ?_
                    refine j_sub (ls' := [(0, jR f), (1, jI r0), (2, jI h), (3, jI m), (4, jI d), (5, jI v5_64), (6, jI v6_66)]) [0, 1, 2, 3, 4, 5, 6] rfl ?_
                    exact ih57 v5_64 v6_66 M_65 ⟨by omega, by rw [ev6_66, hpre]; first | (exfalso; omega; done) | exact aSt_rp0 hv (by omega) (by omega) (by omega) (by omega) | exact aSt_rp3 hv (by omega) (by omega) (by rw [eM_65, jup_self]) (fun j j0 j1 => by first | (rw [eM_65, jup_at, if_neg (by omega)]; done) | rfl) | (rw [show v5_64 = v5 - 1 by omega]; first | exact aSt_rp2 hv (by omega) (by omega) (by rw [eM_65, show v5 - 2 = v5_64 - 1 by omega, jup_self, show v5 - 1 = v5_64 by omega]) (fun j j0 j1 => by first | (rw [eM_65, jup_at, if_neg (by omega)]; done) | rfl) | exact aSt_rp1 hv (by omega) (by omega) (by rw [eM_65, show v5 - 2 = v5_64 - 1 by omega, jup_self, show v5 - 1 = v5_64 by omega]) (fun j j0 j1 => by first | (rw [eM_65, jup_at, if_neg (by omega)]; done) | rfl)) | (rw [show v5_64 = v5 + 1 by omega]; exact aSt_rp4 hv (by omega) (by omega) (by rw [eM_65, jup_self]; exact er_55) (fun j j0 j1 => by first | (rw [eM_65, jup_at, if_neg (by omega)]; done) | rfl)), by intro c hc; first | exact hk c hc | (rw [eM_65, jup_cell hc]; exact hk c hc)⟩ (by omega)
              · skip
                refine j_iload 5 dX0_binding_87 rfl ?_
                refine j_if_le (tgt := 115) dX0_binding_89 (by decide) (fun c89_67 => ?_) (fun c89_67 => ?_)
                · skip
                  refine j_iload 7 dX0_binding_115 rfl ?_
                  refine j_iconst dX0_binding_117 (by decide) ?_
                  refine j_icmp_ne (tgt := 161) dX0_binding_118 (by decide) (fun c118_68 => ?_) (fun c118_68 => ?_)
                  · skip
                    refine j_iload 7 dX0_binding_161 rfl ?_
                    refine j_iconst dX0_binding_163 (by decide) ?_
                    refine j_icmp_ne (tgt := 207) dX0_binding_164 (by decide) (fun c164_69 => ?_) (fun c164_69 => ?_)
                    · skip
                      refine j_iload 7 dX0_binding_207 rfl ?_
                      refine j_iconst dX0_binding_209 (by decide) ?_
                      refine j_icmp_le (tgt := 248) dX0_binding_210 (by decide) (fun c210_70 => ?_) (fun c210_70 => ?_)
                      · skip
                        obtain ⟨v6_71, ev6_71⟩ : ∃ y : Int, y = v6 + 1 := ⟨_, rfl⟩
                        refine j_iinc (y := v6_71) (ls' := [(0, jR f), (1, jI r0), (2, jI h), (3, jI m), (4, jI d), (5, jI v5), (6, jI v6_71), (7, jI v7_10)]) 6 dX0_binding_248 rfl ev6_71 (by omega) (by decide) rfl ?_
                        refine j_goto (tgt := 57) dX0_binding_251 (by decide) ?_
                        refine j_sub (ls' := [(0, jR f), (1, jI r0), (2, jI h), (3, jI m), (4, jI d), (5, jI v5), (6, jI v6_71)]) [0, 1, 2, 3, 4, 5, 6] rfl ?_
                        exact ih57 v5 v6_71 N57 ⟨by omega, by rw [ev6_71, hpre]; first | (exfalso; omega; done) | exact aSt_rp0 hv (by omega) (by omega) (by omega) (by omega) | exact aSt_rp3 hv (by omega) (by omega) (by rw [jup_zz, jup_self]) (fun j j0 j1 => by first | (rw [jup_zz, jup_at, if_neg (by omega)]; done) | rfl) | (rw [show v5 = v5 - 1 by omega]; first | exact aSt_rp2 hv (by omega) (by omega) (by rw [jup_zz, show v5 - 2 = v5 - 1 by omega, jup_self, show v5 - 1 = v5 by omega]) (fun j j0 j1 => by first | (rw [jup_zz, jup_at, if_neg (by omega)]; done) | rfl) | exact aSt_rp1 hv (by omega) (by omega) (by rw [jup_zz, show v5 - 2 = v5 - 1 by omega, jup_self, show v5 - 1 = v5 by omega]) (fun j j0 j1 => by first | (rw [jup_zz, jup_at, if_neg (by omega)]; done) | rfl)) | (rw [show v5 = v5 + 1 by omega]; exact aSt_rp4 hv (by omega) (by omega) (by rw [jup_zz, jup_self]; exact er_55) (fun j j0 j1 => by first | (rw [jup_zz, jup_at, if_neg (by omega)]; done) | rfl)), by intro c hc; first | exact hk c hc | (rw [jup_zz, jup_cell hc]; exact hk c hc)⟩ (by omega)
                      · skip
                        refine j_iload 5 dX0_binding_213 rfl ?_
                        refine j_aload_n 0 dX0_binding_215 rfl rfl ?_
                        refine j_getr f_X0_39 (ra_11 hf) dX0_binding_216 ?_
                        refine j_alen (n' := 64) (aa_10 hf) (by decide) dX0_binding_219 rfl ?_
                        refine j_icmp_ge (tgt := 248) dX0_binding_220 (by decide) (fun c220_72 => ?_) (fun c220_72 => ?_)
                        · skip
                          obtain ⟨v6_73, ev6_73⟩ : ∃ y : Int, y = v6 + 1 := ⟨_, rfl⟩
                          refine j_iinc (y := v6_73) (ls' := [(0, jR f), (1, jI r0), (2, jI h), (3, jI m), (4, jI d), (5, jI v5), (6, jI v6_73), (7, jI v7_10)]) 6 dX0_binding_248 rfl ev6_73 (by omega) (by decide) rfl ?_
                          refine j_goto (tgt := 57) dX0_binding_251 (by decide) ?_
                          refine j_sub (ls' := [(0, jR f), (1, jI r0), (2, jI h), (3, jI m), (4, jI d), (5, jI v5), (6, jI v6_73)]) [0, 1, 2, 3, 4, 5, 6] rfl ?_
                          exact ih57 v5 v6_73 N57 ⟨by omega, by rw [ev6_73, hpre]; first | (exfalso; omega; done) | exact aSt_rp0 hv (by omega) (by omega) (by omega) (by omega) | exact aSt_rp3 hv (by omega) (by omega) (by rw [jup_zz, jup_self]) (fun j j0 j1 => by first | (rw [jup_zz, jup_at, if_neg (by omega)]; done) | rfl) | (rw [show v5 = v5 - 1 by omega]; first | exact aSt_rp2 hv (by omega) (by omega) (by rw [jup_zz, show v5 - 2 = v5 - 1 by omega, jup_self, show v5 - 1 = v5 by omega]) (fun j j0 j1 => by first | (rw [jup_zz, jup_at, if_neg (by omega)]; done) | rfl) | exact aSt_rp1 hv (by omega) (by omega) (by rw [jup_zz, show v5 - 2 = v5 - 1 by omega, jup_self, show v5 - 1 = v5 by omega]) (fun j j0 j1 => by first | (rw [jup_zz, jup_at, if_neg (by omega)]; done) | rfl)) | (rw [show v5 = v5 + 1 by omega]; exact aSt_rp4 hv (by omega) (by omega) (by rw [jup_zz, jup_self]; exact er_55) (fun j j0 j1 => by first | (rw [jup_zz, jup_at, if_neg (by omega)]; done) | rfl)), by intro c hc; first | exact hk c hc | (rw [jup_zz, jup_cell hc]; exact hk c hc)⟩ (by omega)
                        · skip
                          refine j_aload_n 0 dX0_binding_223 rfl rfl ?_
                          refine j_getr f_X0_39 (ra_11 hf) dX0_binding_224 ?_
                          refine j_iload 5 dX0_binding_227 rfl ?_
                          refine j_aload_n 0 dX0_binding_229 rfl rfl ?_
                          refine j_aload_n 0 dX0_binding_230 rfl rfl ?_
                          refine j_getr f_X0_36 (ra_10 hf) dX0_binding_231 ?_
                          refine j_iload 6 dX0_binding_234 rfl ?_
                          refine j_iald (aa_9 hf) dX0_binding_236 (by omega) (by omega) ?_
                          refine j_eq (congrFun (hk (f + 9) (by omega)) v6) ?_
                          refine j_iload_n 2 dX0_binding_237 rfl rfl ?_
                          refine j_iload_n 3 dX0_binding_238 rfl rfl ?_
                          refine j_iload 4 dX0_binding_239 rfl ?_
                          refine j_callVi l_X0_69 ⟨Nat.le_of_ble_eq_true rfl, Nat.le_of_ble_eq_true rfl⟩ ⟨rfl, rfl⟩ dX0_binding_241 (oba hf) (c_X0_test N57 f hf ((M (f + 9) v6)) h m d (by rw [(hk 12 (by omega))]; exact h_cfrom) (by rw [(hk 13 (by omega))]; exact h_cto) (by rw [(hk 10 (by omega))]; exact h_ckind) (by rw [(hk 2 (by omega))]; exact h_ctrade) (by rw [(hk 11 (by omega))]; exact h_cpapers) (by first | assumption | omega) (by first | assumption | omega) (by first | assumption | omega) (by first | assumption | omega)) rfl rfl (Nat.le_of_ble_eq_true rfl) (fun r_74 M_75 h_76 => ?_)
                          obtain ⟨er_74, nh_76⟩ := h_76
                          refine j_eqM nh_76 ?_
                          clear nh_76
                          simp only [(hk 12 (by omega)), (hk 13 (by omega)), (hk 10 (by omega)), (hk 2 (by omega)), (hk 11 (by omega))] at er_74
                          refine j_iast (aa_10 hf) dX0_binding_244 (by omega) (by omega) ?_
                          refine j_nmM (fun M_77 eM_77 => ?_)
                          obtain ⟨v5_78, ev5_78⟩ : ∃ y : Int, y = v5 + 1 := ⟨_, rfl⟩
                          refine j_iinc (y := v5_78) (ls' := [(0, jR f), (1, jI r0), (2, jI h), (3, jI m), (4, jI d), (5, jI v5_78), (6, jI v6), (7, jI v7_10)]) 5 dX0_binding_245 rfl ev5_78 (by omega) (by decide) rfl ?_
                          obtain ⟨v6_79, ev6_79⟩ : ∃ y : Int, y = v6 + 1 := ⟨_, rfl⟩
                          refine j_iinc (y := v6_79) (ls' := [(0, jR f), (1, jI r0), (2, jI h), (3, jI m), (4, jI d), (5, jI v5_78), (6, jI v6_79), (7, jI v7_10)]) 6 dX0_binding_248 rfl ev6_79 (by omega) (by decide) rfl ?_
                          refine j_goto (tgt := 57) dX0_binding_251 (by decide) ?_
                          refine j_sub (ls' := [(0, jR f), (1, jI r0), (2, jI h), (3, jI m), (4, jI d), (5, jI v5_78), (6, jI v6_79)]) [0, 1, 2, 3, 4, 5, 6] rfl ?_
                          exact ih57 v5_78 v6_79 M_77 ⟨by omega, by rw [ev6_79, hpre]; first | (exfalso; omega; done) | exact aSt_rp0 hv (by omega) (by omega) (by omega) (by omega) | exact aSt_rp3 hv (by omega) (by omega) (by rw [eM_77, jup_self]) (fun j j0 j1 => by first | (rw [eM_77, jup_at, if_neg (by omega)]; done) | rfl) | (rw [show v5_78 = v5 - 1 by omega]; first | exact aSt_rp2 hv (by omega) (by omega) (by rw [eM_77, show v5 - 2 = v5_78 - 1 by omega, jup_self, show v5 - 1 = v5_78 by omega]) (fun j j0 j1 => by first | (rw [eM_77, jup_at, if_neg (by omega)]; done) | rfl) | exact aSt_rp1 hv (by omega) (by omega) (by rw [eM_77, show v5 - 2 = v5_78 - 1 by omega, jup_self, show v5 - 1 = v5_78 by omega]) (fun j j0 j1 => by first | (rw [eM_77, jup_at, if_neg (by omega)]; done) | rfl)) | (rw [show v5_78 = v5 + 1 by omega]; exact aSt_rp4 hv (by omega) (by omega) (by rw [eM_77, jup_self]; exact er_74) (fun j j0 j1 => by first | (rw [eM_77, jup_at, if_neg (by omega)]; done) | rfl)), by intro c hc; first | exact hk c hc | (rw [eM_77, jup_cell hc]; exact hk c hc)⟩ (by omega)
                    · skip
                      refine j_iload 5 dX0_binding_167 rfl ?_
                      refine j_iconst dX0_binding_169 (by decide) ?_
                      refine j_icmp_le (tgt := 207) dX0_binding_170 (by decide) (fun c170_80 => ?_) (fun c170_80 => ?_)
                      · skip
                        refine j_iload 7 dX0_binding_207 rfl ?_
                        refine j_iconst dX0_binding_209 (by decide) ?_
                        refine j_icmp_le (tgt := 248) dX0_binding_210 (by decide) (fun c210_81 => ?_) (fun c210_81 => ?_)
                        · skip
                          obtain ⟨v6_82, ev6_82⟩ : ∃ y : Int, y = v6 + 1 := ⟨_, rfl⟩
                          refine j_iinc (y := v6_82) (ls' := [(0, jR f), (1, jI r0), (2, jI h), (3, jI m), (4, jI d), (5, jI v5), (6, jI v6_82), (7, jI v7_10)]) 6 dX0_binding_248 rfl ev6_82 (by omega) (by decide) rfl ?_
                          refine j_goto (tgt := 57) dX0_binding_251 (by decide) ?_
                          refine j_sub (ls' := [(0, jR f), (1, jI r0), (2, jI h), (3, jI m), (4, jI d), (5, jI v5), (6, jI v6_82)]) [0, 1, 2, 3, 4, 5, 6] rfl ?_
                          exact ih57 v5 v6_82 N57 ⟨by omega, by rw [ev6_82, hpre]; first | (exfalso; omega; done) | exact aSt_rp0 hv (by omega) (by omega) (by omega) (by omega) | exact aSt_rp3 hv (by omega) (by omega) (by rw [jup_zz, jup_self]) (fun j j0 j1 => by first | (rw [jup_zz, jup_at, if_neg (by omega)]; done) | rfl) | (rw [show v5 = v5 - 1 by omega]; first | exact aSt_rp2 hv (by omega) (by omega) (by rw [jup_zz, show v5 - 2 = v5 - 1 by omega, jup_self, show v5 - 1 = v5 by omega]) (fun j j0 j1 => by first | (rw [jup_zz, jup_at, if_neg (by omega)]; done) | rfl) | exact aSt_rp1 hv (by omega) (by omega) (by rw [jup_zz, show v5 - 2 = v5 - 1 by omega, jup_self, show v5 - 1 = v5 by omega]) (fun j j0 j1 => by first | (rw [jup_zz, jup_at, if_neg (by omega)]; done) | rfl)) | (rw [show v5 = v5 + 1 by omega]; exact aSt_rp4 hv (by omega) (by omega) (by rw [jup_zz, jup_self]; exact er_74) (fun j j0 j1 => by first | (rw [jup_zz, jup_at, if_neg (by omega)]; done) | rfl)), by intro c hc; first | exact hk c hc | (rw [jup_zz, jup_cell hc]; exact hk c hc)⟩ (by omega)
                        · skip
                          refine j_iload 5 dX0_binding_213 rfl ?_
                          refine j_aload_n 0 dX0_binding_215 rfl rfl ?_
                          refine j_getr f_X0_39 (ra_11 hf) dX0_binding_216 ?_
                          refine j_alen (n' := 64) (aa_10 hf) (by decide) dX0_binding_219 rfl ?_
                          refine j_icmp_ge (tgt := 248) dX0_binding_220 (by decide) (fun c220_83 => ?_) (fun c220_83 => ?_)
                          · skip
                            obtain ⟨v6_84, ev6_84⟩ : ∃ y : Int, y = v6 + 1 := ⟨_, rfl⟩
                            refine j_iinc (y := v6_84) (ls' := [(0, jR f), (1, jI r0), (2, jI h), (3, jI m), (4, jI d), (5, jI v5), (6, jI v6_84), (7, jI v7_10)]) 6 dX0_binding_248 rfl ev6_84 (by omega) (by decide) rfl ?_
                            refine j_goto (tgt := 57) dX0_binding_251 (by decide) ?_
                            refine j_sub (ls' := [(0, jR f), (1, jI r0), (2, jI h), (3, jI m), (4, jI d), (5, jI v5), (6, jI v6_84)]) [0, 1, 2, 3, 4, 5, 6] rfl ?_
                            exact ih57 v5 v6_84 N57 ⟨by omega, by rw [ev6_84, hpre]; first | (exfalso; omega; done) | exact aSt_rp0 hv (by omega) (by omega) (by omega) (by omega) | exact aSt_rp3 hv (by omega) (by omega) (by rw [jup_zz, jup_self]) (fun j j0 j1 => by first | (rw [jup_zz, jup_at, if_neg (by omega)]; done) | rfl) | (rw [show v5 = v5 - 1 by omega]; first | exact aSt_rp2 hv (by omega) (by omega) (by rw [jup_zz, show v5 - 2 = v5 - 1 by omega, jup_self, show v5 - 1 = v5 by omega]) (fun j j0 j1 => by first | (rw [jup_zz, jup_at, if_neg (by omega)]; done) | rfl) | exact aSt_rp1 hv (by omega) (by omega) (by rw [jup_zz, show v5 - 2 = v5 - 1 by omega, jup_self, show v5 - 1 = v5 by omega]) (fun j j0 j1 => by first | (rw [jup_zz, jup_at, if_neg (by omega)]; done) | rfl)) | (rw [show v5 = v5 + 1 by omega]; exact aSt_rp4 hv (by omega) (by omega) (by rw [jup_zz, jup_self]; exact er_74) (fun j j0 j1 => by first | (rw [jup_zz, jup_at, if_neg (by omega)]; done) | rfl)), by intro c hc; first | exact hk c hc | (rw [jup_zz, jup_cell hc]; exact hk c hc)⟩ (by omega)
                          · skip
                            refine j_aload_n 0 dX0_binding_223 rfl rfl ?_
                            refine j_getr f_X0_39 (ra_11 hf) dX0_binding_224 ?_
                            refine j_iload 5 dX0_binding_227 rfl ?_
                            refine j_aload_n 0 dX0_binding_229 rfl rfl ?_
                            refine j_aload_n 0 dX0_binding_230 rfl rfl ?_
                            refine j_getr f_X0_36 (ra_10 hf) dX0_binding_231 ?_
                            refine j_iload 6 dX0_binding_234 rfl ?_
                            refine j_iald (aa_9 hf) dX0_binding_236 (by omega) (by omega) ?_
                            refine j_eq (congrFun (hk (f + 9) (by omega)) v6) ?_
                            refine j_iload_n 2 dX0_binding_237 rfl rfl ?_
                            refine j_iload_n 3 dX0_binding_238 rfl rfl ?_
                            refine j_iload 4 dX0_binding_239 rfl ?_
                            refine j_callVi l_X0_69 ⟨Nat.le_of_ble_eq_true rfl, Nat.le_of_ble_eq_true rfl⟩ ⟨rfl, rfl⟩ dX0_binding_241 (oba hf) (c_X0_test N57 f hf ((M (f + 9) v6)) h m d (by rw [(hk 12 (by omega))]; exact h_cfrom) (by rw [(hk 13 (by omega))]; exact h_cto) (by rw [(hk 10 (by omega))]; exact h_ckind) (by rw [(hk 2 (by omega))]; exact h_ctrade) (by rw [(hk 11 (by omega))]; exact h_cpapers) (by first | assumption | omega) (by first | assumption | omega) (by first | assumption | omega) (by first | assumption | omega)) rfl rfl (Nat.le_of_ble_eq_true rfl) (fun r_85 M_86 h_87 => ?_)
                            obtain ⟨er_85, nh_87⟩ := h_87
                            refine j_eqM nh_87 ?_
                            clear nh_87
                            simp only [(hk 12 (by omega)), (hk 13 (by omega)), (hk 10 (by omega)), (hk 2 (by omega)), (hk 11 (by omega))] at er_85
                            refine j_iast (aa_10 hf) dX0_binding_244 (by omega) (by omega) ?_
                            refine j_nmM (fun M_88 eM_88 => ?_)
                            obtain ⟨v5_89, ev5_89⟩ : ∃ y : Int, y = v5 + 1 := ⟨_, rfl⟩
                            refine j_iinc (y := v5_89) (ls' := [(0, jR f), (1, jI r0), (2, jI h), (3, jI m), (4, jI d), (5, jI v5_89), (6, jI v6), (7, jI v7_10)]) 5 dX0_binding_245 rfl ev5_89 (by omega) (by decide) rfl ?_
                            obtain ⟨v6_90, ev6_90⟩ : ∃ y : Int, y = v6 + 1 := ⟨_, rfl⟩
                            refine j_iinc (y := v6_90) (ls' := [(0, jR f), (1, jI r0), (2, jI h), (3, jI m), (4, jI d), (5, jI v5_89), (6, jI v6_90), (7, jI v7_10)]) 6 dX0_binding_248 rfl ev6_90 (by omega) (by decide) rfl ?_
                            refine j_goto (tgt := 57) dX0_binding_251 (by decide) ?_
                            refine j_sub (ls' := [(0, jR f), (1, jI r0), (2, jI h), (3, jI m), (4, jI d), (5, jI v5_89), (6, jI v6_90)]) [0, 1, 2, 3, 4, 5, 6] rfl ?_
                            exact ih57 v5_89 v6_90 M_88 ⟨by omega, by rw [ev6_90, hpre]; first | (exfalso; omega; done) | exact aSt_rp0 hv (by omega) (by omega) (by omega) (by omega) | exact aSt_rp3 hv (by omega) (by omega) (by rw [eM_88, jup_self]) (fun j j0 j1 => by first | (rw [eM_88, jup_at, if_neg (by omega)]; done) | rfl) | (rw [show v5_89 = v5 - 1 by omega]; first | exact aSt_rp2 hv (by omega) (by omega) (by rw [eM_88, show v5 - 2 = v5_89 - 1 by omega, jup_self, show v5 - 1 = v5_89 by omega]) (fun j j0 j1 => by first | (rw [eM_88, jup_at, if_neg (by omega)]; done) | rfl) | exact aSt_rp1 hv (by omega) (by omega) (by rw [eM_88, show v5 - 2 = v5_89 - 1 by omega, jup_self, show v5 - 1 = v5_89 by omega]) (fun j j0 j1 => by first | (rw [eM_88, jup_at, if_neg (by omega)]; done) | rfl)) | (rw [show v5_89 = v5 + 1 by omega]; exact aSt_rp4 hv (by omega) (by omega) (by rw [eM_88, jup_self]; exact er_85) (fun j j0 j1 => by first | (rw [eM_88, jup_at, if_neg (by omega)]; done) | rfl)), by intro c hc; first | exact hk c hc | (rw [eM_88, jup_cell hc]; exact hk c hc)⟩ (by omega)
                      · skip
                        obtain ⟨v5_91, ev5_91⟩ : ∃ y : Int, y = v5 + (-1) := ⟨_, rfl⟩
                        refine j_iinc (y := v5_91) (ls' := [(0, jR f), (1, jI r0), (2, jI h), (3, jI m), (4, jI d), (5, jI v5_91), (6, jI v6), (7, jI v7_10)]) 5 dX0_binding_173 rfl ev5_91 (by omega) (by decide) rfl ?_
                        refine j_aload_n 0 dX0_binding_176 rfl rfl ?_
                        refine j_getr f_X0_39 (ra_11 hf) dX0_binding_177 ?_
                        refine j_iload 5 dX0_binding_180 rfl ?_
                        refine j_iconst dX0_binding_182 (by decide) ?_
                        refine j_isub dX0_binding_183 (by omega) ?_
                        refine j_aload_n 0 dX0_binding_184 rfl rfl ?_
                        refine j_getr f_X0_39 (ra_11 hf) dX0_binding_185 ?_
                        refine j_iload 5 dX0_binding_188 rfl ?_
                        refine j_iconst dX0_binding_190 (by decide) ?_
                        refine j_isub dX0_binding_191 (by omega) ?_
                        refine j_iald (aa_10 hf) dX0_binding_192 (by omega) (by omega) ?_
                        refine j_aload_n 0 dX0_binding_193 rfl rfl ?_
                        refine j_getr f_X0_39 (ra_11 hf) dX0_binding_194 ?_
                        refine j_iload 5 dX0_binding_197 rfl ?_
                        refine j_iald (aa_10 hf) dX0_binding_199 (by omega) (by omega) ?_
                        refine j_mmax lm_X0_66 lm_max ⟨Nat.le_of_ble_eq_true rfl, Nat.le_of_ble_eq_true rfl⟩ ⟨Nat.le_of_ble_eq_true rfl, Nat.le_of_ble_eq_true rfl⟩ dX0_binding_200 ?_
                        refine j_iast (aa_10 hf) dX0_binding_203 (by omega) (by omega) ?_
                        refine j_nmM (fun M_92 eM_92 => ?_)
                        refine j_goto (tgt := 248) dX0_binding_204 (by decide) ?_
                        obtain ⟨v6_93, ev6_93⟩ : ∃ y : Int, y = v6 + 1 := ⟨_, rfl⟩
                        refine j_iinc (y := v6_93) (ls' := [(0, jR f), (1, jI r0), (2, jI h), (3, jI m), (4, jI d), (5, jI v5_91), (6, jI v6_93), (7, jI v7_10)]) 6 dX0_binding_248 rfl ev6_93 (by omega) (by decide) rfl ?_
                        refine j_goto (tgt := 57) dX0_binding_251 (by decide) ?_
                        refine j_sub (ls' := [(0, jR f), (1, jI r0), (2, jI h), (3, jI m), (4, jI d), (5, jI v5_91), (6, jI v6_93)]) [0, 1, 2, 3, 4, 5, 6] rfl ?_
                        exact ih57 v5_91 v6_93 M_92 ⟨by omega, by rw [ev6_93, hpre]; first | (exfalso; omega; done) | exact aSt_rp0 hv (by omega) (by omega) (by omega) (by omega) | exact aSt_rp3 hv (by omega) (by omega) (by rw [eM_92, jup_self]) (fun j j0 j1 => by first | (rw [eM_92, jup_at, if_neg (by omega)]; done) | rfl) | (rw [show v5_91 = v5 - 1 by omega]; first | exact aSt_rp2 hv (by omega) (by omega) (by rw [eM_92, show v5 - 2 = v5_91 - 1 by omega, jup_self, show v5 - 1 = v5_91 by omega]) (fun j j0 j1 => by first | (rw [eM_92, jup_at, if_neg (by omega)]; done) | rfl) | exact aSt_rp1 hv (by omega) (by omega) (by rw [eM_92, show v5 - 2 = v5_91 - 1 by omega, jup_self, show v5 - 1 = v5_91 by omega]) (fun j j0 j1 => by first | (rw [eM_92, jup_at, if_neg (by omega)]; done) | rfl)) | (rw [show v5_91 = v5 + 1 by omega]; exact aSt_rp4 hv (by omega) (by omega) (by rw [eM_92, jup_self]; exact er_85) (fun j j0 j1 => by first | (rw [eM_92, jup_at, if_neg (by omega)]; done) | rfl)), by intro c hc; first | exact hk c hc | (rw [eM_92, jup_cell hc]; exact hk c hc)⟩ (by omega)
                  · skip
                    refine j_iload 5 dX0_binding_121 rfl ?_
                    refine j_iconst dX0_binding_123 (by decide) ?_
                    refine j_icmp_le (tgt := 161) dX0_binding_124 (by decide) (fun c124_94 => ?_) (fun c124_94 => ?_)
                    · skip
                      refine j_iload 7 dX0_binding_161 rfl ?_
                      refine j_iconst dX0_binding_163 (by decide) ?_
                      refine j_icmp_ne (tgt := 207) dX0_binding_164 (by decide) (fun c164_95 => ?_) (fun c164_95 => ?_)
                      · skip
                        refine j_iload 7 dX0_binding_207 rfl ?_
                        refine j_iconst dX0_binding_209 (by decide) ?_
                        refine j_icmp_le (tgt := 248) dX0_binding_210 (by decide) (fun c210_96 => ?_) (fun c210_96 => ?_)
                        · skip
                          obtain ⟨v6_97, ev6_97⟩ : ∃ y : Int, y = v6 + 1 := ⟨_, rfl⟩
                          refine j_iinc (y := v6_97) (ls' := [(0, jR f), (1, jI r0), (2, jI h), (3, jI m), (4, jI d), (5, jI v5), (6, jI v6_97), (7, jI v7_10)]) 6 dX0_binding_248 rfl ev6_97 (by omega) (by decide) rfl ?_
                          refine j_goto (tgt := 57) dX0_binding_251 (by decide) ?_
                          refine j_sub (ls' := [(0, jR f), (1, jI r0), (2, jI h), (3, jI m), (4, jI d), (5, jI v5), (6, jI v6_97)]) [0, 1, 2, 3, 4, 5, 6] rfl ?_
                          exact ih57 v5 v6_97 N57 ⟨by omega, by rw [ev6_97, hpre]; first | (exfalso; omega; done) | exact aSt_rp0 hv (by omega) (by omega) (by omega) (by omega) | exact aSt_rp3 hv (by omega) (by omega) (by rw [jup_zz, jup_self]) (fun j j0 j1 => by first | (rw [jup_zz, jup_at, if_neg (by omega)]; done) | rfl) | (rw [show v5 = v5 - 1 by omega]; first | exact aSt_rp2 hv (by omega) (by omega) (by rw [jup_zz, show v5 - 2 = v5 - 1 by omega, jup_self, show v5 - 1 = v5 by omega]) (fun j j0 j1 => by first | (rw [jup_zz, jup_at, if_neg (by omega)]; done) | rfl) | exact aSt_rp1 hv (by omega) (by omega) (by rw [jup_zz, show v5 - 2 = v5 - 1 by omega, jup_self, show v5 - 1 = v5 by omega]) (fun j j0 j1 => by first | (rw [jup_zz, jup_at, if_neg (by omega)]; done) | rfl)) | (rw [show v5 = v5 + 1 by omega]; exact aSt_rp4 hv (by omega) (by omega) (by rw [jup_zz, jup_self]; exact er_85) (fun j j0 j1 => by first | (rw [jup_zz, jup_at, if_neg (by omega)]; done) | rfl)), by intro c hc; first | exact hk c hc | (rw [jup_zz, jup_cell hc]; exact hk c hc)⟩ (by omega)
                        · skip
                          refine j_iload 5 dX0_binding_213 rfl ?_
                          refine j_aload_n 0 dX0_binding_215 rfl rfl ?_
                          refine j_getr f_X0_39 (ra_11 hf) dX0_binding_216 ?_
                          refine j_alen (n' := 64) (aa_10 hf) (by decide) dX0_binding_219 rfl ?_
                          refine j_icmp_ge (tgt := 248) dX0_binding_220 (by decide) (fun c220_98 => ?_) (fun c220_98 => ?_)
                          · skip
                            obtain ⟨v6_99, ev6_99⟩ : ∃ y : Int, y = v6 + 1 := ⟨_, rfl⟩
                            refine j_iinc (y := v6_99) (ls' := [(0, jR f), (1, jI r0), (2, jI h), (3, jI m), (4, jI d), (5, jI v5), (6, jI v6_99), (7, jI v7_10)]) 6 dX0_binding_248 rfl ev6_99 (by omega) (by decide) rfl ?_
                            refine j_goto (tgt := 57) dX0_binding_251 (by decide) ?_
                            refine j_sub (ls' := [(0, jR f), (1, jI r0), (2, jI h), (3, jI m), (4, jI d), (5, jI v5), (6, jI v6_99)]) [0, 1, 2, 3, 4, 5, 6] rfl ?_
                            exact ih57 v5 v6_99 N57 ⟨by omega, by rw [ev6_99, hpre]; first | (exfalso; omega; done) | exact aSt_rp0 hv (by omega) (by omega) (by omega) (by omega) | exact aSt_rp3 hv (by omega) (by omega) (by rw [jup_zz, jup_self]) (fun j j0 j1 => by first | (rw [jup_zz, jup_at, if_neg (by omega)]; done) | rfl) | (rw [show v5 = v5 - 1 by omega]; first | exact aSt_rp2 hv (by omega) (by omega) (by rw [jup_zz, show v5 - 2 = v5 - 1 by omega, jup_self, show v5 - 1 = v5 by omega]) (fun j j0 j1 => by first | (rw [jup_zz, jup_at, if_neg (by omega)]; done) | rfl) | exact aSt_rp1 hv (by omega) (by omega) (by rw [jup_zz, show v5 - 2 = v5 - 1 by omega, jup_self, show v5 - 1 = v5 by omega]) (fun j j0 j1 => by first | (rw [jup_zz, jup_at, if_neg (by omega)]; done) | rfl)) | (rw [show v5 = v5 + 1 by omega]; exact aSt_rp4 hv (by omega) (by omega) (by rw [jup_zz, jup_self]; exact er_85) (fun j j0 j1 => by first | (rw [jup_zz, jup_at, if_neg (by omega)]; done) | rfl)), by intro c hc; first | exact hk c hc | (rw [jup_zz, jup_cell hc]; exact hk c hc)⟩ (by omega)
                          · skip
                            refine j_aload_n 0 dX0_binding_223 rfl rfl ?_
                            refine j_getr f_X0_39 (ra_11 hf) dX0_binding_224 ?_
                            refine j_iload 5 dX0_binding_227 rfl ?_
                            refine j_aload_n 0 dX0_binding_229 rfl rfl ?_
                            refine j_aload_n 0 dX0_binding_230 rfl rfl ?_
                            refine j_getr f_X0_36 (ra_10 hf) dX0_binding_231 ?_
                            refine j_iload 6 dX0_binding_234 rfl ?_
                            refine j_iald (aa_9 hf) dX0_binding_236 (by omega) (by omega) ?_
                            refine j_eq (congrFun (hk (f + 9) (by omega)) v6) ?_
                            refine j_iload_n 2 dX0_binding_237 rfl rfl ?_
                            refine j_iload_n 3 dX0_binding_238 rfl rfl ?_
                            refine j_iload 4 dX0_binding_239 rfl ?_
                            refine j_callVi l_X0_69 ⟨Nat.le_of_ble_eq_true rfl, Nat.le_of_ble_eq_true rfl⟩ ⟨rfl, rfl⟩ dX0_binding_241 (oba hf) (c_X0_test N57 f hf ((M (f + 9) v6)) h m d (by rw [(hk 12 (by omega))]; exact h_cfrom) (by rw [(hk 13 (by omega))]; exact h_cto) (by rw [(hk 10 (by omega))]; exact h_ckind) (by rw [(hk 2 (by omega))]; exact h_ctrade) (by rw [(hk 11 (by omega))]; exact h_cpapers) (by first | assumption | omega) (by first | assumption | omega) (by first | assumption | omega) (by first | assumption | omega)) rfl rfl (Nat.le_of_ble_eq_true rfl) (fun r_100 M_101 h_102 => ?_)
                            obtain ⟨er_100, nh_102⟩ := h_102
                            refine j_eqM nh_102 ?_
                            clear nh_102
                            simp only [(hk 12 (by omega)), (hk 13 (by omega)), (hk 10 (by omega)), (hk 2 (by omega)), (hk 11 (by omega))] at er_100
                            refine j_iast (aa_10 hf) dX0_binding_244 (by omega) (by omega) ?_
                            refine j_nmM (fun M_103 eM_103 => ?_)
                            obtain ⟨v5_104, ev5_104⟩ : ∃ y : Int, y = v5 + 1 := ⟨_, rfl⟩
                            refine j_iinc (y := v5_104) (ls' := [(0, jR f), (1, jI r0), (2, jI h), (3, jI m), (4, jI d), (5, jI v5_104), (6, jI v6), (7, jI v7_10)]) 5 dX0_binding_245 rfl ev5_104 (by omega) (by decide) rfl ?_
                            obtain ⟨v6_105, ev6_105⟩ : ∃ y : Int, y = v6 + 1 := ⟨_, rfl⟩
                            refine j_iinc (y := v6_105) (ls' := [(0, jR f), (1, jI r0), (2, jI h), (3, jI m), (4, jI d), (5, jI v5_104), (6, jI v6_105), (7, jI v7_10)]) 6 dX0_binding_248 rfl ev6_105 (by omega) (by decide) rfl ?_
                            refine j_goto (tgt := 57) dX0_binding_251 (by decide) ?_
                            refine j_sub (ls' := [(0, jR f), (1, jI r0), (2, jI h), (3, jI m), (4, jI d), (5, jI v5_104), (6, jI v6_105)]) [0, 1, 2, 3, 4, 5, 6] rfl ?_
                            exact ih57 v5_104 v6_105 M_103 ⟨by omega, by rw [ev6_105, hpre]; first | (exfalso; omega; done) | exact aSt_rp0 hv (by omega) (by omega) (by omega) (by omega) | exact aSt_rp3 hv (by omega) (by omega) (by rw [eM_103, jup_self]) (fun j j0 j1 => by first | (rw [eM_103, jup_at, if_neg (by omega)]; done) | rfl) | (rw [show v5_104 = v5 - 1 by omega]; first | exact aSt_rp2 hv (by omega) (by omega) (by rw [eM_103, show v5 - 2 = v5_104 - 1 by omega, jup_self, show v5 - 1 = v5_104 by omega]) (fun j j0 j1 => by first | (rw [eM_103, jup_at, if_neg (by omega)]; done) | rfl) | exact aSt_rp1 hv (by omega) (by omega) (by rw [eM_103, show v5 - 2 = v5_104 - 1 by omega, jup_self, show v5 - 1 = v5_104 by omega]) (fun j j0 j1 => by first | (rw [eM_103, jup_at, if_neg (by omega)]; done) | rfl)) | (rw [show v5_104 = v5 + 1 by omega]; exact aSt_rp4 hv (by omega) (by omega) (by rw [eM_103, jup_self]; exact er_100) (fun j j0 j1 => by first | (rw [eM_103, jup_at, if_neg (by omega)]; done) | rfl)), by intro c hc; first | exact hk c hc | (rw [eM_103, jup_cell hc]; exact hk c hc)⟩ (by omega)
                      · skip
                        refine j_iload 5 dX0_binding_167 rfl ?_
                        refine j_iconst dX0_binding_169 (by decide) ?_
                        refine j_icmp_le (tgt := 207) dX0_binding_170 (by decide) (fun c170_106 => ?_) (fun c170_106 => ?_)
                        · skip
                          refine j_iload 7 dX0_binding_207 rfl ?_
                          refine j_iconst dX0_binding_209 (by decide) ?_
                          refine j_icmp_le (tgt := 248) dX0_binding_210 (by decide) (fun c210_107 => ?_) (fun c210_107 => ?_)
                          · skip
                            obtain ⟨v6_108, ev6_108⟩ : ∃ y : Int, y = v6 + 1 := ⟨_, rfl⟩
                            refine j_iinc (y := v6_108) (ls' := [(0, jR f), (1, jI r0), (2, jI h), (3, jI m), (4, jI d), (5, jI v5), (6, jI v6_108), (7, jI v7_10)]) 6 dX0_binding_248 rfl ev6_108 (by omega) (by decide) rfl ?_
                            refine j_goto (tgt := 57) dX0_binding_251 (by decide) ?_
                            refine j_sub (ls' := [(0, jR f), (1, jI r0), (2, jI h), (3, jI m), (4, jI d), (5, jI v5), (6, jI v6_108)]) [0, 1, 2, 3, 4, 5, 6] rfl ?_
                            exact ih57 v5 v6_108 N57 ⟨by omega, by rw [ev6_108, hpre]; first | (exfalso; omega; done) | exact aSt_rp0 hv (by omega) (by omega) (by omega) (by omega) | exact aSt_rp3 hv (by omega) (by omega) (by rw [jup_zz, jup_self]) (fun j j0 j1 => by first | (rw [jup_zz, jup_at, if_neg (by omega)]; done) | rfl) | (rw [show v5 = v5 - 1 by omega]; first | exact aSt_rp2 hv (by omega) (by omega) (by rw [jup_zz, show v5 - 2 = v5 - 1 by omega, jup_self, show v5 - 1 = v5 by omega]) (fun j j0 j1 => by first | (rw [jup_zz, jup_at, if_neg (by omega)]; done) | rfl) | exact aSt_rp1 hv (by omega) (by omega) (by rw [jup_zz, show v5 - 2 = v5 - 1 by omega, jup_self, show v5 - 1 = v5 by omega]) (fun j j0 j1 => by first | (rw [jup_zz, jup_at, if_neg (by omega)]; done) | rfl)) | (rw [show v5 = v5 + 1 by omega]; exact aSt_rp4 hv (by omega) (by omega) (by rw [jup_zz, jup_self]; exact er_100) (fun j j0 j1 => by first | (rw [jup_zz, jup_at, if_neg (by omega)]; done) | rfl)), by intro c hc; first | exact hk c hc | (rw [jup_zz, jup_cell hc]; exact hk c hc)⟩ (by omega)
                          · skip
                            refine j_iload 5 dX0_binding_213 rfl ?_
                            refine j_aload_n 0 dX0_binding_215 rfl rfl ?_
                            refine j_getr f_X0_39 (ra_11 hf) dX0_binding_216 ?_
                            refine j_alen (n' := 64) (aa_10 hf) (by decide) dX0_binding_219 rfl ?_
                            refine j_icmp_ge (tgt := 248) dX0_binding_220 (by decide) (fun c220_109 => ?_) (fun c220_109 => ?_)
                            · skip
                              obtain ⟨v6_110, ev6_110⟩ : ∃ y : Int, y = v6 + 1 := ⟨_, rfl⟩
                              refine j_iinc (y := v6_110) (ls' := [(0, jR f), (1, jI r0), (2, jI h), (3, jI m), (4, jI d), (5, jI v5), (6, jI v6_110), (7, jI v7_10)]) 6 dX0_binding_248 rfl ev6_110 (by omega) (by decide) rfl ?_
                              refine j_goto (tgt := 57) dX0_binding_251 (by decide) ?_
                              refine j_sub (ls' := [(0, jR f), (1, jI r0), (2, jI h), (3, jI m), (4, jI d), (5, jI v5), (6, jI v6_110)]) [0, 1, 2, 3, 4, 5, 6] rfl ?_
                              exact ih57 v5 v6_110 N57 ⟨by omega, by rw [ev6_110, hpre]; first | (exfalso; omega; done) | exact aSt_rp0 hv (by omega) (by omega) (by omega) (by omega) | exact aSt_rp3 hv (by omega) (by omega) (by rw [jup_zz, jup_self]) (fun j j0 j1 => by first | (rw [jup_zz, jup_at, if_neg (by omega)]; done) | rfl) | (rw [show v5 = v5 - 1 by omega]; first | exact aSt_rp2 hv (by omega) (by omega) (by rw [jup_zz, show v5 - 2 = v5 - 1 by omega, jup_self, show v5 - 1 = v5 by omega]) (fun j j0 j1 => by first | (rw [jup_zz, jup_at, if_neg (by omega)]; done) | rfl) | exact aSt_rp1 hv (by omega) (by omega) (by rw [jup_zz, show v5 - 2 = v5 - 1 by omega, jup_self, show v5 - 1 = v5 by omega]) (fun j j0 j1 => by first | (rw [jup_zz, jup_at, if_neg (by omega)]; done) | rfl)) | (rw [show v5 = v5 + 1 by omega]; exact aSt_rp4 hv (by omega) (by omega) (by rw [jup_zz, jup_self]; exact er_100) (fun j j0 j1 => by first | (rw [jup_zz, jup_at, if_neg (by omega)]; done) | rfl)), by intro c hc; first | exact hk c hc | (rw [jup_zz, jup_cell hc]; exact hk c hc)⟩ (by omega)
                            · skip
                              refine j_aload_n 0 dX0_binding_223 rfl rfl ?_
                              refine j_getr f_X0_39 (ra_11 hf) dX0_binding_224 ?_
                              refine j_iload 5 dX0_binding_227 rfl ?_
                              refine j_aload_n 0 dX0_binding_229 rfl rfl ?_
                              refine j_aload_n 0 dX0_binding_230 rfl rfl ?_
                              refine j_getr f_X0_36 (ra_10 hf) dX0_binding_231 ?_
                              refine j_iload 6 dX0_binding_234 rfl ?_
                              refine j_iald (aa_9 hf) dX0_binding_236 (by omega) (by omega) ?_
                              refine j_eq (congrFun (hk (f + 9) (by omega)) v6) ?_
                              refine j_iload_n 2 dX0_binding_237 rfl rfl ?_
                              refine j_iload_n 3 dX0_binding_238 rfl rfl ?_
                              refine j_iload 4 dX0_binding_239 rfl ?_
                              refine j_callVi l_X0_69 ⟨Nat.le_of_ble_eq_true rfl, Nat.le_of_ble_eq_true rfl⟩ ⟨rfl, rfl⟩ dX0_binding_241 (oba hf) (c_X0_test N57 f hf ((M (f + 9) v6)) h m d (by rw [(hk 12 (by omega))]; exact h_cfrom) (by rw [(hk 13 (by omega))]; exact h_cto) (by rw [(hk 10 (by omega))]; exact h_ckind) (by rw [(hk 2 (by omega))]; exact h_ctrade) (by rw [(hk 11 (by omega))]; exact h_cpapers) (by first | assumption | omega) (by first | assumption | omega) (by first | assumption | omega) (by first | assumption | omega)) rfl rfl (Nat.le_of_ble_eq_true rfl) (fun r_111 M_112 h_113 => ?_)
                              obtain ⟨er_111, nh_113⟩ := h_113
                              refine j_eqM nh_113 ?_
                              clear nh_113
                              simp only [(hk 12 (by omega)), (hk 13 (by omega)), (hk 10 (by omega)), (hk 2 (by omega)), (hk 11 (by omega))] at er_111
                              refine j_iast (aa_10 hf) dX0_binding_244 (by omega) (by omega) ?_
                              refine j_nmM (fun M_114 eM_114 => ?_)
                              obtain ⟨v5_115, ev5_115⟩ : ∃ y : Int, y = v5 + 1 := ⟨_, rfl⟩
                              refine j_iinc (y := v5_115) (ls' := [(0, jR f), (1, jI r0), (2, jI h), (3, jI m), (4, jI d), (5, jI v5_115), (6, jI v6), (7, jI v7_10)]) 5 dX0_binding_245 rfl ev5_115 (by omega) (by decide) rfl ?_
                              obtain ⟨v6_116, ev6_116⟩ : ∃ y : Int, y = v6 + 1 := ⟨_, rfl⟩
                              refine j_iinc (y := v6_116) (ls' := [(0, jR f), (1, jI r0), (2, jI h), (3, jI m), (4, jI d), (5, jI v5_115), (6, jI v6_116), (7, jI v7_10)]) 6 dX0_binding_248 rfl ev6_116 (by omega) (by decide) rfl ?_
                              refine j_goto (tgt := 57) dX0_binding_251 (by decide) ?_
                              refine j_sub (ls' := [(0, jR f), (1, jI r0), (2, jI h), (3, jI m), (4, jI d), (5, jI v5_115), (6, jI v6_116)]) [0, 1, 2, 3, 4, 5, 6] rfl ?_
                              exact ih57 v5_115 v6_116 M_114 ⟨by omega, by rw [ev6_116, hpre]; first | (exfalso; omega; done) | exact aSt_rp0 hv (by omega) (by omega) (by omega) (by omega) | exact aSt_rp3 hv (by omega) (by omega) (by rw [eM_114, jup_self]) (fun j j0 j1 => by first | (rw [eM_114, jup_at, if_neg (by omega)]; done) | rfl) | (rw [show v5_115 = v5 - 1 by omega]; first | exact aSt_rp2 hv (by omega) (by omega) (by rw [eM_114, show v5 - 2 = v5_115 - 1 by omega, jup_self, show v5 - 1 = v5_115 by omega]) (fun j j0 j1 => by first | (rw [eM_114, jup_at, if_neg (by omega)]; done) | rfl) | exact aSt_rp1 hv (by omega) (by omega) (by rw [eM_114, show v5 - 2 = v5_115 - 1 by omega, jup_self, show v5 - 1 = v5_115 by omega]) (fun j j0 j1 => by first | (rw [eM_114, jup_at, if_neg (by omega)]; done) | rfl)) | (rw [show v5_115 = v5 + 1 by omega]; exact aSt_rp4 hv (by omega) (by omega) (by rw [eM_114, jup_self]; exact er_111) (fun j j0 j1 => by first | (rw [eM_114, jup_at, if_neg (by omega)]; done) | rfl)), by intro c hc; first | exact hk c hc | (rw [eM_114, jup_cell hc]; exact hk c hc)⟩ (by omega)
                        · skip
                          obtain ⟨v5_117, ev5_117⟩ : ∃ y : Int, y = v5 + (-1) := ⟨_, rfl⟩
                          refine j_iinc (y := v5_117) (ls' := [(0, jR f), (1, jI r0), (2, jI h), (3, jI m), (4, jI d), (5, jI v5_117), (6, jI v6), (7, jI v7_10)]) 5 dX0_binding_173 rfl ev5_117 (by omega) (by decide) rfl ?_
                          refine j_aload_n 0 dX0_binding_176 rfl rfl ?_
                          refine j_getr f_X0_39 (ra_11 hf) dX0_binding_177 ?_
                          refine j_iload 5 dX0_binding_180 rfl ?_
                          refine j_iconst dX0_binding_182 (by decide) ?_
                          refine j_isub dX0_binding_183 (by omega) ?_
                          refine j_aload_n 0 dX0_binding_184 rfl rfl ?_
                          refine j_getr f_X0_39 (ra_11 hf) dX0_binding_185 ?_
                          refine j_iload 5 dX0_binding_188 rfl ?_
                          refine j_iconst dX0_binding_190 (by decide) ?_
                          refine j_isub dX0_binding_191 (by omega) ?_
                          refine j_iald (aa_10 hf) dX0_binding_192 (by omega) (by omega) ?_
                          refine j_aload_n 0 dX0_binding_193 rfl rfl ?_
                          refine j_getr f_X0_39 (ra_11 hf) dX0_binding_194 ?_
                          refine j_iload 5 dX0_binding_197 rfl ?_
                          refine j_iald (aa_10 hf) dX0_binding_199 (by omega) (by omega) ?_
                          refine j_mmax lm_X0_66 lm_max ⟨Nat.le_of_ble_eq_true rfl, Nat.le_of_ble_eq_true rfl⟩ ⟨Nat.le_of_ble_eq_true rfl, Nat.le_of_ble_eq_true rfl⟩ dX0_binding_200 ?_
                          refine j_iast (aa_10 hf) dX0_binding_203 (by omega) (by omega) ?_
                          refine j_nmM (fun M_118 eM_118 => ?_)
                          refine j_goto (tgt := 248) dX0_binding_204 (by decide) ?_
                          obtain ⟨v6_119, ev6_119⟩ : ∃ y : Int, y = v6 + 1 := ⟨_, rfl⟩
                          refine j_iinc (y := v6_119) (ls' := [(0, jR f), (1, jI r0), (2, jI h), (3, jI m), (4, jI d), (5, jI v5_117), (6, jI v6_119), (7, jI v7_10)]) 6 dX0_binding_248 rfl ev6_119 (by omega) (by decide) rfl ?_
                          refine j_goto (tgt := 57) dX0_binding_251 (by decide) ?_
                          refine j_sub (ls' := [(0, jR f), (1, jI r0), (2, jI h), (3, jI m), (4, jI d), (5, jI v5_117), (6, jI v6_119)]) [0, 1, 2, 3, 4, 5, 6] rfl ?_
                          exact ih57 v5_117 v6_119 M_118 ⟨by omega, by rw [ev6_119, hpre]; first | (exfalso; omega; done) | exact aSt_rp0 hv (by omega) (by omega) (by omega) (by omega) | exact aSt_rp3 hv (by omega) (by omega) (by rw [eM_118, jup_self]) (fun j j0 j1 => by first | (rw [eM_118, jup_at, if_neg (by omega)]; done) | rfl) | (rw [show v5_117 = v5 - 1 by omega]; first | exact aSt_rp2 hv (by omega) (by omega) (by rw [eM_118, show v5 - 2 = v5_117 - 1 by omega, jup_self, show v5 - 1 = v5_117 by omega]) (fun j j0 j1 => by first | (rw [eM_118, jup_at, if_neg (by omega)]; done) | rfl) | exact aSt_rp1 hv (by omega) (by omega) (by rw [eM_118, show v5 - 2 = v5_117 - 1 by omega, jup_self, show v5 - 1 = v5_117 by omega]) (fun j j0 j1 => by first | (rw [eM_118, jup_at, if_neg (by omega)]; done) | rfl)) | (rw [show v5_117 = v5 + 1 by omega]; exact aSt_rp4 hv (by omega) (by omega) (by rw [eM_118, jup_self]; exact er_111) (fun j j0 j1 => by first | (rw [eM_118, jup_at, if_neg (by omega)]; done) | rfl)), by intro c hc; first | exact hk c hc | (rw [eM_118, jup_cell hc]; exact hk c hc)⟩ (by omega)
                    · skip
                      obtain ⟨v5_120, ev5_120⟩ : ∃ y : Int, y = v5 + (-1) := ⟨_, rfl⟩
                      refine j_iinc (y := v5_120) (ls' := [(0, jR f), (1, jI r0), (2, jI h), (3, jI m), (4, jI d), (5, jI v5_120), (6, jI v6), (7, jI v7_10)]) 5 dX0_binding_127 rfl ev5_120 (by omega) (by decide) rfl ?_
                      refine j_aload_n 0 dX0_binding_130 rfl rfl ?_
                      refine j_getr f_X0_39 (ra_11 hf) dX0_binding_131 ?_
                      refine j_iload 5 dX0_binding_134 rfl ?_
                      refine j_iconst dX0_binding_136 (by decide) ?_
                      refine j_isub dX0_binding_137 (by omega) ?_
                      refine j_aload_n 0 dX0_binding_138 rfl rfl ?_
                      refine j_getr f_X0_39 (ra_11 hf) dX0_binding_139 ?_
                      refine j_iload 5 dX0_binding_142 rfl ?_
                      refine j_iconst dX0_binding_144 (by decide) ?_
                      refine j_isub dX0_binding_145 (by omega) ?_
                      refine j_iald (aa_10 hf) dX0_binding_146 (by omega) (by omega) ?_
                      refine j_aload_n 0 dX0_binding_147 rfl rfl ?_
                      refine j_getr f_X0_39 (ra_11 hf) dX0_binding_148 ?_
                      refine j_iload 5 dX0_binding_151 rfl ?_
                      refine j_iald (aa_10 hf) dX0_binding_153 (by omega) (by omega) ?_
                      refine j_mmin lm_X0_60 lm_min ⟨Nat.le_of_ble_eq_true rfl, Nat.le_of_ble_eq_true rfl⟩ ⟨Nat.le_of_ble_eq_true rfl, Nat.le_of_ble_eq_true rfl⟩ dX0_binding_154 ?_
                      refine j_iast (aa_10 hf) dX0_binding_157 (by omega) (by omega) ?_
                      refine j_nmM (fun M_121 eM_121 => ?_)
                      refine j_goto (tgt := 248) dX0_binding_158 (by decide) ?_
                      obtain ⟨v6_122, ev6_122⟩ : ∃ y : Int, y = v6 + 1 := ⟨_, rfl⟩
                      refine j_iinc (y := v6_122) (ls' := [(0, jR f), (1, jI r0), (2, jI h), (3, jI m), (4, jI d), (5, jI v5_120), (6, jI v6_122), (7, jI v7_10)]) 6 dX0_binding_248 rfl ev6_122 (by omega) (by decide) rfl ?_
                      refine j_goto (tgt := 57) dX0_binding_251 (by decide) ?_
                      refine j_sub (ls' := [(0, jR f), (1, jI r0), (2, jI h), (3, jI m), (4, jI d), (5, jI v5_120), (6, jI v6_122)]) [0, 1, 2, 3, 4, 5, 6] rfl ?_
                      exact ih57 v5_120 v6_122 M_121 ⟨by omega, by rw [ev6_122, hpre]; first | (exfalso; omega; done) | exact aSt_rp0 hv (by omega) (by omega) (by omega) (by omega) | exact aSt_rp3 hv (by omega) (by omega) (by rw [eM_121, jup_self]) (fun j j0 j1 => by first | (rw [eM_121, jup_at, if_neg (by omega)]; done) | rfl) | (rw [show v5_120 = v5 - 1 by omega]; first | exact aSt_rp2 hv (by omega) (by omega) (by rw [eM_121, show v5 - 2 = v5_120 - 1 by omega, jup_self, show v5 - 1 = v5_120 by omega]) (fun j j0 j1 => by first | (rw [eM_121, jup_at, if_neg (by omega)]; done) | rfl) | exact aSt_rp1 hv (by omega) (by omega) (by rw [eM_121, show v5 - 2 = v5_120 - 1 by omega, jup_self, show v5 - 1 = v5_120 by omega]) (fun j j0 j1 => by first | (rw [eM_121, jup_at, if_neg (by omega)]; done) | rfl)) | (rw [show v5_120 = v5 + 1 by omega]; exact aSt_rp4 hv (by omega) (by omega) (by rw [eM_121, jup_self]; exact er_111) (fun j j0 j1 => by first | (rw [eM_121, jup_at, if_neg (by omega)]; done) | rfl)), by intro c hc; first | exact hk c hc | (rw [eM_121, jup_cell hc]; exact hk c hc)⟩ (by omega)
                · skip
                  refine j_aload_n 0 dX0_binding_92 rfl rfl ?_
                  refine j_getr f_X0_39 (ra_11 hf) dX0_binding_93 ?_
                  refine j_iload 5 dX0_binding_96 rfl ?_
                  refine j_iconst dX0_binding_98 (by decide) ?_
                  refine j_isub dX0_binding_99 (by omega) ?_
                  refine j_iconst dX0_binding_100 (by decide) ?_
                  have hy := hx (v5 - 1) (by omega) (by omega)
                  refine j_aload_n 0 dX0_binding_101 rfl rfl ?_
                  refine j_getr f_X0_39 (ra_11 hf) dX0_binding_102 ?_
                  refine j_iload 5 dX0_binding_105 rfl ?_
                  refine j_iconst dX0_binding_107 (by decide) ?_
                  refine j_isub dX0_binding_108 (by omega) ?_
                  refine j_iald (aa_10 hf) dX0_binding_109 (by omega) (by omega) ?_
                  refine j_isub dX0_binding_110 (by omega) ?_
                  refine j_iast (aa_10 hf) dX0_binding_111 (by omega) (by omega) ?_
                  refine j_nmM (fun M_123 eM_123 => ?_)
                  refine j_goto (tgt := 248) dX0_binding_112 (by decide) ?_
                  obtain ⟨v6_124, ev6_124⟩ : ∃ y : Int, y = v6 + 1 := ⟨_, rfl⟩
                  refine j_iinc (y := v6_124) (ls' := [(0, jR f), (1, jI r0), (2, jI h), (3, jI m), (4, jI d), (5, jI v5), (6, jI v6_124), (7, jI v7_10)]) 6 dX0_binding_248 rfl ev6_124 (by omega) (by decide) rfl ?_
                  refine j_goto (tgt := 57) dX0_binding_251 (by decide) ?_
                  refine j_sub (ls' := [(0, jR f), (1, jI r0), (2, jI h), (3, jI m), (4, jI d), (5, jI v5), (6, jI v6_124)]) [0, 1, 2, 3, 4, 5, 6] rfl ?_
                  exact ih57 v5 v6_124 M_123 ⟨by omega, by rw [ev6_124, hpre]; first | (exfalso; omega; done) | exact aSt_rp0 hv (by omega) (by omega) (by omega) (by omega) | exact aSt_rp3 hv (by omega) (by omega) (by rw [eM_123, jup_self]) (fun j j0 j1 => by first | (rw [eM_123, jup_at, if_neg (by omega)]; done) | rfl) | (rw [show v5 = v5 - 1 by omega]; first | exact aSt_rp2 hv (by omega) (by omega) (by rw [eM_123, show v5 - 2 = v5 - 1 by omega, jup_self, show v5 - 1 = v5 by omega]) (fun j j0 j1 => by first | (rw [eM_123, jup_at, if_neg (by omega)]; done) | rfl) | exact aSt_rp1 hv (by omega) (by omega) (by rw [eM_123, show v5 - 2 = v5 - 1 by omega, jup_self, show v5 - 1 = v5 by omega]) (fun j j0 j1 => by first | (rw [eM_123, jup_at, if_neg (by omega)]; done) | rfl)) | (rw [show v5 = v5 + 1 by omega]; exact aSt_rp4 hv (by omega) (by omega) (by rw [eM_123, jup_self]; exact er_111) (fun j j0 j1 => by first | (rw [eM_123, jup_at, if_neg (by omega)]; done) | rfl)), by intro c hc; first | exact hk c hc | (rw [eM_123, jup_cell hc]; exact hk c hc)⟩ (by omega)
        exact lp57_5 _ 0 v6_4 M ⟨by omega, by rw [show (v6_4 - M (f + 7) r0).toNat = 0 by omega]; rfl, by intro c _; rfl⟩ (Nat.lt_succ_self _)
      · skip
        refine j_iload 4 dX0_binding_33 rfl ?_
        refine j_aload_n 0 dX0_binding_35 rfl rfl ?_
        refine j_getr f_X0_21 (ra_4 hf) dX0_binding_36 ?_
        refine j_iload_n 1 dX0_binding_39 rfl rfl ?_
        refine j_iald (aa_4 hf) dX0_binding_40 (by omega) (by omega) ?_
        refine j_icmp_lt (tgt := 46) dX0_binding_41 (by decide) (fun c41_125 => ?_) (fun c41_125 => ?_)
        · skip
          refine j_iconst dX0_binding_46 (by decide) ?_
          refine j_istore (ls' := [(0, jR f), (1, jI r0), (2, jI h), (3, jI m), (4, jI d), (5, jI 0)]) dX0_binding_47 (by decide) rfl ?_
          refine j_aload_n 0 dX0_binding_49 rfl rfl ?_
          refine j_getr f_X0_30 (ra_7 hf) dX0_binding_50 ?_
          refine j_iload_n 1 dX0_binding_53 rfl rfl ?_
          refine j_iald (aa_7 hf) dX0_binding_54 (by omega) (by omega) ?_
          refine j_nm (fun v6_126 ev6_126 => ?_)
          refine j_istore (ls' := [(0, jR f), (1, jI r0), (2, jI h), (3, jI m), (4, jI d), (5, jI 0), (6, jI v6_126)]) dX0_binding_55 (by decide) rfl ?_
          have lp57_127 : ∀ n57 : Nat, ∀ (v5 v6 : Int), ∀ N57 : jM, (M (f + 7) r0 ≤ v6 ∧ v6 ≤ M (f + 8) r0) ∧ (aSt (N57 (f + 10)) v5 (rpn (eTest ((M 12 h + d) / 360) ((M 13 h + d) / 360) (M 10 h) (M 2 m) (M 11 h) m) (sPre (M (f + 9)) (M (f + 7) r0) (v6 - M (f + 7) r0).toNat))) ∧ (∀ c, c ≠ f + 10 → N57 c = M c) → (M (f + 8) r0 - v6).toNat < n57 → jG D_X0_binding X FJ shJ 0 0 (jqI (q_X0_binding M f hf r0 h m d)) 57 [(0, jR f), (1, jI r0), (2, jI h), (3, jI m), (4, jI d), (5, jI v5), (6, jI v6)] ([]) N57 := by
            intro n57
            induction n57 with
            | zero => intro v5 v6 N57 _ hz; exact absurd hz (Nat.not_lt_zero _)
            | succ n57 ih57 =>
              intro v5 v6 N57 hinv hm
              obtain ⟨h6, hv, hk⟩ := hinv
              have q1 := rpn_in hE (M (f + 9)) (M (f + 7) r0) (v6 - M (f + 7) r0).toNat
              have q2 := aSt_len _ hv
              refine j_iload 6 dX0_binding_57 rfl ?_
              refine j_aload_n 0 dX0_binding_59 rfl rfl ?_
              refine j_getr f_X0_33 (ra_8 hf) dX0_binding_60 ?_
              refine j_iload_n 1 dX0_binding_63 rfl rfl ?_
              refine j_iald (aa_8 hf) dX0_binding_64 (by omega) (by omega) ?_
              refine j_eq (congrFun (hk (f + 8) (by omega)) r0) ?_
              refine j_icmp_ge (tgt := 254) dX0_binding_65 (by decide) (fun c65_128 => ?_) (fun c65_128 => ?_)
              · skip
                refine j_iload 5 dX0_binding_254 rfl ?_
                have hJ_129 : ∀ zz : Int, (¬ v5 = 0 ∧ zz = (N57 (f + 10) 0)) ∨ (v5 = 0 ∧ zz = 2) → jG D_X0_binding X FJ shJ 0 0 (jqI (q_X0_binding M f hf r0 h m d)) 269 [(0, jR f), (1, jI r0), (2, jI h), (3, jI m), (4, jI d), (5, jI v5), (6, jI v6)] (jI zz :: []) N57 := by
                  intro t_130 et_130
                  refine j_iret rfl rfl rfl rfl dX0_binding_269 ?_
                  have e6 : v6 = M (f + 8) r0 := by omega
                  rw [e6] at hv
                  have hnp : ¬ (d < M (f + 2) r0 ∨ M (f + 3) r0 < d ∨ (¬ M (f + 4) r0 = -9 ∧ M (f + 4) r0 ≤ d)) := by omega
                  refine ⟨?_, hk⟩
                  rw [if_neg hnp]
                  have q3 := aSt_len _ hv
                  rcases et_130 with ⟨z1, z2⟩ | ⟨z1, z2⟩
                  · rw [z2]; exact aSt_bot _ hv (by omega)
                  · rw [z2]; have q4 := List.eq_nil_of_length_eq_zero (l := rpn (eTest ((M 12 h + d) / 360) ((M 13 h + d) / 360) (M 10 h) (M 2 m) (M 11 h) m) (sPre (M (f + 9)) (M (f + 7) r0) (M (f + 8) r0 - M (f + 7) r0).toNat)) (by omega); rw [q4]; rfl
                refine j_if_ne (tgt := 263) dX0_binding_256 (by decide) (fun c256_131 => ?_) (fun c256_131 => ?_)
                · skip
                  refine j_aload_n 0 dX0_binding_263 rfl rfl ?_
                  refine j_getr f_X0_39 (ra_11 hf) dX0_binding_264 ?_
                  refine j_iconst dX0_binding_267 (by decide) ?_
                  refine j_iald (aa_10 hf) dX0_binding_268 (by omega) (by omega) ?_
                  exact hJ_129 _ (Or.inl ⟨c256_131, rfl⟩)
                · skip
                  refine j_iconst dX0_binding_259 (by decide) ?_
                  refine j_goto (tgt := 269) dX0_binding_260 (by decide) ?_
                  exact hJ_129 _ (Or.inr (⟨c256_131, rfl⟩))
              · skip
                have hs6 := hss v6 (by omega) (by omega)
                have hx := aSt_in _ hv q1.1
                have hpre := rpn_pre (eTest ((M 12 h + d) / 360) ((M 13 h + d) / 360) (M 10 h) (M 2 m) (M 11 h) m) (M (f + 9)) (a := M (f + 7) r0) (k := v6) h6.1
                refine j_aload_n 0 dX0_binding_68 rfl rfl ?_
                refine j_getr f_X0_36 (ra_10 hf) dX0_binding_69 ?_
                refine j_iload 6 dX0_binding_72 rfl ?_
                refine j_iald (aa_9 hf) dX0_binding_74 (by omega) (by omega) ?_
                refine j_eq (congrFun (hk (f + 9) (by omega)) v6) ?_
                refine j_sipush dX0_binding_75 (by decide) ?_
                refine j_idiv dX0_binding_78 (by omega) (by omega) ?_
                refine j_nm (fun v7_132 ev7_132 => ?_)
                refine j_istore (ls' := [(0, jR f), (1, jI r0), (2, jI h), (3, jI m), (4, jI d), (5, jI v5), (6, jI v6), (7, jI v7_132)]) dX0_binding_79 (by decide) rfl ?_
                refine j_iload 7 dX0_binding_81 rfl ?_
                refine j_iconst dX0_binding_83 (by decide) ?_
                refine j_icmp_ne (tgt := 115) dX0_binding_84 (by decide) (fun c84_133 => ?_) (fun c84_133 => ?_)
                · skip
                  refine j_iload 7 dX0_binding_115 rfl ?_
                  refine j_iconst dX0_binding_117 (by decide) ?_
                  refine j_icmp_ne (tgt := 161) dX0_binding_118 (by decide) (fun c118_134 => ?_) (fun c118_134 => ?_)
                  · skip
                    refine j_iload 7 dX0_binding_161 rfl ?_
                    refine j_iconst dX0_binding_163 (by decide) ?_
                    refine j_icmp_ne (tgt := 207) dX0_binding_164 (by decide) (fun c164_135 => ?_) (fun c164_135 => ?_)
                    · skip
                      refine j_iload 7 dX0_binding_207 rfl ?_
                      refine j_iconst dX0_binding_209 (by decide) ?_
                      refine j_icmp_le (tgt := 248) dX0_binding_210 (by decide) (fun c210_136 => ?_) (fun c210_136 => ?_)
                      · skip
                        obtain ⟨v6_137, ev6_137⟩ : ∃ y : Int, y = v6 + 1 := ⟨_, rfl⟩
                        refine j_iinc (y := v6_137) (ls' := [(0, jR f), (1, jI r0), (2, jI h), (3, jI m), (4, jI d), (5, jI v5), (6, jI v6_137), (7, jI v7_132)]) 6 dX0_binding_248 rfl ev6_137 (by omega) (by decide) rfl ?_
                        refine j_goto (tgt := 57) dX0_binding_251 (by decide) ?_
                        refine j_sub (ls' := [(0, jR f), (1, jI r0), (2, jI h), (3, jI m), (4, jI d), (5, jI v5), (6, jI v6_137)]) [0, 1, 2, 3, 4, 5, 6] rfl ?_
                        exact ih57 v5 v6_137 N57 ⟨by omega, by rw [ev6_137, hpre]; first | (exfalso; omega; done) | exact aSt_rp0 hv (by omega) (by omega) (by omega) (by omega) | exact aSt_rp3 hv (by omega) (by omega) (by rw [jup_zz, jup_self]) (fun j j0 j1 => by first | (rw [jup_zz, jup_at, if_neg (by omega)]; done) | rfl) | (rw [show v5 = v5 - 1 by omega]; first | exact aSt_rp2 hv (by omega) (by omega) (by rw [jup_zz, show v5 - 2 = v5 - 1 by omega, jup_self, show v5 - 1 = v5 by omega]) (fun j j0 j1 => by first | (rw [jup_zz, jup_at, if_neg (by omega)]; done) | rfl) | exact aSt_rp1 hv (by omega) (by omega) (by rw [jup_zz, show v5 - 2 = v5 - 1 by omega, jup_self, show v5 - 1 = v5 by omega]) (fun j j0 j1 => by first | (rw [jup_zz, jup_at, if_neg (by omega)]; done) | rfl)) | (rw [show v5 = v5 + 1 by omega]; exact aSt_rp4 hv (by omega) (by omega) (by rw [jup_zz, jup_self]; exact er_111) (fun j j0 j1 => by first | (rw [jup_zz, jup_at, if_neg (by omega)]; done) | rfl)), by intro c hc; first | exact hk c hc | (rw [jup_zz, jup_cell hc]; exact hk c hc)⟩ (by omega)
                      · skip
                        refine j_iload 5 dX0_binding_213 rfl ?_
                        refine j_aload_n 0 dX0_binding_215 rfl rfl ?_
                        refine j_getr f_X0_39 (ra_11 hf) dX0_binding_216 ?_
                        refine j_alen (n' := 64) (aa_10 hf) (by decide) dX0_binding_219 rfl ?_
                        refine j_icmp_ge (tgt := 248) dX0_binding_220 (by decide) (fun c220_138 => ?_) (fun c220_138 => ?_)
                        · skip
                          obtain ⟨v6_139, ev6_139⟩ : ∃ y : Int, y = v6 + 1 := ⟨_, rfl⟩
                          refine j_iinc (y := v6_139) (ls' := [(0, jR f), (1, jI r0), (2, jI h), (3, jI m), (4, jI d), (5, jI v5), (6, jI v6_139), (7, jI v7_132)]) 6 dX0_binding_248 rfl ev6_139 (by omega) (by decide) rfl ?_
                          refine j_goto (tgt := 57) dX0_binding_251 (by decide) ?_
                          refine j_sub (ls' := [(0, jR f), (1, jI r0), (2, jI h), (3, jI m), (4, jI d), (5, jI v5), (6, jI v6_139)]) [0, 1, 2, 3, 4, 5, 6] rfl ?_
                          exact ih57 v5 v6_139 N57 ⟨by omega, by rw [ev6_139, hpre]; first | (exfalso; omega; done) | exact aSt_rp0 hv (by omega) (by omega) (by omega) (by omega) | exact aSt_rp3 hv (by omega) (by omega) (by rw [jup_zz, jup_self]) (fun j j0 j1 => by first | (rw [jup_zz, jup_at, if_neg (by omega)]; done) | rfl) | (rw [show v5 = v5 - 1 by omega]; first | exact aSt_rp2 hv (by omega) (by omega) (by rw [jup_zz, show v5 - 2 = v5 - 1 by omega, jup_self, show v5 - 1 = v5 by omega]) (fun j j0 j1 => by first | (rw [jup_zz, jup_at, if_neg (by omega)]; done) | rfl) | exact aSt_rp1 hv (by omega) (by omega) (by rw [jup_zz, show v5 - 2 = v5 - 1 by omega, jup_self, show v5 - 1 = v5 by omega]) (fun j j0 j1 => by first | (rw [jup_zz, jup_at, if_neg (by omega)]; done) | rfl)) | (rw [show v5 = v5 + 1 by omega]; exact aSt_rp4 hv (by omega) (by omega) (by rw [jup_zz, jup_self]; exact er_111) (fun j j0 j1 => by first | (rw [jup_zz, jup_at, if_neg (by omega)]; done) | rfl)), by intro c hc; first | exact hk c hc | (rw [jup_zz, jup_cell hc]; exact hk c hc)⟩ (by omega)
                        · skip
                          refine j_aload_n 0 dX0_binding_223 rfl rfl ?_
                          refine j_getr f_X0_39 (ra_11 hf) dX0_binding_224 ?_
                          refine j_iload 5 dX0_binding_227 rfl ?_
                          refine j_aload_n 0 dX0_binding_229 rfl rfl ?_
                          refine j_aload_n 0 dX0_binding_230 rfl rfl ?_
                          refine j_getr f_X0_36 (ra_10 hf) dX0_binding_231 ?_
                          refine j_iload 6 dX0_binding_234 rfl ?_
                          refine j_iald (aa_9 hf) dX0_binding_236 (by omega) (by omega) ?_
                          refine j_eq (congrFun (hk (f + 9) (by omega)) v6) ?_
                          refine j_iload_n 2 dX0_binding_237 rfl rfl ?_
                          refine j_iload_n 3 dX0_binding_238 rfl rfl ?_
                          refine j_iload 4 dX0_binding_239 rfl ?_
                          refine j_callVi l_X0_69 ⟨Nat.le_of_ble_eq_true rfl, Nat.le_of_ble_eq_true rfl⟩ ⟨rfl, rfl⟩ dX0_binding_241 (oba hf) (c_X0_test N57 f hf ((M (f + 9) v6)) h m d (by rw [(hk 12 (by omega))]; exact h_cfrom) (by rw [(hk 13 (by omega))]; exact h_cto) (by rw [(hk 10 (by omega))]; exact h_ckind) (by rw [(hk 2 (by omega))]; exact h_ctrade) (by rw [(hk 11 (by omega))]; exact h_cpapers) (by first | assumption | omega) (by first | assumption | omega) (by first | assumption | omega) (by first | assumption | omega)) rfl rfl (Nat.le_of_ble_eq_true rfl) (fun r_140 M_141 h_142 => ?_)
                          obtain ⟨er_140, nh_142⟩ := h_142
                          refine j_eqM nh_142 ?_
                          clear nh_142
                          simp only [(hk 12 (by omega)), (hk 13 (by omega)), (hk 10 (by omega)), (hk 2 (by omega)), (hk 11 (by omega))] at er_140
                          refine j_iast (aa_10 hf) dX0_binding_244 (by omega) (by omega) ?_
                          refine j_nmM (fun M_143 eM_143 => ?_)
                          obtain ⟨v5_144, ev5_144⟩ : ∃ y : Int, y = v5 + 1 := ⟨_, rfl⟩
                          refine j_iinc (y := v5_144) (ls' := [(0, jR f), (1, jI r0), (2, jI h), (3, jI m), (4, jI d), (5, jI v5_144), (6, jI v6), (7, jI v7_132)]) 5 dX0_binding_245 rfl ev5_144 (by omega) (by decide) rfl ?_
                          obtain ⟨v6_145, ev6_145⟩ : ∃ y : Int, y = v6 + 1 := ⟨_, rfl⟩
                          refine j_iinc (y := v6_145) (ls' := [(0, jR f), (1, jI r0), (2, jI h), (3, jI m), (4, jI d), (5, jI v5_144), (6, jI v6_145), (7, jI v7_132)]) 6 dX0_binding_248 rfl ev6_145 (by omega) (by decide) rfl ?_
                          refine j_goto (tgt := 57) dX0_binding_251 (by decide) ?_
                          refine j_sub (ls' := [(0, jR f), (1, jI r0), (2, jI h), (3, jI m), (4, jI d), (5, jI v5_144), (6, jI v6_145)]) [0, 1, 2, 3, 4, 5, 6] rfl ?_
                          exact ih57 v5_144 v6_145 M_143 ⟨by omega, by rw [ev6_145, hpre]; first | (exfalso; omega; done) | exact aSt_rp0 hv (by omega) (by omega) (by omega) (by omega) | exact aSt_rp3 hv (by omega) (by omega) (by rw [eM_143, jup_self]) (fun j j0 j1 => by first | (rw [eM_143, jup_at, if_neg (by omega)]; done) | rfl) | (rw [show v5_144 = v5 - 1 by omega]; first | exact aSt_rp2 hv (by omega) (by omega) (by rw [eM_143, show v5 - 2 = v5_144 - 1 by omega, jup_self, show v5 - 1 = v5_144 by omega]) (fun j j0 j1 => by first | (rw [eM_143, jup_at, if_neg (by omega)]; done) | rfl) | exact aSt_rp1 hv (by omega) (by omega) (by rw [eM_143, show v5 - 2 = v5_144 - 1 by omega, jup_self, show v5 - 1 = v5_144 by omega]) (fun j j0 j1 => by first | (rw [eM_143, jup_at, if_neg (by omega)]; done) | rfl)) | (rw [show v5_144 = v5 + 1 by omega]; exact aSt_rp4 hv (by omega) (by omega) (by rw [eM_143, jup_self]; exact er_140) (fun j j0 j1 => by first | (rw [eM_143, jup_at, if_neg (by omega)]; done) | rfl)), by intro c hc; first | exact hk c hc | (rw [eM_143, jup_cell hc]; exact hk c hc)⟩ (by omega)
                    · skip
                      refine j_iload 5 dX0_binding_167 rfl ?_
                      refine j_iconst dX0_binding_169 (by decide) ?_
                      refine j_icmp_le (tgt := 207) dX0_binding_170 (by decide) (fun c170_146 => ?_) (fun c170_146 => ?_)
                      · skip
                        refine j_iload 7 dX0_binding_207 rfl ?_
                        refine j_iconst dX0_binding_209 (by decide) ?_
                        refine j_icmp_le (tgt := 248) dX0_binding_210 (by decide) (fun c210_147 => ?_) (fun c210_147 => ?_)
                        · skip
                          obtain ⟨v6_148, ev6_148⟩ : ∃ y : Int, y = v6 + 1 := ⟨_, rfl⟩
                          refine j_iinc (y := v6_148) (ls' := [(0, jR f), (1, jI r0), (2, jI h), (3, jI m), (4, jI d), (5, jI v5), (6, jI v6_148), (7, jI v7_132)]) 6 dX0_binding_248 rfl ev6_148 (by omega) (by decide) rfl ?_
                          refine j_goto (tgt := 57) dX0_binding_251 (by decide) ?_
                          refine j_sub (ls' := [(0, jR f), (1, jI r0), (2, jI h), (3, jI m), (4, jI d), (5, jI v5), (6, jI v6_148)]) [0, 1, 2, 3, 4, 5, 6] rfl ?_
                          exact ih57 v5 v6_148 N57 ⟨by omega, by rw [ev6_148, hpre]; first | (exfalso; omega; done) | exact aSt_rp0 hv (by omega) (by omega) (by omega) (by omega) | exact aSt_rp3 hv (by omega) (by omega) (by rw [jup_zz, jup_self]) (fun j j0 j1 => by first | (rw [jup_zz, jup_at, if_neg (by omega)]; done) | rfl) | (rw [show v5 = v5 - 1 by omega]; first | exact aSt_rp2 hv (by omega) (by omega) (by rw [jup_zz, show v5 - 2 = v5 - 1 by omega, jup_self, show v5 - 1 = v5 by omega]) (fun j j0 j1 => by first | (rw [jup_zz, jup_at, if_neg (by omega)]; done) | rfl) | exact aSt_rp1 hv (by omega) (by omega) (by rw [jup_zz, show v5 - 2 = v5 - 1 by omega, jup_self, show v5 - 1 = v5 by omega]) (fun j j0 j1 => by first | (rw [jup_zz, jup_at, if_neg (by omega)]; done) | rfl)) | (rw [show v5 = v5 + 1 by omega]; exact aSt_rp4 hv (by omega) (by omega) (by rw [jup_zz, jup_self]; exact er_140) (fun j j0 j1 => by first | (rw [jup_zz, jup_at, if_neg (by omega)]; done) | rfl)), by intro c hc; first | exact hk c hc | (rw [jup_zz, jup_cell hc]; exact hk c hc)⟩ (by omega)
                        · skip
                          refine j_iload 5 dX0_binding_213 rfl ?_
                          refine j_aload_n 0 dX0_binding_215 rfl rfl ?_
                          refine j_getr f_X0_39 (ra_11 hf) dX0_binding_216 ?_
                          refine j_alen (n' := 64) (aa_10 hf) (by decide) dX0_binding_219 rfl ?_
                          refine j_icmp_ge (tgt := 248) dX0_binding_220 (by decide) (fun c220_149 => ?_) (fun c220_149 => ?_)
                          · skip
                            obtain ⟨v6_150, ev6_150⟩ : ∃ y : Int, y = v6 + 1 := ⟨_, rfl⟩
                            refine j_iinc (y := v6_150) (ls' := [(0, jR f), (1, jI r0), (2, jI h), (3, jI m), (4, jI d), (5, jI v5), (6, jI v6_150), (7, jI v7_132)]) 6 dX0_binding_248 rfl ev6_150 (by omega) (by decide) rfl ?_
                            refine j_goto (tgt := 57) dX0_binding_251 (by decide) ?_
                            refine j_sub (ls' := [(0, jR f), (1, jI r0), (2, jI h), (3, jI m), (4, jI d), (5, jI v5), (6, jI v6_150)]) [0, 1, 2, 3, 4, 5, 6] rfl ?_
                            exact ih57 v5 v6_150 N57 ⟨by omega, by rw [ev6_150, hpre]; first | (exfalso; omega; done) | exact aSt_rp0 hv (by omega) (by omega) (by omega) (by omega) | exact aSt_rp3 hv (by omega) (by omega) (by rw [jup_zz, jup_self]) (fun j j0 j1 => by first | (rw [jup_zz, jup_at, if_neg (by omega)]; done) | rfl) | (rw [show v5 = v5 - 1 by omega]; first | exact aSt_rp2 hv (by omega) (by omega) (by rw [jup_zz, show v5 - 2 = v5 - 1 by omega, jup_self, show v5 - 1 = v5 by omega]) (fun j j0 j1 => by first | (rw [jup_zz, jup_at, if_neg (by omega)]; done) | rfl) | exact aSt_rp1 hv (by omega) (by omega) (by rw [jup_zz, show v5 - 2 = v5 - 1 by omega, jup_self, show v5 - 1 = v5 by omega]) (fun j j0 j1 => by first | (rw [jup_zz, jup_at, if_neg (by omega)]; done) | rfl)) | (rw [show v5 = v5 + 1 by omega]; exact aSt_rp4 hv (by omega) (by omega) (by rw [jup_zz, jup_self]; exact er_140) (fun j j0 j1 => by first | (rw [jup_zz, jup_at, if_neg (by omega)]; done) | rfl)), by intro c hc; first | exact hk c hc | (rw [jup_zz, jup_cell hc]; exact hk c hc)⟩ (by omega)
                          · skip
                            refine j_aload_n 0 dX0_binding_223 rfl rfl ?_
                            refine j_getr f_X0_39 (ra_11 hf) dX0_binding_224 ?_
                            refine j_iload 5 dX0_binding_227 rfl ?_
                            refine j_aload_n 0 dX0_binding_229 rfl rfl ?_
                            refine j_aload_n 0 dX0_binding_230 rfl rfl ?_
                            refine j_getr f_X0_36 (ra_10 hf) dX0_binding_231 ?_
                            refine j_iload 6 dX0_binding_234 rfl ?_
                            refine j_iald (aa_9 hf) dX0_binding_236 (by omega) (by omega) ?_
                            refine j_eq (congrFun (hk (f + 9) (by omega)) v6) ?_
                            refine j_iload_n 2 dX0_binding_237 rfl rfl ?_
                            refine j_iload_n 3 dX0_binding_238 rfl rfl ?_
                            refine j_iload 4 dX0_binding_239 rfl ?_
                            refine j_callVi l_X0_69 ⟨Nat.le_of_ble_eq_true rfl, Nat.le_of_ble_eq_true rfl⟩ ⟨rfl, rfl⟩ dX0_binding_241 (oba hf) (c_X0_test N57 f hf ((M (f + 9) v6)) h m d (by rw [(hk 12 (by omega))]; exact h_cfrom) (by rw [(hk 13 (by omega))]; exact h_cto) (by rw [(hk 10 (by omega))]; exact h_ckind) (by rw [(hk 2 (by omega))]; exact h_ctrade) (by rw [(hk 11 (by omega))]; exact h_cpapers) (by first | assumption | omega) (by first | assumption | omega) (by first | assumption | omega) (by first | assumption | omega)) rfl rfl (Nat.le_of_ble_eq_true rfl) (fun r_151 M_152 h_153 => ?_)
                            obtain ⟨er_151, nh_153⟩ := h_153
                            refine j_eqM nh_153 ?_
                            clear nh_153
                            simp only [(hk 12 (by omega)), (hk 13 (by omega)), (hk 10 (by omega)), (hk 2 (by omega)), (hk 11 (by omega))] at er_151
                            refine j_iast (aa_10 hf) dX0_binding_244 (by omega) (by omega) ?_
                            refine j_nmM (fun M_154 eM_154 => ?_)
                            obtain ⟨v5_155, ev5_155⟩ : ∃ y : Int, y = v5 + 1 := ⟨_, rfl⟩
                            refine j_iinc (y := v5_155) (ls' := [(0, jR f), (1, jI r0), (2, jI h), (3, jI m), (4, jI d), (5, jI v5_155), (6, jI v6), (7, jI v7_132)]) 5 dX0_binding_245 rfl ev5_155 (by omega) (by decide) rfl ?_
                            obtain ⟨v6_156, ev6_156⟩ : ∃ y : Int, y = v6 + 1 := ⟨_, rfl⟩
                            refine j_iinc (y := v6_156) (ls' := [(0, jR f), (1, jI r0), (2, jI h), (3, jI m), (4, jI d), (5, jI v5_155), (6, jI v6_156), (7, jI v7_132)]) 6 dX0_binding_248 rfl ev6_156 (by omega) (by decide) rfl ?_
                            refine j_goto (tgt := 57) dX0_binding_251 (by decide) ?_
                            refine j_sub (ls' := [(0, jR f), (1, jI r0), (2, jI h), (3, jI m), (4, jI d), (5, jI v5_155), (6, jI v6_156)]) [0, 1, 2, 3, 4, 5, 6] rfl ?_
                            exact ih57 v5_155 v6_156 M_154 ⟨by omega, by rw [ev6_156, hpre]; first | (exfalso; omega; done) | exact aSt_rp0 hv (by omega) (by omega) (by omega) (by omega) | exact aSt_rp3 hv (by omega) (by omega) (by rw [eM_154, jup_self]) (fun j j0 j1 => by first | (rw [eM_154, jup_at, if_neg (by omega)]; done) | rfl) | (rw [show v5_155 = v5 - 1 by omega]; first | exact aSt_rp2 hv (by omega) (by omega) (by rw [eM_154, show v5 - 2 = v5_155 - 1 by omega, jup_self, show v5 - 1 = v5_155 by omega]) (fun j j0 j1 => by first | (rw [eM_154, jup_at, if_neg (by omega)]; done) | rfl) | exact aSt_rp1 hv (by omega) (by omega) (by rw [eM_154, show v5 - 2 = v5_155 - 1 by omega, jup_self, show v5 - 1 = v5_155 by omega]) (fun j j0 j1 => by first | (rw [eM_154, jup_at, if_neg (by omega)]; done) | rfl)) | (rw [show v5_155 = v5 + 1 by omega]; exact aSt_rp4 hv (by omega) (by omega) (by rw [eM_154, jup_self]; exact er_151) (fun j j0 j1 => by first | (rw [eM_154, jup_at, if_neg (by omega)]; done) | rfl)), by intro c hc; first | exact hk c hc | (rw [eM_154, jup_cell hc]; exact hk c hc)⟩ (by omega)
                      · skip
                        obtain ⟨v5_157, ev5_157⟩ : ∃ y : Int, y = v5 + (-1) := ⟨_, rfl⟩
                        refine j_iinc (y := v5_157) (ls' := [(0, jR f), (1, jI r0), (2, jI h), (3, jI m), (4, jI d), (5, jI v5_157), (6, jI v6), (7, jI v7_132)]) 5 dX0_binding_173 rfl ev5_157 (by omega) (by decide) rfl ?_
                        refine j_aload_n 0 dX0_binding_176 rfl rfl ?_
                        refine j_getr f_X0_39 (ra_11 hf) dX0_binding_177 ?_
                        refine j_iload 5 dX0_binding_180 rfl ?_
                        refine j_iconst dX0_binding_182 (by decide) ?_
                        refine j_isub dX0_binding_183 (by omega) ?_
                        refine j_aload_n 0 dX0_binding_184 rfl rfl ?_
                        refine j_getr f_X0_39 (ra_11 hf) dX0_binding_185 ?_
                        refine j_iload 5 dX0_binding_188 rfl ?_
                        refine j_iconst dX0_binding_190 (by decide) ?_
                        refine j_isub dX0_binding_191 (by omega) ?_
                        refine j_iald (aa_10 hf) dX0_binding_192 (by omega) (by omega) ?_
                        refine j_aload_n 0 dX0_binding_193 rfl rfl ?_
                        refine j_getr f_X0_39 (ra_11 hf) dX0_binding_194 ?_
                        refine j_iload 5 dX0_binding_197 rfl ?_
                        refine j_iald (aa_10 hf) dX0_binding_199 (by omega) (by omega) ?_
                        refine j_mmax lm_X0_66 lm_max ⟨Nat.le_of_ble_eq_true rfl, Nat.le_of_ble_eq_true rfl⟩ ⟨Nat.le_of_ble_eq_true rfl, Nat.le_of_ble_eq_true rfl⟩ dX0_binding_200 ?_
                        refine j_iast (aa_10 hf) dX0_binding_203 (by omega) (by omega) ?_
                        refine j_nmM (fun M_158 eM_158 => ?_)
                        refine j_goto (tgt := 248) dX0_binding_204 (by decide) ?_
                        obtain ⟨v6_159, ev6_159⟩ : ∃ y : Int, y = v6 + 1 := ⟨_, rfl⟩
                        refine j_iinc (y := v6_159) (ls' := [(0, jR f), (1, jI r0), (2, jI h), (3, jI m), (4, jI d), (5, jI v5_157), (6, jI v6_159), (7, jI v7_132)]) 6 dX0_binding_248 rfl ev6_159 (by omega) (by decide) rfl ?_
                        refine j_goto (tgt := 57) dX0_binding_251 (by decide) ?_
                        refine j_sub (ls' := [(0, jR f), (1, jI r0), (2, jI h), (3, jI m), (4, jI d), (5, jI v5_157), (6, jI v6_159)]) [0, 1, 2, 3, 4, 5, 6] rfl ?_
                        exact ih57 v5_157 v6_159 M_158 ⟨by omega, by rw [ev6_159, hpre]; first | (exfalso; omega; done) | exact aSt_rp0 hv (by omega) (by omega) (by omega) (by omega) | exact aSt_rp3 hv (by omega) (by omega) (by rw [eM_158, jup_self]) (fun j j0 j1 => by first | (rw [eM_158, jup_at, if_neg (by omega)]; done) | rfl) | (rw [show v5_157 = v5 - 1 by omega]; first | exact aSt_rp2 hv (by omega) (by omega) (by rw [eM_158, show v5 - 2 = v5_157 - 1 by omega, jup_self, show v5 - 1 = v5_157 by omega]) (fun j j0 j1 => by first | (rw [eM_158, jup_at, if_neg (by omega)]; done) | rfl) | exact aSt_rp1 hv (by omega) (by omega) (by rw [eM_158, show v5 - 2 = v5_157 - 1 by omega, jup_self, show v5 - 1 = v5_157 by omega]) (fun j j0 j1 => by first | (rw [eM_158, jup_at, if_neg (by omega)]; done) | rfl)) | (rw [show v5_157 = v5 + 1 by omega]; exact aSt_rp4 hv (by omega) (by omega) (by rw [eM_158, jup_self]; exact er_151) (fun j j0 j1 => by first | (rw [eM_158, jup_at, if_neg (by omega)]; done) | rfl)), by intro c hc; first | exact hk c hc | (rw [eM_158, jup_cell hc]; exact hk c hc)⟩ (by omega)
                  · skip
                    refine j_iload 5 dX0_binding_121 rfl ?_
                    refine j_iconst dX0_binding_123 (by decide) ?_
                    refine j_icmp_le (tgt := 161) dX0_binding_124 (by decide) (fun c124_160 => ?_) (fun c124_160 => ?_)
                    · skip
                      refine j_iload 7 dX0_binding_161 rfl ?_
                      refine j_iconst dX0_binding_163 (by decide) ?_
                      refine j_icmp_ne (tgt := 207) dX0_binding_164 (by decide) (fun c164_161 => ?_) (fun c164_161 => ?_)
                      · skip
                        refine j_iload 7 dX0_binding_207 rfl ?_
                        refine j_iconst dX0_binding_209 (by decide) ?_
                        refine j_icmp_le (tgt := 248) dX0_binding_210 (by decide) (fun c210_162 => ?_) (fun c210_162 => ?_)
                        · skip
                          obtain ⟨v6_163, ev6_163⟩ : ∃ y : Int, y = v6 + 1 := ⟨_, rfl⟩
                          refine j_iinc (y := v6_163) (ls' := [(0, jR f), (1, jI r0), (2, jI h), (3, jI m), (4, jI d), (5, jI v5), (6, jI v6_163), (7, jI v7_132)]) 6 dX0_binding_248 rfl ev6_163 (by omega) (by decide) rfl ?_
                          refine j_goto (tgt := 57) dX0_binding_251 (by decide) ?_
                          refine j_sub (ls' := [(0, jR f), (1, jI r0), (2, jI h), (3, jI m), (4, jI d), (5, jI v5), (6, jI v6_163)]) [0, 1, 2, 3, 4, 5, 6] rfl ?_
                          exact ih57 v5 v6_163 N57 ⟨by omega, by rw [ev6_163, hpre]; first | (exfalso; omega; done) | exact aSt_rp0 hv (by omega) (by omega) (by omega) (by omega) | exact aSt_rp3 hv (by omega) (by omega) (by rw [jup_zz, jup_self]) (fun j j0 j1 => by first | (rw [jup_zz, jup_at, if_neg (by omega)]; done) | rfl) | (rw [show v5 = v5 - 1 by omega]; first | exact aSt_rp2 hv (by omega) (by omega) (by rw [jup_zz, show v5 - 2 = v5 - 1 by omega, jup_self, show v5 - 1 = v5 by omega]) (fun j j0 j1 => by first | (rw [jup_zz, jup_at, if_neg (by omega)]; done) | rfl) | exact aSt_rp1 hv (by omega) (by omega) (by rw [jup_zz, show v5 - 2 = v5 - 1 by omega, jup_self, show v5 - 1 = v5 by omega]) (fun j j0 j1 => by first | (rw [jup_zz, jup_at, if_neg (by omega)]; done) | rfl)) | (rw [show v5 = v5 + 1 by omega]; exact aSt_rp4 hv (by omega) (by omega) (by rw [jup_zz, jup_self]; exact er_151) (fun j j0 j1 => by first | (rw [jup_zz, jup_at, if_neg (by omega)]; done) | rfl)), by intro c hc; first | exact hk c hc | (rw [jup_zz, jup_cell hc]; exact hk c hc)⟩ (by omega)
                        · skip
                          refine j_iload 5 dX0_binding_213 rfl ?_
                          refine j_aload_n 0 dX0_binding_215 rfl rfl ?_
                          refine j_getr f_X0_39 (ra_11 hf) dX0_binding_216 ?_
                          refine j_alen (n' := 64) (aa_10 hf) (by decide) dX0_binding_219 rfl ?_
                          refine j_icmp_ge (tgt := 248) dX0_binding_220 (by decide) (fun c220_164 => ?_) (fun c220_164 => ?_)
                          · skip
                            obtain ⟨v6_165, ev6_165⟩ : ∃ y : Int, y = v6 + 1 := ⟨_, rfl⟩
                            refine j_iinc (y := v6_165) (ls' := [(0, jR f), (1, jI r0), (2, jI h), (3, jI m), (4, jI d), (5, jI v5), (6, jI v6_165), (7, jI v7_132)]) 6 dX0_binding_248 rfl ev6_165 (by omega) (by decide) rfl ?_
                            refine j_goto (tgt := 57) dX0_binding_251 (by decide) ?_
                            refine j_sub (ls' := [(0, jR f), (1, jI r0), (2, jI h), (3, jI m), (4, jI d), (5, jI v5), (6, jI v6_165)]) [0, 1, 2, 3, 4, 5, 6] rfl ?_
                            exact ih57 v5 v6_165 N57 ⟨by omega, by rw [ev6_165, hpre]; first | (exfalso; omega; done) | exact aSt_rp0 hv (by omega) (by omega) (by omega) (by omega) | exact aSt_rp3 hv (by omega) (by omega) (by rw [jup_zz, jup_self]) (fun j j0 j1 => by first | (rw [jup_zz, jup_at, if_neg (by omega)]; done) | rfl) | (rw [show v5 = v5 - 1 by omega]; first | exact aSt_rp2 hv (by omega) (by omega) (by rw [jup_zz, show v5 - 2 = v5 - 1 by omega, jup_self, show v5 - 1 = v5 by omega]) (fun j j0 j1 => by first | (rw [jup_zz, jup_at, if_neg (by omega)]; done) | rfl) | exact aSt_rp1 hv (by omega) (by omega) (by rw [jup_zz, show v5 - 2 = v5 - 1 by omega, jup_self, show v5 - 1 = v5 by omega]) (fun j j0 j1 => by first | (rw [jup_zz, jup_at, if_neg (by omega)]; done) | rfl)) | (rw [show v5 = v5 + 1 by omega]; exact aSt_rp4 hv (by omega) (by omega) (by rw [jup_zz, jup_self]; exact er_151) (fun j j0 j1 => by first | (rw [jup_zz, jup_at, if_neg (by omega)]; done) | rfl)), by intro c hc; first | exact hk c hc | (rw [jup_zz, jup_cell hc]; exact hk c hc)⟩ (by omega)
                          · skip
                            refine j_aload_n 0 dX0_binding_223 rfl rfl ?_
                            refine j_getr f_X0_39 (ra_11 hf) dX0_binding_224 ?_
                            refine j_iload 5 dX0_binding_227 rfl ?_
                            refine j_aload_n 0 dX0_binding_229 rfl rfl ?_
                            refine j_aload_n 0 dX0_binding_230 rfl rfl ?_
                            refine j_getr f_X0_36 (ra_10 hf) dX0_binding_231 ?_
                            refine j_iload 6 dX0_binding_234 rfl ?_
                            refine j_iald (aa_9 hf) dX0_binding_236 (by omega) (by omega) ?_
                            refine j_eq (congrFun (hk (f + 9) (by omega)) v6) ?_
                            refine j_iload_n 2 dX0_binding_237 rfl rfl ?_
                            refine j_iload_n 3 dX0_binding_238 rfl rfl ?_
                            refine j_iload 4 dX0_binding_239 rfl ?_
                            refine j_callVi l_X0_69 ⟨Nat.le_of_ble_eq_true rfl, Nat.le_of_ble_eq_true rfl⟩ ⟨rfl, rfl⟩ dX0_binding_241 (oba hf) (c_X0_test N57 f hf ((M (f + 9) v6)) h m d (by rw [(hk 12 (by omega))]; exact h_cfrom) (by rw [(hk 13 (by omega))]; exact h_cto) (by rw [(hk 10 (by omega))]; exact h_ckind) (by rw [(hk 2 (by omega))]; exact h_ctrade) (by rw [(hk 11 (by omega))]; exact h_cpapers) (by first | assumption | omega) (by first | assumption | omega) (by first | assumption | omega) (by first | assumption | omega)) rfl rfl (Nat.le_of_ble_eq_true rfl) (fun r_166 M_167 h_168 => ?_)
                            obtain ⟨er_166, nh_168⟩ := h_168
                            refine j_eqM nh_168 ?_
                            clear nh_168
                            simp only [(hk 12 (by omega)), (hk 13 (by omega)), (hk 10 (by omega)), (hk 2 (by omega)), (hk 11 (by omega))] at er_166
                            refine j_iast (aa_10 hf) dX0_binding_244 (by omega) (by omega) ?_
                            refine j_nmM (fun M_169 eM_169 => ?_)
                            obtain ⟨v5_170, ev5_170⟩ : ∃ y : Int, y = v5 + 1 := ⟨_, rfl⟩
                            refine j_iinc (y := v5_170) (ls' := [(0, jR f), (1, jI r0), (2, jI h), (3, jI m), (4, jI d), (5, jI v5_170), (6, jI v6), (7, jI v7_132)]) 5 dX0_binding_245 rfl ev5_170 (by omega) (by decide) rfl ?_
                            obtain ⟨v6_171, ev6_171⟩ : ∃ y : Int, y = v6 + 1 := ⟨_, rfl⟩
                            refine j_iinc (y := v6_171) (ls' := [(0, jR f), (1, jI r0), (2, jI h), (3, jI m), (4, jI d), (5, jI v5_170), (6, jI v6_171), (7, jI v7_132)]) 6 dX0_binding_248 rfl ev6_171 (by omega) (by decide) rfl ?_
                            refine j_goto (tgt := 57) dX0_binding_251 (by decide) ?_
                            refine j_sub (ls' := [(0, jR f), (1, jI r0), (2, jI h), (3, jI m), (4, jI d), (5, jI v5_170), (6, jI v6_171)]) [0, 1, 2, 3, 4, 5, 6] rfl ?_
                            exact ih57 v5_170 v6_171 M_169 ⟨by omega, by rw [ev6_171, hpre]; first | (exfalso; omega; done) | exact aSt_rp0 hv (by omega) (by omega) (by omega) (by omega) | exact aSt_rp3 hv (by omega) (by omega) (by rw [eM_169, jup_self]) (fun j j0 j1 => by first | (rw [eM_169, jup_at, if_neg (by omega)]; done) | rfl) | (rw [show v5_170 = v5 - 1 by omega]; first | exact aSt_rp2 hv (by omega) (by omega) (by rw [eM_169, show v5 - 2 = v5_170 - 1 by omega, jup_self, show v5 - 1 = v5_170 by omega]) (fun j j0 j1 => by first | (rw [eM_169, jup_at, if_neg (by omega)]; done) | rfl) | exact aSt_rp1 hv (by omega) (by omega) (by rw [eM_169, show v5 - 2 = v5_170 - 1 by omega, jup_self, show v5 - 1 = v5_170 by omega]) (fun j j0 j1 => by first | (rw [eM_169, jup_at, if_neg (by omega)]; done) | rfl)) | (rw [show v5_170 = v5 + 1 by omega]; exact aSt_rp4 hv (by omega) (by omega) (by rw [eM_169, jup_self]; exact er_166) (fun j j0 j1 => by first | (rw [eM_169, jup_at, if_neg (by omega)]; done) | rfl)), by intro c hc; first | exact hk c hc | (rw [eM_169, jup_cell hc]; exact hk c hc)⟩ (by omega)
                      · skip
                        refine j_iload 5 dX0_binding_167 rfl ?_
                        refine j_iconst dX0_binding_169 (by decide) ?_
                        refine j_icmp_le (tgt := 207) dX0_binding_170 (by decide) (fun c170_172 => ?_) (fun c170_172 => ?_)
                        · skip
                          refine j_iload 7 dX0_binding_207 rfl ?_
                          refine j_iconst dX0_binding_209 (by decide) ?_
                          refine j_icmp_le (tgt := 248) dX0_binding_210 (by decide) (fun c210_173 => ?_) (fun c210_173 => ?_)
                          · skip
                            obtain ⟨v6_174, ev6_174⟩ : ∃ y : Int, y = v6 + 1 := ⟨_, rfl⟩
                            refine j_iinc (y := v6_174) (ls' := [(0, jR f), (1, jI r0), (2, jI h), (3, jI m), (4, jI d), (5, jI v5), (6, jI v6_174), (7, jI v7_132)]) 6 dX0_binding_248 rfl ev6_174 (by omega) (by decide) rfl ?_
                            refine j_goto (tgt := 57) dX0_binding_251 (by decide) ?_
                            refine j_sub (ls' := [(0, jR f), (1, jI r0), (2, jI h), (3, jI m), (4, jI d), (5, jI v5), (6, jI v6_174)]) [0, 1, 2, 3, 4, 5, 6] rfl ?_
                            exact ih57 v5 v6_174 N57 ⟨by omega, by rw [ev6_174, hpre]; first | (exfalso; omega; done) | exact aSt_rp0 hv (by omega) (by omega) (by omega) (by omega) | exact aSt_rp3 hv (by omega) (by omega) (by rw [jup_zz, jup_self]) (fun j j0 j1 => by first | (rw [jup_zz, jup_at, if_neg (by omega)]; done) | rfl) | (rw [show v5 = v5 - 1 by omega]; first | exact aSt_rp2 hv (by omega) (by omega) (by rw [jup_zz, show v5 - 2 = v5 - 1 by omega, jup_self, show v5 - 1 = v5 by omega]) (fun j j0 j1 => by first | (rw [jup_zz, jup_at, if_neg (by omega)]; done) | rfl) | exact aSt_rp1 hv (by omega) (by omega) (by rw [jup_zz, show v5 - 2 = v5 - 1 by omega, jup_self, show v5 - 1 = v5 by omega]) (fun j j0 j1 => by first | (rw [jup_zz, jup_at, if_neg (by omega)]; done) | rfl)) | (rw [show v5 = v5 + 1 by omega]; exact aSt_rp4 hv (by omega) (by omega) (by rw [jup_zz, jup_self]; exact er_166) (fun j j0 j1 => by first | (rw [jup_zz, jup_at, if_neg (by omega)]; done) | rfl)), by intro c hc; first | exact hk c hc | (rw [jup_zz, jup_cell hc]; exact hk c hc)⟩ (by omega)
                          · skip
                            refine j_iload 5 dX0_binding_213 rfl ?_
                            refine j_aload_n 0 dX0_binding_215 rfl rfl ?_
                            refine j_getr f_X0_39 (ra_11 hf) dX0_binding_216 ?_
                            refine j_alen (n' := 64) (aa_10 hf) (by decide) dX0_binding_219 rfl ?_
                            refine j_icmp_ge (tgt := 248) dX0_binding_220 (by decide) (fun c220_175 => ?_) (fun c220_175 => ?_)
                            · skip
                              obtain ⟨v6_176, ev6_176⟩ : ∃ y : Int, y = v6 + 1 := ⟨_, rfl⟩
                              refine j_iinc (y := v6_176) (ls' := [(0, jR f), (1, jI r0), (2, jI h), (3, jI m), (4, jI d), (5, jI v5), (6, jI v6_176), (7, jI v7_132)]) 6 dX0_binding_248 rfl ev6_176 (by omega) (by decide) rfl ?_
                              refine j_goto (tgt := 57) dX0_binding_251 (by decide) ?_
                              refine j_sub (ls' := [(0, jR f), (1, jI r0), (2, jI h), (3, jI m), (4, jI d), (5, jI v5), (6, jI v6_176)]) [0, 1, 2, 3, 4, 5, 6] rfl ?_
                              exact ih57 v5 v6_176 N57 ⟨by omega, by rw [ev6_176, hpre]; first | (exfalso; omega; done) | exact aSt_rp0 hv (by omega) (by omega) (by omega) (by omega) | exact aSt_rp3 hv (by omega) (by omega) (by rw [jup_zz, jup_self]) (fun j j0 j1 => by first | (rw [jup_zz, jup_at, if_neg (by omega)]; done) | rfl) | (rw [show v5 = v5 - 1 by omega]; first | exact aSt_rp2 hv (by omega) (by omega) (by rw [jup_zz, show v5 - 2 = v5 - 1 by omega, jup_self, show v5 - 1 = v5 by omega]) (fun j j0 j1 => by first | (rw [jup_zz, jup_at, if_neg (by omega)]; done) | rfl) | exact aSt_rp1 hv (by omega) (by omega) (by rw [jup_zz, show v5 - 2 = v5 - 1 by omega, jup_self, show v5 - 1 = v5 by omega]) (fun j j0 j1 => by first | (rw [jup_zz, jup_at, if_neg (by omega)]; done) | rfl)) | (rw [show v5 = v5 + 1 by omega]; exact aSt_rp4 hv (by omega) (by omega) (by rw [jup_zz, jup_self]; exact er_166) (fun j j0 j1 => by first | (rw [jup_zz, jup_at, if_neg (by omega)]; done) | rfl)), by intro c hc; first | exact hk c hc | (rw [jup_zz, jup_cell hc]; exact hk c hc)⟩ (by omega)
                            · skip
                              refine j_aload_n 0 dX0_binding_223 rfl rfl ?_
                              refine j_getr f_X0_39 (ra_11 hf) dX0_binding_224 ?_
                              refine j_iload 5 dX0_binding_227 rfl ?_
                              refine j_aload_n 0 dX0_binding_229 rfl rfl ?_
                              refine j_aload_n 0 dX0_binding_230 rfl rfl ?_
                              refine j_getr f_X0_36 (ra_10 hf) dX0_binding_231 ?_
                              refine j_iload 6 dX0_binding_234 rfl ?_
                              refine j_iald (aa_9 hf) dX0_binding_236 (by omega) (by omega) ?_
                              refine j_eq (congrFun (hk (f + 9) (by omega)) v6) ?_
                              refine j_iload_n 2 dX0_binding_237 rfl rfl ?_
                              refine j_iload_n 3 dX0_binding_238 rfl rfl ?_
                              refine j_iload 4 dX0_binding_239 rfl ?_
                              refine j_callVi l_X0_69 ⟨Nat.le_of_ble_eq_true rfl, Nat.le_of_ble_eq_true rfl⟩ ⟨rfl, rfl⟩ dX0_binding_241 (oba hf) (c_X0_test N57 f hf ((M (f + 9) v6)) h m d (by rw [(hk 12 (by omega))]; exact h_cfrom) (by rw [(hk 13 (by omega))]; exact h_cto) (by rw [(hk 10 (by omega))]; exact h_ckind) (by rw [(hk 2 (by omega))]; exact h_ctrade) (by rw [(hk 11 (by omega))]; exact h_cpapers) (by first | assumption | omega) (by first | assumption | omega) (by first | assumption | omega) (by first | assumption | omega)) rfl rfl (Nat.le_of_ble_eq_true rfl) (fun r_177 M_178 h_179 => ?_)
                              obtain ⟨er_177, nh_179⟩ := h_179
                              refine j_eqM nh_179 ?_
                              clear nh_179
                              simp only [(hk 12 (by omega)), (hk 13 (by omega)), (hk 10 (by omega)), (hk 2 (by omega)), (hk 11 (by omega))] at er_177
                              refine j_iast (aa_10 hf) dX0_binding_244 (by omega) (by omega) ?_
                              refine j_nmM (fun M_180 eM_180 => ?_)
                              obtain ⟨v5_181, ev5_181⟩ : ∃ y : Int, y = v5 + 1 := ⟨_, rfl⟩
                              refine j_iinc (y := v5_181) (ls' := [(0, jR f), (1, jI r0), (2, jI h), (3, jI m), (4, jI d), (5, jI v5_181), (6, jI v6), (7, jI v7_132)]) 5 dX0_binding_245 rfl ev5_181 (by omega) (by decide) rfl ?_
                              obtain ⟨v6_182, ev6_182⟩ : ∃ y : Int, y = v6 + 1 := ⟨_, rfl⟩
                              refine j_iinc (y := v6_182) (ls' := [(0, jR f), (1, jI r0), (2, jI h), (3, jI m), (4, jI d), (5, jI v5_181), (6, jI v6_182), (7, jI v7_132)]) 6 dX0_binding_248 rfl ev6_182 (by omega) (by decide) rfl ?_
                              refine j_goto (tgt := 57) dX0_binding_251 (by decide) ?_
                              refine j_sub (ls' := [(0, jR f), (1, jI r0), (2, jI h), (3, jI m), (4, jI d), (5, jI v5_181), (6, jI v6_182)]) [0, 1, 2, 3, 4, 5, 6] rfl ?_
                              exact ih57 v5_181 v6_182 M_180 ⟨by omega, by rw [ev6_182, hpre]; first | (exfalso; omega; done) | exact aSt_rp0 hv (by omega) (by omega) (by omega) (by omega) | exact aSt_rp3 hv (by omega) (by omega) (by rw [eM_180, jup_self]) (fun j j0 j1 => by first | (rw [eM_180, jup_at, if_neg (by omega)]; done) | rfl) | (rw [show v5_181 = v5 - 1 by omega]; first | exact aSt_rp2 hv (by omega) (by omega) (by rw [eM_180, show v5 - 2 = v5_181 - 1 by omega, jup_self, show v5 - 1 = v5_181 by omega]) (fun j j0 j1 => by first | (rw [eM_180, jup_at, if_neg (by omega)]; done) | rfl) | exact aSt_rp1 hv (by omega) (by omega) (by rw [eM_180, show v5 - 2 = v5_181 - 1 by omega, jup_self, show v5 - 1 = v5_181 by omega]) (fun j j0 j1 => by first | (rw [eM_180, jup_at, if_neg (by omega)]; done) | rfl)) | (rw [show v5_181 = v5 + 1 by omega]; exact aSt_rp4 hv (by omega) (by omega) (by rw [eM_180, jup_self]; exact er_177) (fun j j0 j1 => by first | (rw [eM_180, jup_at, if_neg (by omega)]; done) | rfl)), by intro c hc; first | exact hk c hc | (rw [eM_180, jup_cell hc]; exact hk c hc)⟩ (by omega)
                        · skip
                          obtain ⟨v5_183, ev5_183⟩ : ∃ y : Int, y = v5 + (-1) := ⟨_, rfl⟩
                          refine j_iinc (y := v5_183) (ls' := [(0, jR f), (1, jI r0), (2, jI h), (3, jI m), (4, jI d), (5, jI v5_183), (6, jI v6), (7, jI v7_132)]) 5 dX0_binding_173 rfl ev5_183 (by omega) (by decide) rfl ?_
                          refine j_aload_n 0 dX0_binding_176 rfl rfl ?_
                          refine j_getr f_X0_39 (ra_11 hf) dX0_binding_177 ?_
                          refine j_iload 5 dX0_binding_180 rfl ?_
                          refine j_iconst dX0_binding_182 (by decide) ?_
                          refine j_isub dX0_binding_183 (by omega) ?_
                          refine j_aload_n 0 dX0_binding_184 rfl rfl ?_
                          refine j_getr f_X0_39 (ra_11 hf) dX0_binding_185 ?_
                          refine j_iload 5 dX0_binding_188 rfl ?_
                          refine j_iconst dX0_binding_190 (by decide) ?_
                          refine j_isub dX0_binding_191 (by omega) ?_
                          refine j_iald (aa_10 hf) dX0_binding_192 (by omega) (by omega) ?_
                          refine j_aload_n 0 dX0_binding_193 rfl rfl ?_
                          refine j_getr f_X0_39 (ra_11 hf) dX0_binding_194 ?_
                          refine j_iload 5 dX0_binding_197 rfl ?_
                          refine j_iald (aa_10 hf) dX0_binding_199 (by omega) (by omega) ?_
                          refine j_mmax lm_X0_66 lm_max ⟨Nat.le_of_ble_eq_true rfl, Nat.le_of_ble_eq_true rfl⟩ ⟨Nat.le_of_ble_eq_true rfl, Nat.le_of_ble_eq_true rfl⟩ dX0_binding_200 ?_
                          refine j_iast (aa_10 hf) dX0_binding_203 (by omega) (by omega) ?_
                          refine j_nmM (fun M_184 eM_184 => ?_)
                          refine j_goto (tgt := 248) dX0_binding_204 (by decide) ?_
                          obtain ⟨v6_185, ev6_185⟩ : ∃ y : Int, y = v6 + 1 := ⟨_, rfl⟩
                          refine j_iinc (y := v6_185) (ls' := [(0, jR f), (1, jI r0), (2, jI h), (3, jI m), (4, jI d), (5, jI v5_183), (6, jI v6_185), (7, jI v7_132)]) 6 dX0_binding_248 rfl ev6_185 (by omega) (by decide) rfl ?_
                          refine j_goto (tgt := 57) dX0_binding_251 (by decide) ?_
                          refine j_sub (ls' := [(0, jR f), (1, jI r0), (2, jI h), (3, jI m), (4, jI d), (5, jI v5_183), (6, jI v6_185)]) [0, 1, 2, 3, 4, 5, 6] rfl ?_
                          exact ih57 v5_183 v6_185 M_184 ⟨by omega, by rw [ev6_185, hpre]; first | (exfalso; omega; done) | exact aSt_rp0 hv (by omega) (by omega) (by omega) (by omega) | exact aSt_rp3 hv (by omega) (by omega) (by rw [eM_184, jup_self]) (fun j j0 j1 => by first | (rw [eM_184, jup_at, if_neg (by omega)]; done) | rfl) | (rw [show v5_183 = v5 - 1 by omega]; first | exact aSt_rp2 hv (by omega) (by omega) (by rw [eM_184, show v5 - 2 = v5_183 - 1 by omega, jup_self, show v5 - 1 = v5_183 by omega]) (fun j j0 j1 => by first | (rw [eM_184, jup_at, if_neg (by omega)]; done) | rfl) | exact aSt_rp1 hv (by omega) (by omega) (by rw [eM_184, show v5 - 2 = v5_183 - 1 by omega, jup_self, show v5 - 1 = v5_183 by omega]) (fun j j0 j1 => by first | (rw [eM_184, jup_at, if_neg (by omega)]; done) | rfl)) | (rw [show v5_183 = v5 + 1 by omega]; exact aSt_rp4 hv (by omega) (by omega) (by rw [eM_184, jup_self]; exact er_177) (fun j j0 j1 => by first | (rw [eM_184, jup_at, if_neg (by omega)]; done) | rfl)), by intro c hc; first | exact hk c hc | (rw [eM_184, jup_cell hc]; exact hk c hc)⟩ (by omega)
                    · skip
                      obtain ⟨v5_186, ev5_186⟩ : ∃ y : Int, y = v5 + (-1) := ⟨_, rfl⟩
                      refine j_iinc (y := v5_186) (ls' := [(0, jR f), (1, jI r0), (2, jI h), (3, jI m), (4, jI d), (5, jI v5_186), (6, jI v6), (7, jI v7_132)]) 5 dX0_binding_127 rfl ev5_186 (by omega) (by decide) rfl ?_
                      refine j_aload_n 0 dX0_binding_130 rfl rfl ?_
                      refine j_getr f_X0_39 (ra_11 hf) dX0_binding_131 ?_
                      refine j_iload 5 dX0_binding_134 rfl ?_
                      refine j_iconst dX0_binding_136 (by decide) ?_
                      refine j_isub dX0_binding_137 (by omega) ?_
                      refine j_aload_n 0 dX0_binding_138 rfl rfl ?_
                      refine j_getr f_X0_39 (ra_11 hf) dX0_binding_139 ?_
                      refine j_iload 5 dX0_binding_142 rfl ?_
                      refine j_iconst dX0_binding_144 (by decide) ?_
                      refine j_isub dX0_binding_145 (by omega) ?_
                      refine j_iald (aa_10 hf) dX0_binding_146 (by omega) (by omega) ?_
                      refine j_aload_n 0 dX0_binding_147 rfl rfl ?_
                      refine j_getr f_X0_39 (ra_11 hf) dX0_binding_148 ?_
                      refine j_iload 5 dX0_binding_151 rfl ?_
                      refine j_iald (aa_10 hf) dX0_binding_153 (by omega) (by omega) ?_
                      refine j_mmin lm_X0_60 lm_min ⟨Nat.le_of_ble_eq_true rfl, Nat.le_of_ble_eq_true rfl⟩ ⟨Nat.le_of_ble_eq_true rfl, Nat.le_of_ble_eq_true rfl⟩ dX0_binding_154 ?_
                      refine j_iast (aa_10 hf) dX0_binding_157 (by omega) (by omega) ?_
                      refine j_nmM (fun M_187 eM_187 => ?_)
                      refine j_goto (tgt := 248) dX0_binding_158 (by decide) ?_
                      obtain ⟨v6_188, ev6_188⟩ : ∃ y : Int, y = v6 + 1 := ⟨_, rfl⟩
                      refine j_iinc (y := v6_188) (ls' := [(0, jR f), (1, jI r0), (2, jI h), (3, jI m), (4, jI d), (5, jI v5_186), (6, jI v6_188), (7, jI v7_132)]) 6 dX0_binding_248 rfl ev6_188 (by omega) (by decide) rfl ?_
                      refine j_goto (tgt := 57) dX0_binding_251 (by decide) ?_
                      refine j_sub (ls' := [(0, jR f), (1, jI r0), (2, jI h), (3, jI m), (4, jI d), (5, jI v5_186), (6, jI v6_188)]) [0, 1, 2, 3, 4, 5, 6] rfl ?_
                      exact ih57 v5_186 v6_188 M_187 ⟨by omega, by rw [ev6_188, hpre]; first | (exfalso; omega; done) | exact aSt_rp0 hv (by omega) (by omega) (by omega) (by omega) | exact aSt_rp3 hv (by omega) (by omega) (by rw [eM_187, jup_self]) (fun j j0 j1 => by first | (rw [eM_187, jup_at, if_neg (by omega)]; done) | rfl) | (rw [show v5_186 = v5 - 1 by omega]; first | exact aSt_rp2 hv (by omega) (by omega) (by rw [eM_187, show v5 - 2 = v5_186 - 1 by omega, jup_self, show v5 - 1 = v5_186 by omega]) (fun j j0 j1 => by first | (rw [eM_187, jup_at, if_neg (by omega)]; done) | rfl) | exact aSt_rp1 hv (by omega) (by omega) (by rw [eM_187, show v5 - 2 = v5_186 - 1 by omega, jup_self, show v5 - 1 = v5_186 by omega]) (fun j j0 j1 => by first | (rw [eM_187, jup_at, if_neg (by omega)]; done) | rfl)) | (rw [show v5_186 = v5 + 1 by omega]; exact aSt_rp4 hv (by omega) (by omega) (by rw [eM_187, jup_self]; exact er_177) (fun j j0 j1 => by first | (rw [eM_187, jup_at, if_neg (by omega)]; done) | rfl)), by intro c hc; first | exact hk c hc | (rw [eM_187, jup_cell hc]; exact hk c hc)⟩ (by omega)
                · skip
                  refine j_iload 5 dX0_binding_87 rfl ?_
                  refine j_if_le (tgt := 115) dX0_binding_89 (by decide) (fun c89_189 => ?_) (fun c89_189 => ?_)
                  · skip
                    refine j_iload 7 dX0_binding_115 rfl ?_
                    refine j_iconst dX0_binding_117 (by decide) ?_
                    refine j_icmp_ne (tgt := 161) dX0_binding_118 (by decide) (fun c118_190 => ?_) (fun c118_190 => ?_)
                    · skip
                      refine j_iload 7 dX0_binding_161 rfl ?_
                      refine j_iconst dX0_binding_163 (by decide) ?_
                      refine j_icmp_ne (tgt := 207) dX0_binding_164 (by decide) (fun c164_191 => ?_) (fun c164_191 => ?_)
                      · skip
                        refine j_iload 7 dX0_binding_207 rfl ?_
                        refine j_iconst dX0_binding_209 (by decide) ?_
                        refine j_icmp_le (tgt := 248) dX0_binding_210 (by decide) (fun c210_192 => ?_) (fun c210_192 => ?_)
                        · skip
                          obtain ⟨v6_193, ev6_193⟩ : ∃ y : Int, y = v6 + 1 := ⟨_, rfl⟩
                          refine j_iinc (y := v6_193) (ls' := [(0, jR f), (1, jI r0), (2, jI h), (3, jI m), (4, jI d), (5, jI v5), (6, jI v6_193), (7, jI v7_132)]) 6 dX0_binding_248 rfl ev6_193 (by omega) (by decide) rfl ?_
                          refine j_goto (tgt := 57) dX0_binding_251 (by decide) ?_
                          refine j_sub (ls' := [(0, jR f), (1, jI r0), (2, jI h), (3, jI m), (4, jI d), (5, jI v5), (6, jI v6_193)]) [0, 1, 2, 3, 4, 5, 6] rfl ?_
                          exact ih57 v5 v6_193 N57 ⟨by omega, by rw [ev6_193, hpre]; first | (exfalso; omega; done) | exact aSt_rp0 hv (by omega) (by omega) (by omega) (by omega) | exact aSt_rp3 hv (by omega) (by omega) (by rw [jup_zz, jup_self]) (fun j j0 j1 => by first | (rw [jup_zz, jup_at, if_neg (by omega)]; done) | rfl) | (rw [show v5 = v5 - 1 by omega]; first | exact aSt_rp2 hv (by omega) (by omega) (by rw [jup_zz, show v5 - 2 = v5 - 1 by omega, jup_self, show v5 - 1 = v5 by omega]) (fun j j0 j1 => by first | (rw [jup_zz, jup_at, if_neg (by omega)]; done) | rfl) | exact aSt_rp1 hv (by omega) (by omega) (by rw [jup_zz, show v5 - 2 = v5 - 1 by omega, jup_self, show v5 - 1 = v5 by omega]) (fun j j0 j1 => by first | (rw [jup_zz, jup_at, if_neg (by omega)]; done) | rfl)) | (rw [show v5 = v5 + 1 by omega]; exact aSt_rp4 hv (by omega) (by omega) (by rw [jup_zz, jup_self]; exact er_177) (fun j j0 j1 => by first | (rw [jup_zz, jup_at, if_neg (by omega)]; done) | rfl)), by intro c hc; first | exact hk c hc | (rw [jup_zz, jup_cell hc]; exact hk c hc)⟩ (by omega)
                        · skip
                          refine j_iload 5 dX0_binding_213 rfl ?_
                          refine j_aload_n 0 dX0_binding_215 rfl rfl ?_
                          refine j_getr f_X0_39 (ra_11 hf) dX0_binding_216 ?_
                          refine j_alen (n' := 64) (aa_10 hf) (by decide) dX0_binding_219 rfl ?_
                          refine j_icmp_ge (tgt := 248) dX0_binding_220 (by decide) (fun c220_194 => ?_) (fun c220_194 => ?_)
                          · skip
                            obtain ⟨v6_195, ev6_195⟩ : ∃ y : Int, y = v6 + 1 := ⟨_, rfl⟩
                            refine j_iinc (y := v6_195) (ls' := [(0, jR f), (1, jI r0), (2, jI h), (3, jI m), (4, jI d), (5, jI v5), (6, jI v6_195), (7, jI v7_132)]) 6 dX0_binding_248 rfl ev6_195 (by omega) (by decide) rfl ?_
                            refine j_goto (tgt := 57) dX0_binding_251 (by decide) ?_
                            refine j_sub (ls' := [(0, jR f), (1, jI r0), (2, jI h), (3, jI m), (4, jI d), (5, jI v5), (6, jI v6_195)]) [0, 1, 2, 3, 4, 5, 6] rfl ?_
                            exact ih57 v5 v6_195 N57 ⟨by omega, by rw [ev6_195, hpre]; first | (exfalso; omega; done) | exact aSt_rp0 hv (by omega) (by omega) (by omega) (by omega) | exact aSt_rp3 hv (by omega) (by omega) (by rw [jup_zz, jup_self]) (fun j j0 j1 => by first | (rw [jup_zz, jup_at, if_neg (by omega)]; done) | rfl) | (rw [show v5 = v5 - 1 by omega]; first | exact aSt_rp2 hv (by omega) (by omega) (by rw [jup_zz, show v5 - 2 = v5 - 1 by omega, jup_self, show v5 - 1 = v5 by omega]) (fun j j0 j1 => by first | (rw [jup_zz, jup_at, if_neg (by omega)]; done) | rfl) | exact aSt_rp1 hv (by omega) (by omega) (by rw [jup_zz, show v5 - 2 = v5 - 1 by omega, jup_self, show v5 - 1 = v5 by omega]) (fun j j0 j1 => by first | (rw [jup_zz, jup_at, if_neg (by omega)]; done) | rfl)) | (rw [show v5 = v5 + 1 by omega]; exact aSt_rp4 hv (by omega) (by omega) (by rw [jup_zz, jup_self]; exact er_177) (fun j j0 j1 => by first | (rw [jup_zz, jup_at, if_neg (by omega)]; done) | rfl)), by intro c hc; first | exact hk c hc | (rw [jup_zz, jup_cell hc]; exact hk c hc)⟩ (by omega)
                          · skip
                            refine j_aload_n 0 dX0_binding_223 rfl rfl ?_
                            refine j_getr f_X0_39 (ra_11 hf) dX0_binding_224 ?_
                            refine j_iload 5 dX0_binding_227 rfl ?_
                            refine j_aload_n 0 dX0_binding_229 rfl rfl ?_
                            refine j_aload_n 0 dX0_binding_230 rfl rfl ?_
                            refine j_getr f_X0_36 (ra_10 hf) dX0_binding_231 ?_
                            refine j_iload 6 dX0_binding_234 rfl ?_
                            refine j_iald (aa_9 hf) dX0_binding_236 (by omega) (by omega) ?_
                            refine j_eq (congrFun (hk (f + 9) (by omega)) v6) ?_
                            refine j_iload_n 2 dX0_binding_237 rfl rfl ?_
                            refine j_iload_n 3 dX0_binding_238 rfl rfl ?_
                            refine j_iload 4 dX0_binding_239 rfl ?_
                            refine j_callVi l_X0_69 ⟨Nat.le_of_ble_eq_true rfl, Nat.le_of_ble_eq_true rfl⟩ ⟨rfl, rfl⟩ dX0_binding_241 (oba hf) (c_X0_test N57 f hf ((M (f + 9) v6)) h m d (by rw [(hk 12 (by omega))]; exact h_cfrom) (by rw [(hk 13 (by omega))]; exact h_cto) (by rw [(hk 10 (by omega))]; exact h_ckind) (by rw [(hk 2 (by omega))]; exact h_ctrade) (by rw [(hk 11 (by omega))]; exact h_cpapers) (by first | assumption | omega) (by first | assumption | omega) (by first | assumption | omega) (by first | assumption | omega)) rfl rfl (Nat.le_of_ble_eq_true rfl) (fun r_196 M_197 h_198 => ?_)
                            obtain ⟨er_196, nh_198⟩ := h_198
                            refine j_eqM nh_198 ?_
                            clear nh_198
                            simp only [(hk 12 (by omega)), (hk 13 (by omega)), (hk 10 (by omega)), (hk 2 (by omega)), (hk 11 (by omega))] at er_196
                            refine j_iast (aa_10 hf) dX0_binding_244 (by omega) (by omega) ?_
                            refine j_nmM (fun M_199 eM_199 => ?_)
                            obtain ⟨v5_200, ev5_200⟩ : ∃ y : Int, y = v5 + 1 := ⟨_, rfl⟩
                            refine j_iinc (y := v5_200) (ls' := [(0, jR f), (1, jI r0), (2, jI h), (3, jI m), (4, jI d), (5, jI v5_200), (6, jI v6), (7, jI v7_132)]) 5 dX0_binding_245 rfl ev5_200 (by omega) (by decide) rfl ?_
                            obtain ⟨v6_201, ev6_201⟩ : ∃ y : Int, y = v6 + 1 := ⟨_, rfl⟩
                            refine j_iinc (y := v6_201) (ls' := [(0, jR f), (1, jI r0), (2, jI h), (3, jI m), (4, jI d), (5, jI v5_200), (6, jI v6_201), (7, jI v7_132)]) 6 dX0_binding_248 rfl ev6_201 (by omega) (by decide) rfl ?_
                            refine j_goto (tgt := 57) dX0_binding_251 (by decide) ?_
                            refine j_sub (ls' := [(0, jR f), (1, jI r0), (2, jI h), (3, jI m), (4, jI d), (5, jI v5_200), (6, jI v6_201)]) [0, 1, 2, 3, 4, 5, 6] rfl ?_
                            exact ih57 v5_200 v6_201 M_199 ⟨by omega, by rw [ev6_201, hpre]; first | (exfalso; omega; done) | exact aSt_rp0 hv (by omega) (by omega) (by omega) (by omega) | exact aSt_rp3 hv (by omega) (by omega) (by rw [eM_199, jup_self]) (fun j j0 j1 => by first | (rw [eM_199, jup_at, if_neg (by omega)]; done) | rfl) | (rw [show v5_200 = v5 - 1 by omega]; first | exact aSt_rp2 hv (by omega) (by omega) (by rw [eM_199, show v5 - 2 = v5_200 - 1 by omega, jup_self, show v5 - 1 = v5_200 by omega]) (fun j j0 j1 => by first | (rw [eM_199, jup_at, if_neg (by omega)]; done) | rfl) | exact aSt_rp1 hv (by omega) (by omega) (by rw [eM_199, show v5 - 2 = v5_200 - 1 by omega, jup_self, show v5 - 1 = v5_200 by omega]) (fun j j0 j1 => by first | (rw [eM_199, jup_at, if_neg (by omega)]; done) | rfl)) | (rw [show v5_200 = v5 + 1 by omega]; exact aSt_rp4 hv (by omega) (by omega) (by rw [eM_199, jup_self]; exact er_196) (fun j j0 j1 => by first | (rw [eM_199, jup_at, if_neg (by omega)]; done) | rfl)), by intro c hc; first | exact hk c hc | (rw [eM_199, jup_cell hc]; exact hk c hc)⟩ (by omega)
                      · skip
                        refine j_iload 5 dX0_binding_167 rfl ?_
                        refine j_iconst dX0_binding_169 (by decide) ?_
                        refine j_icmp_le (tgt := 207) dX0_binding_170 (by decide) (fun c170_202 => ?_) (fun c170_202 => ?_)
                        · skip
                          refine j_iload 7 dX0_binding_207 rfl ?_
                          refine j_iconst dX0_binding_209 (by decide) ?_
                          refine j_icmp_le (tgt := 248) dX0_binding_210 (by decide) (fun c210_203 => ?_) (fun c210_203 => ?_)
                          · skip
                            obtain ⟨v6_204, ev6_204⟩ : ∃ y : Int, y = v6 + 1 := ⟨_, rfl⟩
                            refine j_iinc (y := v6_204) (ls' := [(0, jR f), (1, jI r0), (2, jI h), (3, jI m), (4, jI d), (5, jI v5), (6, jI v6_204), (7, jI v7_132)]) 6 dX0_binding_248 rfl ev6_204 (by omega) (by decide) rfl ?_
                            refine j_goto (tgt := 57) dX0_binding_251 (by decide) ?_
                            refine j_sub (ls' := [(0, jR f), (1, jI r0), (2, jI h), (3, jI m), (4, jI d), (5, jI v5), (6, jI v6_204)]) [0, 1, 2, 3, 4, 5, 6] rfl ?_
                            exact ih57 v5 v6_204 N57 ⟨by omega, by rw [ev6_204, hpre]; first | (exfalso; omega; done) | exact aSt_rp0 hv (by omega) (by omega) (by omega) (by omega) | exact aSt_rp3 hv (by omega) (by omega) (by rw [jup_zz, jup_self]) (fun j j0 j1 => by first | (rw [jup_zz, jup_at, if_neg (by omega)]; done) | rfl) | (rw [show v5 = v5 - 1 by omega]; first | exact aSt_rp2 hv (by omega) (by omega) (by rw [jup_zz, show v5 - 2 = v5 - 1 by omega, jup_self, show v5 - 1 = v5 by omega]) (fun j j0 j1 => by first | (rw [jup_zz, jup_at, if_neg (by omega)]; done) | rfl) | exact aSt_rp1 hv (by omega) (by omega) (by rw [jup_zz, show v5 - 2 = v5 - 1 by omega, jup_self, show v5 - 1 = v5 by omega]) (fun j j0 j1 => by first | (rw [jup_zz, jup_at, if_neg (by omega)]; done) | rfl)) | (rw [show v5 = v5 + 1 by omega]; exact aSt_rp4 hv (by omega) (by omega) (by rw [jup_zz, jup_self]; exact er_196) (fun j j0 j1 => by first | (rw [jup_zz, jup_at, if_neg (by omega)]; done) | rfl)), by intro c hc; first | exact hk c hc | (rw [jup_zz, jup_cell hc]; exact hk c hc)⟩ (by omega)
                          · skip
                            refine j_iload 5 dX0_binding_213 rfl ?_
                            refine j_aload_n 0 dX0_binding_215 rfl rfl ?_
                            refine j_getr f_X0_39 (ra_11 hf) dX0_binding_216 ?_
                            refine j_alen (n' := 64) (aa_10 hf) (by decide) dX0_binding_219 rfl ?_
                            refine j_icmp_ge (tgt := 248) dX0_binding_220 (by decide) (fun c220_205 => ?_) (fun c220_205 => ?_)
                            · skip
                              obtain ⟨v6_206, ev6_206⟩ : ∃ y : Int, y = v6 + 1 := ⟨_, rfl⟩
                              refine j_iinc (y := v6_206) (ls' := [(0, jR f), (1, jI r0), (2, jI h), (3, jI m), (4, jI d), (5, jI v5), (6, jI v6_206), (7, jI v7_132)]) 6 dX0_binding_248 rfl ev6_206 (by omega) (by decide) rfl ?_
                              refine j_goto (tgt := 57) dX0_binding_251 (by decide) ?_
                              refine j_sub (ls' := [(0, jR f), (1, jI r0), (2, jI h), (3, jI m), (4, jI d), (5, jI v5), (6, jI v6_206)]) [0, 1, 2, 3, 4, 5, 6] rfl ?_
                              exact ih57 v5 v6_206 N57 ⟨by omega, by rw [ev6_206, hpre]; first | (exfalso; omega; done) | exact aSt_rp0 hv (by omega) (by omega) (by omega) (by omega) | exact aSt_rp3 hv (by omega) (by omega) (by rw [jup_zz, jup_self]) (fun j j0 j1 => by first | (rw [jup_zz, jup_at, if_neg (by omega)]; done) | rfl) | (rw [show v5 = v5 - 1 by omega]; first | exact aSt_rp2 hv (by omega) (by omega) (by rw [jup_zz, show v5 - 2 = v5 - 1 by omega, jup_self, show v5 - 1 = v5 by omega]) (fun j j0 j1 => by first | (rw [jup_zz, jup_at, if_neg (by omega)]; done) | rfl) | exact aSt_rp1 hv (by omega) (by omega) (by rw [jup_zz, show v5 - 2 = v5 - 1 by omega, jup_self, show v5 - 1 = v5 by omega]) (fun j j0 j1 => by first | (rw [jup_zz, jup_at, if_neg (by omega)]; done) | rfl)) | (rw [show v5 = v5 + 1 by omega]; exact aSt_rp4 hv (by omega) (by omega) (by rw [jup_zz, jup_self]; exact er_196) (fun j j0 j1 => by first | (rw [jup_zz, jup_at, if_neg (by omega)]; done) | rfl)), by intro c hc; first | exact hk c hc | (rw [jup_zz, jup_cell hc]; exact hk c hc)⟩ (by omega)
                            · skip
                              refine j_aload_n 0 dX0_binding_223 rfl rfl ?_
                              refine j_getr f_X0_39 (ra_11 hf) dX0_binding_224 ?_
                              refine j_iload 5 dX0_binding_227 rfl ?_
                              refine j_aload_n 0 dX0_binding_229 rfl rfl ?_
                              refine j_aload_n 0 dX0_binding_230 rfl rfl ?_
                              refine j_getr f_X0_36 (ra_10 hf) dX0_binding_231 ?_
                              refine j_iload 6 dX0_binding_234 rfl ?_
                              refine j_iald (aa_9 hf) dX0_binding_236 (by omega) (by omega) ?_
                              refine j_eq (congrFun (hk (f + 9) (by omega)) v6) ?_
                              refine j_iload_n 2 dX0_binding_237 rfl rfl ?_
                              refine j_iload_n 3 dX0_binding_238 rfl rfl ?_
                              refine j_iload 4 dX0_binding_239 rfl ?_
                              refine j_callVi l_X0_69 ⟨Nat.le_of_ble_eq_true rfl, Nat.le_of_ble_eq_true rfl⟩ ⟨rfl, rfl⟩ dX0_binding_241 (oba hf) (c_X0_test N57 f hf ((M (f + 9) v6)) h m d (by rw [(hk 12 (by omega))]; exact h_cfrom) (by rw [(hk 13 (by omega))]; exact h_cto) (by rw [(hk 10 (by omega))]; exact h_ckind) (by rw [(hk 2 (by omega))]; exact h_ctrade) (by rw [(hk 11 (by omega))]; exact h_cpapers) (by first | assumption | omega) (by first | assumption | omega) (by first | assumption | omega) (by first | assumption | omega)) rfl rfl (Nat.le_of_ble_eq_true rfl) (fun r_207 M_208 h_209 => ?_)
                              obtain ⟨er_207, nh_209⟩ := h_209
                              refine j_eqM nh_209 ?_
                              clear nh_209
                              simp only [(hk 12 (by omega)), (hk 13 (by omega)), (hk 10 (by omega)), (hk 2 (by omega)), (hk 11 (by omega))] at er_207
                              refine j_iast (aa_10 hf) dX0_binding_244 (by omega) (by omega) ?_
                              refine j_nmM (fun M_210 eM_210 => ?_)
                              obtain ⟨v5_211, ev5_211⟩ : ∃ y : Int, y = v5 + 1 := ⟨_, rfl⟩
                              refine j_iinc (y := v5_211) (ls' := [(0, jR f), (1, jI r0), (2, jI h), (3, jI m), (4, jI d), (5, jI v5_211), (6, jI v6), (7, jI v7_132)]) 5 dX0_binding_245 rfl ev5_211 (by omega) (by decide) rfl ?_
                              obtain ⟨v6_212, ev6_212⟩ : ∃ y : Int, y = v6 + 1 := ⟨_, rfl⟩
                              refine j_iinc (y := v6_212) (ls' := [(0, jR f), (1, jI r0), (2, jI h), (3, jI m), (4, jI d), (5, jI v5_211), (6, jI v6_212), (7, jI v7_132)]) 6 dX0_binding_248 rfl ev6_212 (by omega) (by decide) rfl ?_
                              refine j_goto (tgt := 57) dX0_binding_251 (by decide) ?_
                              refine j_sub (ls' := [(0, jR f), (1, jI r0), (2, jI h), (3, jI m), (4, jI d), (5, jI v5_211), (6, jI v6_212)]) [0, 1, 2, 3, 4, 5, 6] rfl ?_
                              exact ih57 v5_211 v6_212 M_210 ⟨by omega, by rw [ev6_212, hpre]; first | (exfalso; omega; done) | exact aSt_rp0 hv (by omega) (by omega) (by omega) (by omega) | exact aSt_rp3 hv (by omega) (by omega) (by rw [eM_210, jup_self]) (fun j j0 j1 => by first | (rw [eM_210, jup_at, if_neg (by omega)]; done) | rfl) | (rw [show v5_211 = v5 - 1 by omega]; first | exact aSt_rp2 hv (by omega) (by omega) (by rw [eM_210, show v5 - 2 = v5_211 - 1 by omega, jup_self, show v5 - 1 = v5_211 by omega]) (fun j j0 j1 => by first | (rw [eM_210, jup_at, if_neg (by omega)]; done) | rfl) | exact aSt_rp1 hv (by omega) (by omega) (by rw [eM_210, show v5 - 2 = v5_211 - 1 by omega, jup_self, show v5 - 1 = v5_211 by omega]) (fun j j0 j1 => by first | (rw [eM_210, jup_at, if_neg (by omega)]; done) | rfl)) | (rw [show v5_211 = v5 + 1 by omega]; exact aSt_rp4 hv (by omega) (by omega) (by rw [eM_210, jup_self]; exact er_207) (fun j j0 j1 => by first | (rw [eM_210, jup_at, if_neg (by omega)]; done) | rfl)), by intro c hc; first | exact hk c hc | (rw [eM_210, jup_cell hc]; exact hk c hc)⟩ (by omega)
                        · skip
                          obtain ⟨v5_213, ev5_213⟩ : ∃ y : Int, y = v5 + (-1) := ⟨_, rfl⟩
                          refine j_iinc (y := v5_213) (ls' := [(0, jR f), (1, jI r0), (2, jI h), (3, jI m), (4, jI d), (5, jI v5_213), (6, jI v6), (7, jI v7_132)]) 5 dX0_binding_173 rfl ev5_213 (by omega) (by decide) rfl ?_
                          refine j_aload_n 0 dX0_binding_176 rfl rfl ?_
                          refine j_getr f_X0_39 (ra_11 hf) dX0_binding_177 ?_
                          refine j_iload 5 dX0_binding_180 rfl ?_
                          refine j_iconst dX0_binding_182 (by decide) ?_
                          refine j_isub dX0_binding_183 (by omega) ?_
                          refine j_aload_n 0 dX0_binding_184 rfl rfl ?_
                          refine j_getr f_X0_39 (ra_11 hf) dX0_binding_185 ?_
                          refine j_iload 5 dX0_binding_188 rfl ?_
                          refine j_iconst dX0_binding_190 (by decide) ?_
                          refine j_isub dX0_binding_191 (by omega) ?_
                          refine j_iald (aa_10 hf) dX0_binding_192 (by omega) (by omega) ?_
                          refine j_aload_n 0 dX0_binding_193 rfl rfl ?_
                          refine j_getr f_X0_39 (ra_11 hf) dX0_binding_194 ?_
                          refine j_iload 5 dX0_binding_197 rfl ?_
                          refine j_iald (aa_10 hf) dX0_binding_199 (by omega) (by omega) ?_
                          refine j_mmax lm_X0_66 lm_max ⟨Nat.le_of_ble_eq_true rfl, Nat.le_of_ble_eq_true rfl⟩ ⟨Nat.le_of_ble_eq_true rfl, Nat.le_of_ble_eq_true rfl⟩ dX0_binding_200 ?_
                          refine j_iast (aa_10 hf) dX0_binding_203 (by omega) (by omega) ?_
                          refine j_nmM (fun M_214 eM_214 => ?_)
                          refine j_goto (tgt := 248) dX0_binding_204 (by decide) ?_
                          obtain ⟨v6_215, ev6_215⟩ : ∃ y : Int, y = v6 + 1 := ⟨_, rfl⟩
                          refine j_iinc (y := v6_215) (ls' := [(0, jR f), (1, jI r0), (2, jI h), (3, jI m), (4, jI d), (5, jI v5_213), (6, jI v6_215), (7, jI v7_132)]) 6 dX0_binding_248 rfl ev6_215 (by omega) (by decide) rfl ?_
                          refine j_goto (tgt := 57) dX0_binding_251 (by decide) ?_
                          refine j_sub (ls' := [(0, jR f), (1, jI r0), (2, jI h), (3, jI m), (4, jI d), (5, jI v5_213), (6, jI v6_215)]) [0, 1, 2, 3, 4, 5, 6] rfl ?_
                          exact ih57 v5_213 v6_215 M_214 ⟨by omega, by rw [ev6_215, hpre]; first | (exfalso; omega; done) | exact aSt_rp0 hv (by omega) (by omega) (by omega) (by omega) | exact aSt_rp3 hv (by omega) (by omega) (by rw [eM_214, jup_self]) (fun j j0 j1 => by first | (rw [eM_214, jup_at, if_neg (by omega)]; done) | rfl) | (rw [show v5_213 = v5 - 1 by omega]; first | exact aSt_rp2 hv (by omega) (by omega) (by rw [eM_214, show v5 - 2 = v5_213 - 1 by omega, jup_self, show v5 - 1 = v5_213 by omega]) (fun j j0 j1 => by first | (rw [eM_214, jup_at, if_neg (by omega)]; done) | rfl) | exact aSt_rp1 hv (by omega) (by omega) (by rw [eM_214, show v5 - 2 = v5_213 - 1 by omega, jup_self, show v5 - 1 = v5_213 by omega]) (fun j j0 j1 => by first | (rw [eM_214, jup_at, if_neg (by omega)]; done) | rfl)) | (rw [show v5_213 = v5 + 1 by omega]; exact aSt_rp4 hv (by omega) (by omega) (by rw [eM_214, jup_self]; exact er_207) (fun j j0 j1 => by first | (rw [eM_214, jup_at, if_neg (by omega)]; done) | rfl)), by intro c hc; first | exact hk c hc | (rw [eM_214, jup_cell hc]; exact hk c hc)⟩ (by omega)
                    · skip
                      refine j_iload 5 dX0_binding_121 rfl ?_
                      refine j_iconst dX0_binding_123 (by decide) ?_
                      refine j_icmp_le (tgt := 161) dX0_binding_124 (by decide) (fun c124_216 => ?_) (fun c124_216 => ?_)
                      · skip
                        refine j_iload 7 dX0_binding_161 rfl ?_
                        refine j_iconst dX0_binding_163 (by decide) ?_
                        refine j_icmp_ne (tgt := 207) dX0_binding_164 (by decide) (fun c164_217 => ?_) (fun c164_217 => ?_)
                        · skip
                          refine j_iload 7 dX0_binding_207 rfl ?_
                          refine j_iconst dX0_binding_209 (by decide) ?_
                          refine j_icmp_le (tgt := 248) dX0_binding_210 (by decide) (fun c210_218 => ?_) (fun c210_218 => ?_)
                          · skip
                            obtain ⟨v6_219, ev6_219⟩ : ∃ y : Int, y = v6 + 1 := ⟨_, rfl⟩
                            refine j_iinc (y := v6_219) (ls' := [(0, jR f), (1, jI r0), (2, jI h), (3, jI m), (4, jI d), (5, jI v5), (6, jI v6_219), (7, jI v7_132)]) 6 dX0_binding_248 rfl ev6_219 (by omega) (by decide) rfl ?_
                            refine j_goto (tgt := 57) dX0_binding_251 (by decide) ?_
                            refine j_sub (ls' := [(0, jR f), (1, jI r0), (2, jI h), (3, jI m), (4, jI d), (5, jI v5), (6, jI v6_219)]) [0, 1, 2, 3, 4, 5, 6] rfl ?_
                            exact ih57 v5 v6_219 N57 ⟨by omega, by rw [ev6_219, hpre]; first | (exfalso; omega; done) | exact aSt_rp0 hv (by omega) (by omega) (by omega) (by omega) | exact aSt_rp3 hv (by omega) (by omega) (by rw [jup_zz, jup_self]) (fun j j0 j1 => by first | (rw [jup_zz, jup_at, if_neg (by omega)]; done) | rfl) | (rw [show v5 = v5 - 1 by omega]; first | exact aSt_rp2 hv (by omega) (by omega) (by rw [jup_zz, show v5 - 2 = v5 - 1 by omega, jup_self, show v5 - 1 = v5 by omega]) (fun j j0 j1 => by first | (rw [jup_zz, jup_at, if_neg (by omega)]; done) | rfl) | exact aSt_rp1 hv (by omega) (by omega) (by rw [jup_zz, show v5 - 2 = v5 - 1 by omega, jup_self, show v5 - 1 = v5 by omega]) (fun j j0 j1 => by first | (rw [jup_zz, jup_at, if_neg (by omega)]; done) | rfl)) | (rw [show v5 = v5 + 1 by omega]; exact aSt_rp4 hv (by omega) (by omega) (by rw [jup_zz, jup_self]; exact er_207) (fun j j0 j1 => by first | (rw [jup_zz, jup_at, if_neg (by omega)]; done) | rfl)), by intro c hc; first | exact hk c hc | (rw [jup_zz, jup_cell hc]; exact hk c hc)⟩ (by omega)
                          · skip
                            refine j_iload 5 dX0_binding_213 rfl ?_
                            refine j_aload_n 0 dX0_binding_215 rfl rfl ?_
                            refine j_getr f_X0_39 (ra_11 hf) dX0_binding_216 ?_
                            refine j_alen (n' := 64) (aa_10 hf) (by decide) dX0_binding_219 rfl ?_
                            refine j_icmp_ge (tgt := 248) dX0_binding_220 (by decide) (fun c220_220 => ?_) (fun c220_220 => ?_)
                            · skip
                              obtain ⟨v6_221, ev6_221⟩ : ∃ y : Int, y = v6 + 1 := ⟨_, rfl⟩
                              refine j_iinc (y := v6_221) (ls' := [(0, jR f), (1, jI r0), (2, jI h), (3, jI m), (4, jI d), (5, jI v5), (6, jI v6_221), (7, jI v7_132)]) 6 dX0_binding_248 rfl ev6_221 (by omega) (by decide) rfl ?_
                              refine j_goto (tgt := 57) dX0_binding_251 (by decide) ?_
                              refine j_sub (ls' := [(0, jR f), (1, jI r0), (2, jI h), (3, jI m), (4, jI d), (5, jI v5), (6, jI v6_221)]) [0, 1, 2, 3, 4, 5, 6] rfl ?_
                              exact ih57 v5 v6_221 N57 ⟨by omega, by rw [ev6_221, hpre]; first | (exfalso; omega; done) | exact aSt_rp0 hv (by omega) (by omega) (by omega) (by omega) | exact aSt_rp3 hv (by omega) (by omega) (by rw [jup_zz, jup_self]) (fun j j0 j1 => by first | (rw [jup_zz, jup_at, if_neg (by omega)]; done) | rfl) | (rw [show v5 = v5 - 1 by omega]; first | exact aSt_rp2 hv (by omega) (by omega) (by rw [jup_zz, show v5 - 2 = v5 - 1 by omega, jup_self, show v5 - 1 = v5 by omega]) (fun j j0 j1 => by first | (rw [jup_zz, jup_at, if_neg (by omega)]; done) | rfl) | exact aSt_rp1 hv (by omega) (by omega) (by rw [jup_zz, show v5 - 2 = v5 - 1 by omega, jup_self, show v5 - 1 = v5 by omega]) (fun j j0 j1 => by first | (rw [jup_zz, jup_at, if_neg (by omega)]; done) | rfl)) | (rw [show v5 = v5 + 1 by omega]; exact aSt_rp4 hv (by omega) (by omega) (by rw [jup_zz, jup_self]; exact er_207) (fun j j0 j1 => by first | (rw [jup_zz, jup_at, if_neg (by omega)]; done) | rfl)), by intro c hc; first | exact hk c hc | (rw [jup_zz, jup_cell hc]; exact hk c hc)⟩ (by omega)
                            · skip
                              refine j_aload_n 0 dX0_binding_223 rfl rfl ?_
                              refine j_getr f_X0_39 (ra_11 hf) dX0_binding_224 ?_
                              refine j_iload 5 dX0_binding_227 rfl ?_
                              refine j_aload_n 0 dX0_binding_229 rfl rfl ?_
                              refine j_aload_n 0 dX0_binding_230 rfl rfl ?_
                              refine j_getr f_X0_36 (ra_10 hf) dX0_binding_231 ?_
                              refine j_iload 6 dX0_binding_234 rfl ?_
                              refine j_iald (aa_9 hf) dX0_binding_236 (by omega) (by omega) ?_
                              refine j_eq (congrFun (hk (f + 9) (by omega)) v6) ?_
                              refine j_iload_n 2 dX0_binding_237 rfl rfl ?_
                              refine j_iload_n 3 dX0_binding_238 rfl rfl ?_
                              refine j_iload 4 dX0_binding_239 rfl ?_
                              refine j_callVi l_X0_69 ⟨Nat.le_of_ble_eq_true rfl, Nat.le_of_ble_eq_true rfl⟩ ⟨rfl, rfl⟩ dX0_binding_241 (oba hf) (c_X0_test N57 f hf ((M (f + 9) v6)) h m d (by rw [(hk 12 (by omega))]; exact h_cfrom) (by rw [(hk 13 (by omega))]; exact h_cto) (by rw [(hk 10 (by omega))]; exact h_ckind) (by rw [(hk 2 (by omega))]; exact h_ctrade) (by rw [(hk 11 (by omega))]; exact h_cpapers) (by first | assumption | omega) (by first | assumption | omega) (by first | assumption | omega) (by first | assumption | omega)) rfl rfl (Nat.le_of_ble_eq_true rfl) (fun r_222 M_223 h_224 => ?_)
                              obtain ⟨er_222, nh_224⟩ := h_224
                              refine j_eqM nh_224 ?_
                              clear nh_224
                              simp only [(hk 12 (by omega)), (hk 13 (by omega)), (hk 10 (by omega)), (hk 2 (by omega)), (hk 11 (by omega))] at er_222
                              refine j_iast (aa_10 hf) dX0_binding_244 (by omega) (by omega) ?_
                              refine j_nmM (fun M_225 eM_225 => ?_)
                              obtain ⟨v5_226, ev5_226⟩ : ∃ y : Int, y = v5 + 1 := ⟨_, rfl⟩
                              refine j_iinc (y := v5_226) (ls' := [(0, jR f), (1, jI r0), (2, jI h), (3, jI m), (4, jI d), (5, jI v5_226), (6, jI v6), (7, jI v7_132)]) 5 dX0_binding_245 rfl ev5_226 (by omega) (by decide) rfl ?_
                              obtain ⟨v6_227, ev6_227⟩ : ∃ y : Int, y = v6 + 1 := ⟨_, rfl⟩
                              refine j_iinc (y := v6_227) (ls' := [(0, jR f), (1, jI r0), (2, jI h), (3, jI m), (4, jI d), (5, jI v5_226), (6, jI v6_227), (7, jI v7_132)]) 6 dX0_binding_248 rfl ev6_227 (by omega) (by decide) rfl ?_
                              refine j_goto (tgt := 57) dX0_binding_251 (by decide) ?_
                              refine j_sub (ls' := [(0, jR f), (1, jI r0), (2, jI h), (3, jI m), (4, jI d), (5, jI v5_226), (6, jI v6_227)]) [0, 1, 2, 3, 4, 5, 6] rfl ?_
                              exact ih57 v5_226 v6_227 M_225 ⟨by omega, by rw [ev6_227, hpre]; first | (exfalso; omega; done) | exact aSt_rp0 hv (by omega) (by omega) (by omega) (by omega) | exact aSt_rp3 hv (by omega) (by omega) (by rw [eM_225, jup_self]) (fun j j0 j1 => by first | (rw [eM_225, jup_at, if_neg (by omega)]; done) | rfl) | (rw [show v5_226 = v5 - 1 by omega]; first | exact aSt_rp2 hv (by omega) (by omega) (by rw [eM_225, show v5 - 2 = v5_226 - 1 by omega, jup_self, show v5 - 1 = v5_226 by omega]) (fun j j0 j1 => by first | (rw [eM_225, jup_at, if_neg (by omega)]; done) | rfl) | exact aSt_rp1 hv (by omega) (by omega) (by rw [eM_225, show v5 - 2 = v5_226 - 1 by omega, jup_self, show v5 - 1 = v5_226 by omega]) (fun j j0 j1 => by first | (rw [eM_225, jup_at, if_neg (by omega)]; done) | rfl)) | (rw [show v5_226 = v5 + 1 by omega]; exact aSt_rp4 hv (by omega) (by omega) (by rw [eM_225, jup_self]; exact er_222) (fun j j0 j1 => by first | (rw [eM_225, jup_at, if_neg (by omega)]; done) | rfl)), by intro c hc; first | exact hk c hc | (rw [eM_225, jup_cell hc]; exact hk c hc)⟩ (by omega)
                        · skip
                          refine j_iload 5 dX0_binding_167 rfl ?_
                          refine j_iconst dX0_binding_169 (by decide) ?_
                          refine j_icmp_le (tgt := 207) dX0_binding_170 (by decide) (fun c170_228 => ?_) (fun c170_228 => ?_)
                          · skip
                            refine j_iload 7 dX0_binding_207 rfl ?_
                            refine j_iconst dX0_binding_209 (by decide) ?_
                            refine j_icmp_le (tgt := 248) dX0_binding_210 (by decide) (fun c210_229 => ?_) (fun c210_229 => ?_)
                            · skip
                              obtain ⟨v6_230, ev6_230⟩ : ∃ y : Int, y = v6 + 1 := ⟨_, rfl⟩
                              refine j_iinc (y := v6_230) (ls' := [(0, jR f), (1, jI r0), (2, jI h), (3, jI m), (4, jI d), (5, jI v5), (6, jI v6_230), (7, jI v7_132)]) 6 dX0_binding_248 rfl ev6_230 (by omega) (by decide) rfl ?_
                              refine j_goto (tgt := 57) dX0_binding_251 (by decide) ?_
                              refine j_sub (ls' := [(0, jR f), (1, jI r0), (2, jI h), (3, jI m), (4, jI d), (5, jI v5), (6, jI v6_230)]) [0, 1, 2, 3, 4, 5, 6] rfl ?_
                              exact ih57 v5 v6_230 N57 ⟨by omega, by rw [ev6_230, hpre]; first | (exfalso; omega; done) | exact aSt_rp0 hv (by omega) (by omega) (by omega) (by omega) | exact aSt_rp3 hv (by omega) (by omega) (by rw [jup_zz, jup_self]) (fun j j0 j1 => by first | (rw [jup_zz, jup_at, if_neg (by omega)]; done) | rfl) | (rw [show v5 = v5 - 1 by omega]; first | exact aSt_rp2 hv (by omega) (by omega) (by rw [jup_zz, show v5 - 2 = v5 - 1 by omega, jup_self, show v5 - 1 = v5 by omega]) (fun j j0 j1 => by first | (rw [jup_zz, jup_at, if_neg (by omega)]; done) | rfl) | exact aSt_rp1 hv (by omega) (by omega) (by rw [jup_zz, show v5 - 2 = v5 - 1 by omega, jup_self, show v5 - 1 = v5 by omega]) (fun j j0 j1 => by first | (rw [jup_zz, jup_at, if_neg (by omega)]; done) | rfl)) | (rw [show v5 = v5 + 1 by omega]; exact aSt_rp4 hv (by omega) (by omega) (by rw [jup_zz, jup_self]; exact er_222) (fun j j0 j1 => by first | (rw [jup_zz, jup_at, if_neg (by omega)]; done) | rfl)), by intro c hc; first | exact hk c hc | (rw [jup_zz, jup_cell hc]; exact hk c hc)⟩ (by omega)
                            · skip
                              refine j_iload 5 dX0_binding_213 rfl ?_
                              refine j_aload_n 0 dX0_binding_215 rfl rfl ?_
                              refine j_getr f_X0_39 (ra_11 hf) dX0_binding_216 ?_
                              refine j_alen (n' := 64) (aa_10 hf) (by decide) dX0_binding_219 rfl ?_
                              refine j_icmp_ge (tgt := 248) dX0_binding_220 (by decide) (fun c220_231 => ?_) (fun c220_231 => ?_)
                              · skip
                                obtain ⟨v6_232, ev6_232⟩ : ∃ y : Int, y = v6 + 1 := ⟨_, rfl⟩
                                refine j_iinc (y := v6_232) (ls' := [(0, jR f), (1, jI r0), (2, jI h), (3, jI m), (4, jI d), (5, jI v5), (6, jI v6_232), (7, jI v7_132)]) 6 dX0_binding_248 rfl ev6_232 (by omega) (by decide) rfl ?_
                                refine j_goto (tgt := 57) dX0_binding_251 (by decide) ?_
                                refine j_sub (ls' := [(0, jR f), (1, jI r0), (2, jI h), (3, jI m), (4, jI d), (5, jI v5), (6, jI v6_232)]) [0, 1, 2, 3, 4, 5, 6] rfl ?_
                                exact ih57 v5 v6_232 N57 ⟨by omega, by rw [ev6_232, hpre]; first | (exfalso; omega; done) | exact aSt_rp0 hv (by omega) (by omega) (by omega) (by omega) | exact aSt_rp3 hv (by omega) (by omega) (by rw [jup_zz, jup_self]) (fun j j0 j1 => by first | (rw [jup_zz, jup_at, if_neg (by omega)]; done) | rfl) | (rw [show v5 = v5 - 1 by omega]; first | exact aSt_rp2 hv (by omega) (by omega) (by rw [jup_zz, show v5 - 2 = v5 - 1 by omega, jup_self, show v5 - 1 = v5 by omega]) (fun j j0 j1 => by first | (rw [jup_zz, jup_at, if_neg (by omega)]; done) | rfl) | exact aSt_rp1 hv (by omega) (by omega) (by rw [jup_zz, show v5 - 2 = v5 - 1 by omega, jup_self, show v5 - 1 = v5 by omega]) (fun j j0 j1 => by first | (rw [jup_zz, jup_at, if_neg (by omega)]; done) | rfl)) | (rw [show v5 = v5 + 1 by omega]; exact aSt_rp4 hv (by omega) (by omega) (by rw [jup_zz, jup_self]; exact er_222) (fun j j0 j1 => by first | (rw [jup_zz, jup_at, if_neg (by omega)]; done) | rfl)), by intro c hc; first | exact hk c hc | (rw [jup_zz, jup_cell hc]; exact hk c hc)⟩ (by omega)
                              · skip
                                refine j_aload_n 0 dX0_binding_223 rfl rfl ?_
                                refine j_getr f_X0_39 (ra_11 hf) dX0_binding_224 ?_
                                refine j_iload 5 dX0_binding_227 rfl ?_
                                refine j_aload_n 0 dX0_binding_229 rfl rfl ?_
                                refine j_aload_n 0 dX0_binding_230 rfl rfl ?_
                                refine j_getr f_X0_36 (ra_10 hf) dX0_binding_231 ?_
                                refine j_iload 6 dX0_binding_234 rfl ?_
                                refine j_iald (aa_9 hf) dX0_binding_236 (by omega) (by omega) ?_
                                refine j_eq (congrFun (hk (f + 9) (by omega)) v6) ?_
                                refine j_iload_n 2 dX0_binding_237 rfl rfl ?_
                                refine j_iload_n 3 dX0_binding_238 rfl rfl ?_
                                refine j_iload 4 dX0_binding_239 rfl ?_
                                refine j_callVi l_X0_69 ⟨Nat.le_of_ble_eq_true rfl, Nat.le_of_ble_eq_true rfl⟩ ⟨rfl, rfl⟩ dX0_binding_241 (oba hf) (c_X0_test N57 f hf ((M (f + 9) v6)) h m d (by rw [(hk 12 (by omega))]; exact h_cfrom) (by rw [(hk 13 (by omega))]; exact h_cto) (by rw [(hk 10 (by omega))]; exact h_ckind) (by rw [(hk 2 (by omega))]; exact h_ctrade) (by rw [(hk 11 (by omega))]; exact h_cpapers) (by first | assumption | omega) (by first | assumption | omega) (by first | assumption | omega) (by first | assumption | omega)) rfl rfl (Nat.le_of_ble_eq_true rfl) (fun r_233 M_234 h_235 => ?_)
                                obtain ⟨er_233, nh_235⟩ := h_235
                                refine j_eqM nh_235 ?_
                                clear nh_235
                                simp only [(hk 12 (by omega)), (hk 13 (by omega)), (hk 10 (by omega)), (hk 2 (by omega)), (hk 11 (by omega))] at er_233
                                refine j_iast (aa_10 hf) dX0_binding_244 (by omega) (by omega) ?_
                                refine j_nmM (fun M_236 eM_236 => ?_)
                                obtain ⟨v5_237, ev5_237⟩ : ∃ y : Int, y = v5 + 1 := ⟨_, rfl⟩
                                refine j_iinc (y := v5_237) (ls' := [(0, jR f), (1, jI r0), (2, jI h), (3, jI m), (4, jI d), (5, jI v5_237), (6, jI v6), (7, jI v7_132)]) 5 dX0_binding_245 rfl ev5_237 (by omega) (by decide) rfl ?_
                                obtain ⟨v6_238, ev6_238⟩ : ∃ y : Int, y = v6 + 1 := ⟨_, rfl⟩
                                refine j_iinc (y := v6_238) (ls' := [(0, jR f), (1, jI r0), (2, jI h), (3, jI m), (4, jI d), (5, jI v5_237), (6, jI v6_238), (7, jI v7_132)]) 6 dX0_binding_248 rfl ev6_238 (by omega) (by decide) rfl ?_
                                refine j_goto (tgt := 57) dX0_binding_251 (by decide) ?_
                                refine j_sub (ls' := [(0, jR f), (1, jI r0), (2, jI h), (3, jI m), (4, jI d), (5, jI v5_237), (6, jI v6_238)]) [0, 1, 2, 3, 4, 5, 6] rfl ?_
                                exact ih57 v5_237 v6_238 M_236 ⟨by omega, by rw [ev6_238, hpre]; first | (exfalso; omega; done) | exact aSt_rp0 hv (by omega) (by omega) (by omega) (by omega) | exact aSt_rp3 hv (by omega) (by omega) (by rw [eM_236, jup_self]) (fun j j0 j1 => by first | (rw [eM_236, jup_at, if_neg (by omega)]; done) | rfl) | (rw [show v5_237 = v5 - 1 by omega]; first | exact aSt_rp2 hv (by omega) (by omega) (by rw [eM_236, show v5 - 2 = v5_237 - 1 by omega, jup_self, show v5 - 1 = v5_237 by omega]) (fun j j0 j1 => by first | (rw [eM_236, jup_at, if_neg (by omega)]; done) | rfl) | exact aSt_rp1 hv (by omega) (by omega) (by rw [eM_236, show v5 - 2 = v5_237 - 1 by omega, jup_self, show v5 - 1 = v5_237 by omega]) (fun j j0 j1 => by first | (rw [eM_236, jup_at, if_neg (by omega)]; done) | rfl)) | (rw [show v5_237 = v5 + 1 by omega]; exact aSt_rp4 hv (by omega) (by omega) (by rw [eM_236, jup_self]; exact er_233) (fun j j0 j1 => by first | (rw [eM_236, jup_at, if_neg (by omega)]; done) | rfl)), by intro c hc; first | exact hk c hc | (rw [eM_236, jup_cell hc]; exact hk c hc)⟩ (by omega)
                          · skip
                            obtain ⟨v5_239, ev5_239⟩ : ∃ y : Int, y = v5 + (-1) := ⟨_, rfl⟩
                            refine j_iinc (y := v5_239) (ls' := [(0, jR f), (1, jI r0), (2, jI h), (3, jI m), (4, jI d), (5, jI v5_239), (6, jI v6), (7, jI v7_132)]) 5 dX0_binding_173 rfl ev5_239 (by omega) (by decide) rfl ?_
                            refine j_aload_n 0 dX0_binding_176 rfl rfl ?_
                            refine j_getr f_X0_39 (ra_11 hf) dX0_binding_177 ?_
                            refine j_iload 5 dX0_binding_180 rfl ?_
                            refine j_iconst dX0_binding_182 (by decide) ?_
                            refine j_isub dX0_binding_183 (by omega) ?_
                            refine j_aload_n 0 dX0_binding_184 rfl rfl ?_
                            refine j_getr f_X0_39 (ra_11 hf) dX0_binding_185 ?_
                            refine j_iload 5 dX0_binding_188 rfl ?_
                            refine j_iconst dX0_binding_190 (by decide) ?_
                            refine j_isub dX0_binding_191 (by omega) ?_
                            refine j_iald (aa_10 hf) dX0_binding_192 (by omega) (by omega) ?_
                            refine j_aload_n 0 dX0_binding_193 rfl rfl ?_
                            refine j_getr f_X0_39 (ra_11 hf) dX0_binding_194 ?_
                            refine j_iload 5 dX0_binding_197 rfl ?_
                            refine j_iald (aa_10 hf) dX0_binding_199 (by omega) (by omega) ?_
                            refine j_mmax lm_X0_66 lm_max ⟨Nat.le_of_ble_eq_true rfl, Nat.le_of_ble_eq_true rfl⟩ ⟨Nat.le_of_ble_eq_true rfl, Nat.le_of_ble_eq_true rfl⟩ dX0_binding_200 ?_
                            refine j_iast (aa_10 hf) dX0_binding_203 (by omega) (by omega) ?_
                            refine j_nmM (fun M_240 eM_240 => ?_)
                            refine j_goto (tgt := 248) dX0_binding_204 (by decide) ?_
                            obtain ⟨v6_241, ev6_241⟩ : ∃ y : Int, y = v6 + 1 := ⟨_, rfl⟩
                            refine j_iinc (y := v6_241) (ls' := [(0, jR f), (1, jI r0), (2, jI h), (3, jI m), (4, jI d), (5, jI v5_239), (6, jI v6_241), (7, jI v7_132)]) 6 dX0_binding_248 rfl ev6_241 (by omega) (by decide) rfl ?_
                            refine j_goto (tgt := 57) dX0_binding_251 (by decide) ?_
                            refine j_sub (ls' := [(0, jR f), (1, jI r0), (2, jI h), (3, jI m), (4, jI d), (5, jI v5_239), (6, jI v6_241)]) [0, 1, 2, 3, 4, 5, 6] rfl ?_
                            exact ih57 v5_239 v6_241 M_240 ⟨by omega, by rw [ev6_241, hpre]; first | (exfalso; omega; done) | exact aSt_rp0 hv (by omega) (by omega) (by omega) (by omega) | exact aSt_rp3 hv (by omega) (by omega) (by rw [eM_240, jup_self]) (fun j j0 j1 => by first | (rw [eM_240, jup_at, if_neg (by omega)]; done) | rfl) | (rw [show v5_239 = v5 - 1 by omega]; first | exact aSt_rp2 hv (by omega) (by omega) (by rw [eM_240, show v5 - 2 = v5_239 - 1 by omega, jup_self, show v5 - 1 = v5_239 by omega]) (fun j j0 j1 => by first | (rw [eM_240, jup_at, if_neg (by omega)]; done) | rfl) | exact aSt_rp1 hv (by omega) (by omega) (by rw [eM_240, show v5 - 2 = v5_239 - 1 by omega, jup_self, show v5 - 1 = v5_239 by omega]) (fun j j0 j1 => by first | (rw [eM_240, jup_at, if_neg (by omega)]; done) | rfl)) | (rw [show v5_239 = v5 + 1 by omega]; exact aSt_rp4 hv (by omega) (by omega) (by rw [eM_240, jup_self]; exact er_233) (fun j j0 j1 => by first | (rw [eM_240, jup_at, if_neg (by omega)]; done) | rfl)), by intro c hc; first | exact hk c hc | (rw [eM_240, jup_cell hc]; exact hk c hc)⟩ (by omega)
                      · skip
                        obtain ⟨v5_242, ev5_242⟩ : ∃ y : Int, y = v5 + (-1) := ⟨_, rfl⟩
                        refine j_iinc (y := v5_242) (ls' := [(0, jR f), (1, jI r0), (2, jI h), (3, jI m), (4, jI d), (5, jI v5_242), (6, jI v6), (7, jI v7_132)]) 5 dX0_binding_127 rfl ev5_242 (by omega) (by decide) rfl ?_
                        refine j_aload_n 0 dX0_binding_130 rfl rfl ?_
                        refine j_getr f_X0_39 (ra_11 hf) dX0_binding_131 ?_
                        refine j_iload 5 dX0_binding_134 rfl ?_
                        refine j_iconst dX0_binding_136 (by decide) ?_
                        refine j_isub dX0_binding_137 (by omega) ?_
                        refine j_aload_n 0 dX0_binding_138 rfl rfl ?_
                        refine j_getr f_X0_39 (ra_11 hf) dX0_binding_139 ?_
                        refine j_iload 5 dX0_binding_142 rfl ?_
                        refine j_iconst dX0_binding_144 (by decide) ?_
                        refine j_isub dX0_binding_145 (by omega) ?_
                        refine j_iald (aa_10 hf) dX0_binding_146 (by omega) (by omega) ?_
                        refine j_aload_n 0 dX0_binding_147 rfl rfl ?_
                        refine j_getr f_X0_39 (ra_11 hf) dX0_binding_148 ?_
                        refine j_iload 5 dX0_binding_151 rfl ?_
                        refine j_iald (aa_10 hf) dX0_binding_153 (by omega) (by omega) ?_
                        refine j_mmin lm_X0_60 lm_min ⟨Nat.le_of_ble_eq_true rfl, Nat.le_of_ble_eq_true rfl⟩ ⟨Nat.le_of_ble_eq_true rfl, Nat.le_of_ble_eq_true rfl⟩ dX0_binding_154 ?_
                        refine j_iast (aa_10 hf) dX0_binding_157 (by omega) (by omega) ?_
                        refine j_nmM (fun M_243 eM_243 => ?_)
                        refine j_goto (tgt := 248) dX0_binding_158 (by decide) ?_
                        obtain ⟨v6_244, ev6_244⟩ : ∃ y : Int, y = v6 + 1 := ⟨_, rfl⟩
                        refine j_iinc (y := v6_244) (ls' := [(0, jR f), (1, jI r0), (2, jI h), (3, jI m), (4, jI d), (5, jI v5_242), (6, jI v6_244), (7, jI v7_132)]) 6 dX0_binding_248 rfl ev6_244 (by omega) (by decide) rfl ?_
                        refine j_goto (tgt := 57) dX0_binding_251 (by decide) ?_
                        refine j_sub (ls' := [(0, jR f), (1, jI r0), (2, jI h), (3, jI m), (4, jI d), (5, jI v5_242), (6, jI v6_244)]) [0, 1, 2, 3, 4, 5, 6] rfl ?_
                        exact ih57 v5_242 v6_244 M_243 ⟨by omega, by rw [ev6_244, hpre]; first | (exfalso; omega; done) | exact aSt_rp0 hv (by omega) (by omega) (by omega) (by omega) | exact aSt_rp3 hv (by omega) (by omega) (by rw [eM_243, jup_self]) (fun j j0 j1 => by first | (rw [eM_243, jup_at, if_neg (by omega)]; done) | rfl) | (rw [show v5_242 = v5 - 1 by omega]; first | exact aSt_rp2 hv (by omega) (by omega) (by rw [eM_243, show v5 - 2 = v5_242 - 1 by omega, jup_self, show v5 - 1 = v5_242 by omega]) (fun j j0 j1 => by first | (rw [eM_243, jup_at, if_neg (by omega)]; done) | rfl) | exact aSt_rp1 hv (by omega) (by omega) (by rw [eM_243, show v5 - 2 = v5_242 - 1 by omega, jup_self, show v5 - 1 = v5_242 by omega]) (fun j j0 j1 => by first | (rw [eM_243, jup_at, if_neg (by omega)]; done) | rfl)) | (rw [show v5_242 = v5 + 1 by omega]; exact aSt_rp4 hv (by omega) (by omega) (by rw [eM_243, jup_self]; exact er_233) (fun j j0 j1 => by first | (rw [eM_243, jup_at, if_neg (by omega)]; done) | rfl)), by intro c hc; first | exact hk c hc | (rw [eM_243, jup_cell hc]; exact hk c hc)⟩ (by omega)
                  · skip
                    refine j_aload_n 0 dX0_binding_92 rfl rfl ?_
                    refine j_getr f_X0_39 (ra_11 hf) dX0_binding_93 ?_
                    refine j_iload 5 dX0_binding_96 rfl ?_
                    refine j_iconst dX0_binding_98 (by decide) ?_
                    refine j_isub dX0_binding_99 (by omega) ?_
                    refine j_iconst dX0_binding_100 (by decide) ?_
                    have hy := hx (v5 - 1) (by omega) (by omega)
                    refine j_aload_n 0 dX0_binding_101 rfl rfl ?_
                    refine j_getr f_X0_39 (ra_11 hf) dX0_binding_102 ?_
                    refine j_iload 5 dX0_binding_105 rfl ?_
                    refine j_iconst dX0_binding_107 (by decide) ?_
                    refine j_isub dX0_binding_108 (by omega) ?_
                    refine j_iald (aa_10 hf) dX0_binding_109 (by omega) (by omega) ?_
                    refine j_isub dX0_binding_110 (by omega) ?_
                    refine j_iast (aa_10 hf) dX0_binding_111 (by omega) (by omega) ?_
                    refine j_nmM (fun M_245 eM_245 => ?_)
                    refine j_goto (tgt := 248) dX0_binding_112 (by decide) ?_
                    obtain ⟨v6_246, ev6_246⟩ : ∃ y : Int, y = v6 + 1 := ⟨_, rfl⟩
                    refine j_iinc (y := v6_246) (ls' := [(0, jR f), (1, jI r0), (2, jI h), (3, jI m), (4, jI d), (5, jI v5), (6, jI v6_246), (7, jI v7_132)]) 6 dX0_binding_248 rfl ev6_246 (by omega) (by decide) rfl ?_
                    refine j_goto (tgt := 57) dX0_binding_251 (by decide) ?_
                    refine j_sub (ls' := [(0, jR f), (1, jI r0), (2, jI h), (3, jI m), (4, jI d), (5, jI v5), (6, jI v6_246)]) [0, 1, 2, 3, 4, 5, 6] rfl ?_
                    exact ih57 v5 v6_246 M_245 ⟨by omega, by rw [ev6_246, hpre]; first | (exfalso; omega; done) | exact aSt_rp0 hv (by omega) (by omega) (by omega) (by omega) | exact aSt_rp3 hv (by omega) (by omega) (by rw [eM_245, jup_self]) (fun j j0 j1 => by first | (rw [eM_245, jup_at, if_neg (by omega)]; done) | rfl) | (rw [show v5 = v5 - 1 by omega]; first | exact aSt_rp2 hv (by omega) (by omega) (by rw [eM_245, show v5 - 2 = v5 - 1 by omega, jup_self, show v5 - 1 = v5 by omega]) (fun j j0 j1 => by first | (rw [eM_245, jup_at, if_neg (by omega)]; done) | rfl) | exact aSt_rp1 hv (by omega) (by omega) (by rw [eM_245, show v5 - 2 = v5 - 1 by omega, jup_self, show v5 - 1 = v5 by omega]) (fun j j0 j1 => by first | (rw [eM_245, jup_at, if_neg (by omega)]; done) | rfl)) | (rw [show v5 = v5 + 1 by omega]; exact aSt_rp4 hv (by omega) (by omega) (by rw [eM_245, jup_self]; exact er_233) (fun j j0 j1 => by first | (rw [eM_245, jup_at, if_neg (by omega)]; done) | rfl)), by intro c hc; first | exact hk c hc | (rw [eM_245, jup_cell hc]; exact hk c hc)⟩ (by omega)
          exact lp57_127 _ 0 v6_126 M ⟨by omega, by rw [show (v6_126 - M (f + 7) r0).toNat = 0 by omega]; rfl, by intro c _; rfl⟩ (Nat.lt_succ_self _)
        · skip
          refine j_iconst dX0_binding_44 (by decide) ?_
          refine j_iret rfl rfl rfl rfl dX0_binding_45 ?_
          exact ⟨by rw [if_pos (by omega)], fun c _ => rfl⟩
