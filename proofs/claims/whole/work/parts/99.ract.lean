abbrev q_X9_act (M : jM) (b : Int → Int)  : Int → jM → Prop := fun r N => raP b M N r
set_option maxHeartbeats 4000000 in
set_option maxRecDepth 20000 in
theorem c_X9_act {X : jX} (M : jM) (b : Int → Int)  (h_rtyped : 0 ≤ M 74 14 ∧ M 74 14 ≤ 900) (h_rtext : ∀ i, 0 ≤ M 84 i ∧ M 84 i ≤ 255) (h_rwords : ∀ k, 0 ≤ k → k < 16 → M 75 k = wVal k) (hb : rTx M = b) : jC yX9_act D_X9_act X FJ shJ [jR 74] M (jqI (q_X9_act M b)) := by
  refine jC_of (by decide) rfl (fun ad => Nat.le_of_ble_eq_true rfl) (by decide) ?_
  show jG D_X9_act X FJ shJ 0 0 (jqI (q_X9_act M b)) 0 [(0, jR 74)] [] M
  have hbk : bOk b (M 74 14) := by rw [← hb]; exact rTx_ok h_rtyped h_rtext
  have hiv := iv_txt hbk
  unfold bIv at hiv
  refine j_aload_n 0 dX9_act_0 rfl rfl ?_
  refine j_iconst dX9_act_1 (by decide) ?_
  refine j_puti (k' := 0) f_X9_124 o_74_0 dX9_act_2 rfl ?_
  refine j_nmM (fun M_1 eM_1 => ?_)
  refine j_aload_n 0 dX9_act_5 rfl rfl ?_
  refine j_iconst dX9_act_6 (by decide) ?_
  refine j_puti (k' := 19) f_X9_200 o_74_19 dX9_act_7 rfl ?_
  refine j_nmM (fun M_2 eM_2 => ?_)
  refine j_aload_n 0 dX9_act_10 rfl rfl ?_
  refine j_iconst dX9_act_11 (by decide) ?_
  refine j_puti (k' := 15) f_X9_181 o_74_15 dX9_act_12 rfl ?_
  refine j_nmM (fun M_3 eM_3 => ?_)
  refine j_aload_n 0 dX9_act_15 rfl rfl ?_
  refine j_iconst dX9_act_16 (by decide) ?_
  refine j_puti (k' := 21) f_X9_219 o_74_21 dX9_act_17 rfl ?_
  refine j_nmM (fun M_4 eM_4 => ?_)
  refine j_aload_n 0 dX9_act_20 rfl rfl ?_
  refine j_iconst dX9_act_21 (by decide) ?_
  refine j_puti (k' := 24) f_X9_222 o_74_24 dX9_act_22 rfl ?_
  refine j_nmM (fun M_5 eM_5 => ?_)
  have zE : M_5 = jup (jup (jup (jup (jup M 74 0 0) 74 19 (-1)) 74 15 0) 74 21 0) 74 24 0 := by rw [eM_5, eM_4, eM_3, eM_2, eM_1]
  have zx : rTx M_5 = b := by rw [← hb]; exact rTx_cg (by rw [zE, jup_ne (by decide), jup_ne (by decide), jup_ne (by decide), jup_ne (by decide), jup_ne (by decide)]) (by rw [zE, jup_cell (by decide), jup_cell (by decide), jup_cell (by decide), jup_cell (by decide), jup_cell (by decide)])
  have z14 : M_5 74 14 = M 74 14 := by rw [zE, jup_ne (by decide), jup_ne (by decide), jup_ne (by decide), jup_ne (by decide), jup_ne (by decide)]
  have z15 : M_5 74 15 = 0 := by rw [zE, jup_ne (by decide), jup_ne (by decide), jup_self]
  have zp : 0 ≤ M_5 74 15 ∧ M_5 74 15 ≤ M_5 74 14 := by omega
  refine j_aload_n 0 dX9_act_25 rfl rfl ?_
  refine j_callVv l_X9_210 ⟨Nat.le_of_ble_eq_true rfl, Nat.le_of_ble_eq_true rfl⟩ ⟨rfl, rfl⟩ dX9_act_26 ob_74 (c_X9_advances M_5 b (by rw [(Eq.trans ((congrFun (congrFun eM_5 74) 14).trans (jup_ne (by decide))) (Eq.trans ((congrFun (congrFun eM_4 74) 14).trans (jup_ne (by decide))) (Eq.trans ((congrFun (congrFun eM_3 74) 14).trans (jup_ne (by decide))) (Eq.trans ((congrFun (congrFun eM_2 74) 14).trans (jup_ne (by decide))) ((congrFun (congrFun eM_1 74) 14).trans (jup_ne (by decide)))))))]; exact h_rtyped) (by rw [(Eq.trans ((congrFun eM_5 84).trans (jup_cell (by decide))) (Eq.trans ((congrFun eM_4 84).trans (jup_cell (by decide))) (Eq.trans ((congrFun eM_3 84).trans (jup_cell (by decide))) (Eq.trans ((congrFun eM_2 84).trans (jup_cell (by decide))) ((congrFun eM_1 84).trans (jup_cell (by decide)))))))]; exact h_rtext) (by rw [(Eq.trans ((congrFun eM_5 75).trans (jup_cell (by decide))) (Eq.trans ((congrFun eM_4 75).trans (jup_cell (by decide))) (Eq.trans ((congrFun eM_3 75).trans (jup_cell (by decide))) (Eq.trans ((congrFun eM_2 75).trans (jup_cell (by decide))) ((congrFun eM_1 75).trans (jup_cell (by decide)))))))]; exact h_rwords) zx zp) rfl rfl (Nat.le_of_ble_eq_true rfl) (fun M_7 h_8 => ?_)
  have adh_8 := h_8
  unfold q_X9_advances at adh_8
  have frh_8 := adh_8.2.2.1
  have lp29_9 : ∀ n29 : Nat, ∀ N29 : jM, (raI b M N29 (pTxt b)) → (raM N29).toNat < n29 → jG D_X9_act X FJ shJ 0 0 (jqI (q_X9_act M b)) 29 [(0, jR 74)] ([]) N29 := by
    intro n29
    induction n29 with
    | zero => intro  N29 _ hz; exact absurd hz (Nat.not_lt_zero _)
    | succ n29 ih29 =>
      intro  N29 hinv hm
      have hI := hinv
      obtain ⟨A, hA, hp, hR, h4, hc, h5, h6⟩ := hI
      have wz := rP_19 hp
      have hw := hA.2
      refine j_aload_n 0 dX9_act_29 rfl rfl ?_
      have ct80_10 : (A.1 < 0 ∨ lK b A.1 = 0) → jG D_X9_act X FJ shJ 0 0 (jqI (q_X9_act M b)) 80 [(0, jR 74)] ([]) N29 := by
        intro   hinv
        have hz := hinv
        have eZ := pAt_end hA hz
        refine j_aload_n 0 dX9_act_80 rfl rfl ?_
        refine j_callVi l_X9_203 ⟨Nat.le_of_ble_eq_true rfl, Nat.le_of_ble_eq_true rfl⟩ ⟨rfl, rfl⟩ dX9_act_81 ob_74 (c_X9_isWell N29) rfl rfl (Nat.le_of_ble_eq_true rfl) (fun r_11 M_12 h_13 => ?_)
        obtain ⟨er_11, nh_13⟩ := h_13
        refine j_eqM nh_13 ?_
        clear nh_13
        refine j_if_ne (tgt := 95) dX9_act_84 (by decide) (fun c84_14 => ?_) (fun c84_14 => ?_)
        · skip
          have h0 : 0 ≤ A.1 := by omega
          have hs : A.1 ≤ M 74 14 := by rcases hw with z | z; (· omega); (· exact z.1)
          have hn : 0 ≤ A.2.1 ∧ A.2.1 ≤ 16 := by rcases hw with z | z; (· omega); (· exact z.2.1)
          refine j_iconst dX9_act_95 (by decide) ?_
          refine j_istore_n (ls' := [(0, jR 74), (1, jI 0)]) dX9_act_96 rfl (by decide) rfl ?_
          have lp97_15 : ∀ n97 : Nat, ∀ (v1 : Int), ∀ N97 : jM, (0 ≤ v1 ∧ v1 ≤ 320) ∧ (∀ c, c ≠ 85 → N97 c = N29 c) ∧ (∀ j, N97 85 j = if 0 ≤ j ∧ j < v1 then N29 85 (320 + j) else N29 85 j) → (320 - v1).toNat < n97 → jG D_X9_act X FJ shJ 0 0 (jqI (q_X9_act M b)) 97 [(0, jR 74), (1, jI v1)] ([]) N97 := by
            intro n97
            induction n97 with
            | zero => intro v1 N97 _ hz; exact absurd hz (Nat.not_lt_zero _)
            | succ n97 ih97 =>
              intro v1 N97 hinv hm
              obtain ⟨h1, hl1, hl2⟩ := hinv
              refine j_iload_n 1 dX9_act_97 rfl rfl ?_
              refine j_sipush dX9_act_98 (by decide) ?_
              refine j_icmp_ge (tgt := 126) dX9_act_101 (by decide) (fun c101_16 => ?_) (fun c101_16 => ?_)
              · skip
                refine j_iconst dX9_act_126 (by decide) ?_
                refine j_istore_n (ls' := [(0, jR 74), (1, jI 0)]) dX9_act_127 rfl (by decide) rfl ?_
                have lp128_17 : ∀ n128 : Nat, ∀ (u1 : Int), ∀ N128 : jM, (0 ≤ u1 ∧ u1 ≤ 2000) ∧ (∀ c, c ≠ 86 → N128 c = N97 c) ∧ (∀ j, N128 86 j = if 0 ≤ j ∧ j < u1 then N97 86 (2000 + j) else N97 86 j) → (2000 - u1).toNat < n128 → jG D_X9_act X FJ shJ 0 0 (jqI (q_X9_act M b)) 128 [(0, jR 74), (1, jI u1)] ([]) N128 := by
                  intro n128
                  induction n128 with
                  | zero => intro u1 N128 _ hz; exact absurd hz (Nat.not_lt_zero _)
                  | succ n128 ih128 =>
                    intro u1 N128 hinv hm
                    obtain ⟨g1, hk1, hk2⟩ := hinv
                    refine j_iload_n 1 dX9_act_128 rfl rfl ?_
                    refine j_sipush dX9_act_129 (by decide) ?_
                    refine j_icmp_ge (tgt := 157) dX9_act_132 (by decide) (fun c132_18 => ?_) (fun c132_18 => ?_)
                    · skip
                      have e320 : v1 = 320 := by omega
                      have e2000 : u1 = 2000 := by omega
                      subst e320 e2000
                      refine j_aload_n 0 dX9_act_157 rfl rfl ?_
                      refine j_aload_n 0 dX9_act_158 rfl rfl ?_
                      refine j_geti (k' := 21) f_X9_219 o_74_21 dX9_act_159 rfl ?_
                      refine j_eq (Eq.trans (congrFun (hk1 74 (by decide)) 21) (congrFun (hl1 74 (by decide)) 21)) ?_
                      refine j_puti (k' := 20) f_X9_252 o_74_20 dX9_act_162 rfl ?_
                      refine j_nmM (fun M_19 eM_19 => ?_)
                      refine j_aload_n 0 dX9_act_165 rfl rfl ?_
                      refine j_iconst dX9_act_166 (by decide) ?_
                      refine j_puti (k' := 14) f_X9_176 o_74_14 dX9_act_167 rfl ?_
                      refine j_nmM (fun M_20 eM_20 => ?_)
                      refine j_aload_n 0 dX9_act_170 rfl rfl ?_
                      refine j_geti (k' := 20) f_X9_252 o_74_20 dX9_act_171 rfl ?_
                      refine j_eq (Eq.trans ((congrFun (congrFun eM_20 74) 20).trans (jup_ne (by decide))) ((congrFun (congrFun eM_19 74) 20).trans (jup_self _ _ _ _))) ?_
                      refine j_iret rfl rfl rfl rfl dX9_act_174 ?_
                      exact raP_ok eZ h0 ⟨hs, by omega⟩ hn.2 (hR h0) h4 hc hl1 hl2 hk1 hk2 (by rw [eM_20, eM_19])
                    · skip
                      refine j_aload_n 0 dX9_act_135 rfl rfl ?_
                      refine j_getr f_X9_44 r_74_23 dX9_act_136 ?_
                      refine j_iload_n 1 dX9_act_139 rfl rfl ?_
                      refine j_aload_n 0 dX9_act_140 rfl rfl ?_
                      refine j_getr f_X9_44 r_74_23 dX9_act_141 ?_
                      refine j_sipush dX9_act_144 (by decide) ?_
                      refine j_iload_n 1 dX9_act_147 rfl rfl ?_
                      refine j_iadd dX9_act_148 (by omega) ?_
                      refine j_iald a_86 dX9_act_149 (by omega) (by omega) ?_
                      refine j_iast a_86 dX9_act_150 (by omega) (by omega) ?_
                      refine j_nmM (fun M_21 eM_21 => ?_)
                      obtain ⟨v1_22, ev1_22⟩ : ∃ y : Int, y = u1 + 1 := ⟨_, rfl⟩
                      refine j_iinc (y := v1_22) (ls' := [(0, jR 74), (1, jI v1_22)]) 1 dX9_act_151 rfl ev1_22 (by omega) (by decide) rfl ?_
                      refine j_goto (tgt := 128) dX9_act_154 (by decide) ?_
                      exact ih128 v1_22 M_21 ⟨by omega, by intro c z; rw [eM_21, jup_cell z]; exact hk1 c z, by intro j; rw [eM_21, jup_at]; by_cases hj : j = u1; (· rw [if_pos hj, if_pos (by omega), hk2, if_neg (by omega), hj]); (· rw [if_neg hj, hk2 j]; by_cases hz_ : 0 ≤ j ∧ j < u1; (· rw [if_pos hz_, if_pos (by omega)]); (· rw [if_neg hz_, if_neg (by omega)]))⟩ (by omega)
                exact lp128_17 _ 0 N97 ⟨by omega, by intro c _; rfl, by intro j; rw [if_neg (by omega)]⟩ (Nat.lt_succ_self _)
              · skip
                refine j_aload_n 0 dX9_act_104 rfl rfl ?_
                refine j_getr f_X9_41 r_74_22 dX9_act_105 ?_
                refine j_iload_n 1 dX9_act_108 rfl rfl ?_
                refine j_aload_n 0 dX9_act_109 rfl rfl ?_
                refine j_getr f_X9_41 r_74_22 dX9_act_110 ?_
                refine j_sipush dX9_act_113 (by decide) ?_
                refine j_iload_n 1 dX9_act_116 rfl rfl ?_
                refine j_iadd dX9_act_117 (by omega) ?_
                refine j_iald a_85 dX9_act_118 (by omega) (by omega) ?_
                refine j_iast a_85 dX9_act_119 (by omega) (by omega) ?_
                refine j_nmM (fun M_23 eM_23 => ?_)
                obtain ⟨v1_24, ev1_24⟩ : ∃ y : Int, y = v1 + 1 := ⟨_, rfl⟩
                refine j_iinc (y := v1_24) (ls' := [(0, jR 74), (1, jI v1_24)]) 1 dX9_act_120 rfl ev1_24 (by omega) (by decide) rfl ?_
                refine j_goto (tgt := 97) dX9_act_123 (by decide) ?_
                exact ih97 v1_24 M_23 ⟨by omega, by intro c z; rw [eM_23, jup_cell z]; exact hl1 c z, by intro j; rw [eM_23, jup_at]; by_cases hj : j = v1; (· rw [if_pos hj, if_pos (by omega), hl2, if_neg (by omega), hj]); (· rw [if_neg hj, hl2 j]; by_cases hz_ : 0 ≤ j ∧ j < v1; (· rw [if_pos hz_, if_pos (by omega)]); (· rw [if_neg hz_, if_neg (by omega)]))⟩ (by omega)
          exact lp97_15 _ 0 N29 ⟨by omega, by intro c _; rfl, by intro j; rw [if_neg (by omega)]⟩ (Nat.lt_succ_self _)
        · skip
          have hng : A.1 < 0 := by omega
          have hil := rP_ill hp hng
          rw [eZ] at hiv
          refine j_bipush dX9_act_87 (by decide) ?_
          refine j_aload_n 0 dX9_act_89 rfl rfl ?_
          refine j_geti (k' := 19) f_X9_200 o_74_19 dX9_act_90 rfl ?_
          refine j_isub dX9_act_93 (by omega) ?_
          refine j_iret rfl rfl rfl rfl dX9_act_94 ?_
          exact raP_no eZ hng hp h4 hc h5 h6
      refine j_callVi l_X9_203 ⟨Nat.le_of_ble_eq_true rfl, Nat.le_of_ble_eq_true rfl⟩ ⟨rfl, rfl⟩ dX9_act_30 ob_74 (c_X9_isWell N29) rfl rfl (Nat.le_of_ble_eq_true rfl) (fun r_25 M_26 h_27 => ?_)
      obtain ⟨er_25, nh_27⟩ := h_27
      refine j_eqM nh_27 ?_
      clear nh_27
      refine j_if_eq (tgt := 80) dX9_act_33 (by decide) (fun c33_28 => ?_) (fun c33_28 => ?_)
      · skip
        exact ct80_10  (by first | exact Or.inl (by omega) | exact Or.inr (by omega))
      · skip
        have h0 : 0 ≤ A.1 := by omega
        have ww := (rP_well hp h0).2.2.1
        have hs : A.1 ≤ M 74 14 := by rcases hw with z | z; (· omega); (· exact z.1)
        have hn : 0 ≤ A.2.1 ∧ A.2.1 ≤ 16 := by rcases hw with z | z; (· omega); (· exact z.2.1)
        refine j_aload_n 0 dX9_act_36 rfl rfl ?_
        refine j_geti (k' := 16) f_X9_191 o_74_16 dX9_act_37 rfl ?_
        refine j_if_eq (tgt := 80) dX9_act_40 (by decide) (fun c40_29 => ?_) (fun c40_29 => ?_)
        · skip
          exact ct80_10  (by first | exact Or.inl (by omega) | exact Or.inr (by omega))
        · skip
          have hk : ¬ lK b A.1 = 0 := by omega
          refine j_aload_n 0 dX9_act_43 rfl rfl ?_
          refine j_iconst dX9_act_44 (by decide) ?_
          refine j_callVi l_X9_216 ⟨Nat.le_of_ble_eq_true rfl, Nat.le_of_ble_eq_true rfl⟩ ⟨rfl, rfl⟩ dX9_act_45 ob_74 (c_X9_isWord N29 b A.1 0 hp) rfl rfl (Nat.le_of_ble_eq_true rfl) (fun r_30 M_31 h_32 => ?_)
          obtain ⟨er_30, nh_32⟩ := h_32
          refine j_eqM nh_32 ?_
          clear nh_32
          refine j_if_eq (tgt := 58) dX9_act_48 (by decide) (fun c48_33 => ?_) (fun c48_33 => ?_)
          · skip
            have k0 : ¬ (lK b A.1 = 1 ∧ lV b A.1 = 0) := by omega
            refine j_aload_n 0 dX9_act_58 rfl rfl ?_
            refine j_iconst dX9_act_59 (by decide) ?_
            refine j_callVi l_X9_216 ⟨Nat.le_of_ble_eq_true rfl, Nat.le_of_ble_eq_true rfl⟩ ⟨rfl, rfl⟩ dX9_act_60 ob_74 (c_X9_isWord N29 b A.1 4 hp) rfl rfl (Nat.le_of_ble_eq_true rfl) (fun r_34 M_35 h_36 => ?_)
            obtain ⟨er_34, nh_36⟩ := h_36
            refine j_eqM nh_36 ?_
            clear nh_36
            refine j_if_eq (tgt := 73) dX9_act_63 (by decide) (fun c63_37 => ?_) (fun c63_37 => ?_)
            · skip
              have k1 : ¬ (lK b A.1 = 1 ∧ lV b A.1 = 4) := by omega
              refine j_aload_n 0 dX9_act_73 rfl rfl ?_
              refine j_callVv l_X9_213 ⟨Nat.le_of_ble_eq_true rfl, Nat.le_of_ble_eq_true rfl⟩ ⟨rfl, rfl⟩ dX9_act_74 ob_74 (c_X9_fails N29 b A.1 hp) rfl rfl (Nat.le_of_ble_eq_true rfl) (fun M_39 h_40 => ?_)
              obtain ⟨rkh_40, fkh_40⟩ := h_40
              have frh_40 := fkh_40.1
              have zrs := rsP_x h0 k0 k1 rkh_40 fkh_40
              refine j_goto (tgt := 29) dX9_act_77 (by decide) ?_
              exact ih29 M_39 (by exact (raI_s hbk hA h0 hk hp h4 hc h5 h6 zrs).1) (by have := (raI_s hbk hA h0 hk hp h4 hc h5 h6 zrs).2; omega)
            · skip
              have k1 : lK b A.1 = 1 ∧ lV b A.1 = 4 := by omega
              refine j_aload_n 0 dX9_act_66 rfl rfl ?_
              refine j_callVv l_X9_249 ⟨Nat.le_of_ble_eq_true rfl, Nat.le_of_ble_eq_true rfl⟩ ⟨rfl, rfl⟩ dX9_act_67 ob_74 (c_X9_readsStrike N29 b A (by rw [(h4 14 (by decide) (by decide) (by decide) (by decide) (by decide) (by decide) (by decide) (by decide))]; exact h_rtyped) (by rw [(hc 84 (by decide) (by decide) (by decide))]; exact h_rtext) (by rw [(hc 75 (by decide) (by decide) (by decide))]; exact h_rwords) hp h0 hn (hR h0) k1) rfl rfl (Nat.le_of_ble_eq_true rfl) (fun M_42 h_43 => ?_)
              have rsh_43 := h_43
              unfold q_X9_readsStrike at rsh_43
              have zrs := rsh_43
              refine j_goto (tgt := 29) dX9_act_70 (by decide) ?_
              exact ih29 M_42 (by exact (raI_s hbk hA h0 hk hp h4 hc h5 h6 zrs).1) (by have := (raI_s hbk hA h0 hk hp h4 hc h5 h6 zrs).2; omega)
          · skip
            have k0 : lK b A.1 = 1 ∧ lV b A.1 = 0 := by omega
            refine j_aload_n 0 dX9_act_51 rfl rfl ?_
            refine j_callVv l_X9_246 ⟨Nat.le_of_ble_eq_true rfl, Nat.le_of_ble_eq_true rfl⟩ ⟨rfl, rfl⟩ dX9_act_52 ob_74 (c_X9_readsRule N29 b A (by rw [(h4 14 (by decide) (by decide) (by decide) (by decide) (by decide) (by decide) (by decide) (by decide))]; exact h_rtyped) (by rw [(hc 84 (by decide) (by decide) (by decide))]; exact h_rtext) (by rw [(hc 75 (by decide) (by decide) (by decide))]; exact h_rwords) hp h0 hn (hR h0) k0) rfl rfl (Nat.le_of_ble_eq_true rfl) (fun M_45 h_46 => ?_)
            have rsh_46 := h_46
            unfold q_X9_readsRule at rsh_46
            have zrs := rsh_46
            refine j_goto (tgt := 29) dX9_act_55 (by decide) ?_
            exact ih29 M_45 (by exact (raI_s hbk hA h0 hk hp h4 hc h5 h6 zrs).1) (by have := (raI_s hbk hA h0 hk hp h4 hc h5 h6 zrs).2; omega)
  exact lp29_9 _ M_7 (by exact raI_0 hbk hb zE (by assumption)) (Nat.lt_succ_self _)
