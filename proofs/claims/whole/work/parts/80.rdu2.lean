abbrev q_X9_duties (M : jM) (b : Int → Int) (q : Int) (t : Int → Int) (i : Int) : jM → Prop := fun N => ruP b (320 + 20 * i) M N (pDu b 4 q t 0)
set_option maxHeartbeats 4000000 in
set_option maxRecDepth 20000 in
theorem c_X9_duties {X : jX} (M : jM) (b : Int → Int) (q : Int) (t : Int → Int) (i : Int) (h_rtyped : 0 ≤ M 74 14 ∧ M 74 14 ≤ 900) (h_rtext : ∀ i, 0 ≤ M 84 i ∧ M 84 i ≤ 255) (h_rwords : ∀ k, 0 ≤ k → k < 16 → M 75 k = wVal k) (hp0 : rP b M q) (hq : 0 ≤ q) (hi : 0 ≤ i ∧ i < 16) (htk : tOk t) (hrw : rRw (M 85) (320 + 20 * i) t) : jC yX9_duties D_X9_duties X FJ shJ [jR 74, jI i] M (jqV (q_X9_duties M b q t i)) := by
  refine jC_of (by decide) rfl (fun ad => Nat.le_of_ble_eq_true rfl) (by decide) ?_
  show jG D_X9_duties X FJ shJ 0 0 (jqV (q_X9_duties M b q t i)) 0 [(0, jR 74), (1, jI i)] [] M
  have hbk := rP_bok hp0 h_rtyped h_rtext
  refine j_sipush dX9_duties_0 (by decide) ?_
  refine j_bipush dX9_duties_3 (by decide) ?_
  refine j_iload_n 1 dX9_duties_5 rfl rfl ?_
  refine j_imul dX9_duties_6 (by omega) ?_
  refine j_iadd dX9_duties_7 (by omega) ?_
  refine j_nm (fun v2_1 ev2_1 => ?_)
  refine j_istore_n (ls' := [(0, jR 74), (1, jI i), (2, jI v2_1)]) dX9_duties_8 rfl (by decide) rfl ?_
  refine j_iconst dX9_duties_9 (by decide) ?_
  refine j_istore_n (ls' := [(0, jR 74), (1, jI i), (2, jI v2_1), (3, jI 0)]) dX9_duties_10 rfl (by decide) rfl ?_
  refine j_iconst dX9_duties_11 (by decide) ?_
  refine j_istore (ls' := [(0, jR 74), (1, jI i), (2, jI v2_1), (3, jI 0), (4, jI 1)]) dX9_duties_12 (by decide) rfl ?_
  have lp14_2 : ∀ n14 : Nat, ∀ (v3 v4 : Int), ∀ N14 : jM, (ruI b (320 + 20 * i) M N14 (pDu b 4 q t 0) v3 v4) → (6 - v3).toNat < n14 → jG D_X9_duties X FJ shJ 0 0 (jqV (q_X9_duties M b q t i)) 14 [(0, jR 74), (1, jI i), (2, jI v2_1), (3, jI v3), (4, jI v4)] ([]) N14 := by
    intro n14
    induction n14 with
    | zero => intro v3 v4 N14 _ hz; exact absurd hz (Nat.not_lt_zero _)
    | succ n14 ih14 =>
      intro v3 v4 N14 hinv hm
      have hI := hinv
      have hrf := hI.2
      have hv3 := ruI_v hI
      refine j_iload 4 dX9_duties_14 rfl ?_
      refine j_if_eq (tgt := 297) dX9_duties_16 (by decide) (fun c16_3 => ?_) (fun c16_3 => ?_)
      · skip
        refine j_aload_n 0 dX9_duties_297 rfl rfl ?_
        refine j_getr f_X9_41 r_74_22 dX9_duties_298 ?_
        refine j_iload_n 2 dX9_duties_301 rfl rfl ?_
        refine j_iconst dX9_duties_302 (by decide) ?_
        refine j_iadd dX9_duties_303 (by omega) ?_
        refine j_iload_n 3 dX9_duties_304 rfl rfl ?_
        refine j_iast a_85 dX9_duties_305 (by omega) (by omega) ?_
        refine j_nmM (fun M_4 eM_4 => ?_)
        refine j_vret rfl rfl rfl rfl dX9_duties_306 ?_
        rw [eM_4]; exact ruP_of hI (by omega) (by omega)
      · skip
        refine j_aload_n 0 dX9_duties_19 rfl rfl ?_
        refine j_callVi l_X9_203 ⟨Nat.le_of_ble_eq_true rfl, Nat.le_of_ble_eq_true rfl⟩ ⟨rfl, rfl⟩ dX9_duties_20 ob_74 (c_X9_isWell N14) rfl rfl (Nat.le_of_ble_eq_true rfl) (fun r_5 M_6 h_7 => ?_)
        obtain ⟨er_5, nh_7⟩ := h_7
        refine j_eqM nh_7 ?_
        clear nh_7
        refine j_if_eq (tgt := 297) dX9_duties_23 (by decide) (fun c23_8 => ?_) (fun c23_8 => ?_)
        · skip
          refine j_aload_n 0 dX9_duties_297 rfl rfl ?_
          refine j_getr f_X9_41 r_74_22 dX9_duties_298 ?_
          refine j_iload_n 2 dX9_duties_301 rfl rfl ?_
          refine j_iconst dX9_duties_302 (by decide) ?_
          refine j_iadd dX9_duties_303 (by omega) ?_
          refine j_iload_n 3 dX9_duties_304 rfl rfl ?_
          refine j_iast a_85 dX9_duties_305 (by omega) (by omega) ?_
          refine j_nmM (fun M_9 eM_9 => ?_)
          refine j_vret rfl rfl rfl rfl dX9_duties_306 ?_
          rw [eM_9]; exact ruP_of hI (by omega) (by omega)
        · skip
          obtain ⟨s, tt, m, hv, hs0, hp, hO, hT, hR⟩ := ruI_act hI (by omega) (by omega)
          have zE14 : N14 74 14 = M 74 14 := hrf.2.1 14 (by decide) (by decide) (by decide) (by decide) (by decide)
          have hw_ := rP_well hp hs0
          have zh16 := hw_.2.2.1
          have zh18 := hw_.2.2.2.1
          have hsn := hw_.2.2.2.2.2
          clear hI hw_
          refine j_aload_n 0 dX9_duties_26 rfl rfl ?_
          refine j_geti (k' := 16) f_X9_191 o_74_16 dX9_duties_27 rfl ?_
          refine j_iconst dX9_duties_30 (by decide) ?_
          have hJ_10 : ∀ zz : Int, (¬ (N14 74 16) = 1 ∧ zz = (-1)) ∨ ((N14 74 16) = 1 ∧ zz = (N14 74 18)) → jG D_X9_duties X FJ shJ 0 0 (jqV (q_X9_duties M b q t i)) 42 [(0, jR 74), (1, jI i), (2, jI v2_1), (3, jI v3), (4, jI v4)] (jI zz :: []) N14 := by
            intro t_11 et_11
            refine j_istore (ls' := [(0, jR 74), (1, jI i), (2, jI v2_1), (3, jI v3), (4, jI v4), (5, jI t_11)]) dX9_duties_42 (by decide) rfl ?_
            refine j_iload 5 dX9_duties_44 rfl ?_
            refine j_iconst dX9_duties_46 (by decide) ?_
            have hJ_12 : ∀ zz : Int, (¬ t_11 = 5 ∧ ¬ t_11 = 6 ∧ ¬ t_11 = 8 ∧ ¬ t_11 = 9 ∧ ¬ t_11 = 10 ∧ ¬ t_11 = 11 ∧ zz = (-1)) ∨ (¬ t_11 = 5 ∧ ¬ t_11 = 6 ∧ ¬ t_11 = 8 ∧ ¬ t_11 = 9 ∧ ¬ t_11 = 10 ∧ t_11 = 11 ∧ zz = 12) ∨ (¬ t_11 = 5 ∧ ¬ t_11 = 6 ∧ ¬ t_11 = 8 ∧ ¬ t_11 = 9 ∧ t_11 = 10 ∧ zz = 11) ∨ (¬ t_11 = 5 ∧ ¬ t_11 = 6 ∧ ¬ t_11 = 8 ∧ t_11 = 9 ∧ zz = 10) ∨ (¬ t_11 = 5 ∧ ¬ t_11 = 6 ∧ t_11 = 8 ∧ zz = 9) ∨ (¬ t_11 = 5 ∧ t_11 = 6 ∧ zz = 7) ∨ (t_11 = 5 ∧ zz = 6) → jG D_X9_duties X FJ shJ 0 0 (jqV (q_X9_duties M b q t i)) 116 [(0, jR 74), (1, jI i), (2, jI v2_1), (3, jI v3), (4, jI v4), (5, jI t_11)] (jI zz :: []) N14 := by
              intro t_13 et_13
              refine j_istore (ls' := [(0, jR 74), (1, jI i), (2, jI v2_1), (3, jI v3), (4, jI v4), (5, jI t_11), (6, jI t_13)]) dX9_duties_116 (by decide) rfl ?_
              have z6_ : (t_11 = 5 ∧ t_13 = 6) ∨ (t_11 = 6 ∧ t_13 = 7) ∨ (t_11 = 8 ∧ t_13 = 9) ∨ (t_11 = 9 ∧ t_13 = 10) ∨ (t_11 = 10 ∧ t_13 = 11) ∨ (t_11 = 11 ∧ t_13 = 12) ∨ (t_13 = -1 ∧ ¬ t_11 = 5 ∧ ¬ t_11 = 6 ∧ ¬ t_11 = 8 ∧ ¬ t_11 = 9 ∧ ¬ t_11 = 10 ∧ ¬ t_11 = 11) := by clear et_11; omega
              clear et_13
              have z5_ : (N14 74 16 = 1 ∧ t_11 = N14 74 18) ∨ (¬ N14 74 16 = 1 ∧ t_11 = -1) := by clear z6_; omega
              have zwh : whD b s t_11 t_13 := whD_of zh16 zh18 z5_ z6_
              clear z6_ z5_
              have zwi := whD_in zwh
              clear et_11 zh16 zh18
              refine j_iload 6 dX9_duties_118 rfl ?_
              refine j_if_lt (tgt := 142) dX9_duties_120 (by decide) (fun c120_14 => ?_) (fun c120_14 => ?_)
              · skip
                refine j_aload_n 0 dX9_duties_142 rfl rfl ?_
                refine j_callVv l_X9_213 ⟨Nat.le_of_ble_eq_true rfl, Nat.le_of_ble_eq_true rfl⟩ ⟨rfl, rfl⟩ dX9_duties_143 ob_74 (c_X9_fails N14 b s hp) rfl rfl (Nat.le_of_ble_eq_true rfl) (fun M_16 h_17 => ?_)
                obtain ⟨rkh_17, fkh_17⟩ := h_17
                have frh_17 := fkh_17.1
                refine j_vret rfl rfl rfl rfl dX9_duties_146 ?_
                have e := pDu_n (by omega) hR (by rcases (show m = 4 ∨ ¬ m = 4 by omega) with z | z; (· exact Or.inr z); (· left; rw [pD1_no hs0 (by (first | exact Or.inl (by omega) | exact Or.inr (fun y => by have x := hT (pDw b s) (by omega) (by omega); rw [show (320 + 20 * i) + 6 + pDw b s = v2_1 + t_13 by omega] at x; omega) | (exfalso; omega)))]; omega))
                have e2 : ((pDu b 4 q t 0)).1 = fl s := by
                  rw [e]
                  split
                  · rfl
                  · unfold fl; rw [if_neg (by omega)]; exact pD1_no hs0 (by (first | exact Or.inl (by omega) | exact Or.inr (fun y => by have x := hT (pDw b s) (by omega) (by omega); rw [show (320 + 20 * i) + 6 + pDw b s = v2_1 + t_13 by omega] at x; omega) | (exfalso; omega)))
                have e3 := fl_neg hs0
                exact ⟨⟨fl s, rkh_17, by rw [tkS_neg e3, e2]⟩, fun z => by rw [e2] at z; omega, ruF_tr hrf (ruF_2 fkh_17)⟩
              · skip
                refine j_iload_n 3 dX9_duties_123 rfl rfl ?_
                refine j_iconst dX9_duties_124 (by decide) ?_
                refine j_icmp_eq (tgt := 142) dX9_duties_125 (by decide) (fun c125_18 => ?_) (fun c125_18 => ?_)
                · skip
                  refine j_aload_n 0 dX9_duties_142 rfl rfl ?_
                  refine j_callVv l_X9_213 ⟨Nat.le_of_ble_eq_true rfl, Nat.le_of_ble_eq_true rfl⟩ ⟨rfl, rfl⟩ dX9_duties_143 ob_74 (c_X9_fails N14 b s hp) rfl rfl (Nat.le_of_ble_eq_true rfl) (fun M_20 h_21 => ?_)
                  obtain ⟨rkh_21, fkh_21⟩ := h_21
                  have frh_21 := fkh_21.1
                  refine j_vret rfl rfl rfl rfl dX9_duties_146 ?_
                  have e := pDu_n (by omega) hR (by rcases (show m = 4 ∨ ¬ m = 4 by omega) with z | z; (· exact Or.inr z); (· left; rw [pD1_no hs0 (by (first | exact Or.inl (by omega) | exact Or.inr (fun y => by have x := hT (pDw b s) (by omega) (by omega); rw [show (320 + 20 * i) + 6 + pDw b s = v2_1 + t_13 by omega] at x; omega) | (exfalso; omega)))]; omega))
                  have e2 : ((pDu b 4 q t 0)).1 = fl s := by
                    rw [e]
                    split
                    · rfl
                    · unfold fl; rw [if_neg (by omega)]; exact pD1_no hs0 (by (first | exact Or.inl (by omega) | exact Or.inr (fun y => by have x := hT (pDw b s) (by omega) (by omega); rw [show (320 + 20 * i) + 6 + pDw b s = v2_1 + t_13 by omega] at x; omega) | (exfalso; omega)))
                  have e3 := fl_neg hs0
                  exact ⟨⟨fl s, rkh_21, by rw [tkS_neg e3, e2]⟩, fun z => by rw [e2] at z; omega, ruF_tr hrf (ruF_2 fkh_21)⟩
                · skip
                  refine j_aload_n 0 dX9_duties_128 rfl rfl ?_
                  refine j_getr f_X9_41 r_74_22 dX9_duties_129 ?_
                  refine j_iload_n 2 dX9_duties_132 rfl rfl ?_
                  refine j_iload 6 dX9_duties_133 rfl ?_
                  refine j_iadd dX9_duties_135 (by omega) ?_
                  refine j_iald a_85 dX9_duties_136 (by omega) (by omega) ?_
                  refine j_bipush dX9_duties_137 (by decide) ?_
                  refine j_icmp_eq (tgt := 147) dX9_duties_139 (by decide) (fun c139_22 => ?_) (fun c139_22 => ?_)
                  · skip
                    have htw : tt (pDw b s) = -9 := by rw [← hT (pDw b s) (by omega) (by omega)]; rw [show (320 + 20 * i) + 6 + pDw b s = v2_1 + t_13 by omega]; assumption
                    have zeD := pD1_yes (b := b) (q := s) (t := tt) (by omega) htw
                    have hm4 : m < 4 := by omega
                    have ct277_23 : ∀ (u3 : Int), ∀ K277 : jM, (u3 = v3 + 1) ∧ (rP b K277 (pD1 b s tt)) ∧ (0 ≤ (pD1 b s tt) → rRw (K277 85) (320 + 20 * i) (pBt b (pDw b s) (lNx b s) tt)) ∧ (ruF (320 + 20 * i) M K277) → jG D_X9_duties X FJ shJ 0 0 (jqV (q_X9_duties M b q t i)) 277 [(0, jR 74), (1, jI i), (2, jI v2_1), (3, jI u3), (4, jI v4), (5, jI t_11), (6, jI t_13)] ([]) K277 := by
                      intro u3 K277 hinv
                      obtain ⟨h3, hpc, hrc, hfc⟩ := hinv
                      have zE14c : K277 74 14 = M 74 14 := hfc.2.1 14 (by decide) (by decide) (by decide) (by decide) (by decide)
                      have p1 := pD1_inR hbk (t := tt) hs0 (show s ≤ M 74 14 by omega)
                      refine j_aload_n 0 dX9_duties_277 rfl rfl ?_
                      refine j_bipush dX9_duties_278 (by decide) ?_
                      refine j_callVi l_X9_207 ⟨Nat.le_of_ble_eq_true rfl, Nat.le_of_ble_eq_true rfl⟩ ⟨rfl, rfl⟩ dX9_duties_280 ob_74 (c_X9_isSign K277 b (pD1 b s tt) 44 hpc) rfl rfl (Nat.le_of_ble_eq_true rfl) (fun r_24 M_25 h_26 => ?_)
                      obtain ⟨er_24, nh_26⟩ := h_26
                      refine j_eqM nh_26 ?_
                      clear nh_26
                      refine j_istore (ls' := [(0, jR 74), (1, jI i), (2, jI v2_1), (3, jI u3), (4, jI r_24), (5, jI t_11), (6, jI t_13)]) dX9_duties_283 (by decide) rfl ?_
                      refine j_iload 4 dX9_duties_285 rfl ?_
                      refine j_if_eq (tgt := 294) dX9_duties_287 (by decide) (fun c287_27 => ?_) (fun c287_27 => ?_)
                      · skip
                        refine j_goto (tgt := 14) dX9_duties_294 (by decide) ?_
                        refine j_sub (ls' := [(0, jR 74), (1, jI i), (2, jI v2_1), (3, jI u3), (4, jI r_24)]) [0, 1, 2, 3, 4] rfl ?_
                        exact ih14 u3 r_24 K277 (by first | (have zc := pDu_c hm4 hR (by omega); exact ⟨Or.inl ⟨lNx b (pD1 b s tt), (pBt b (pDw b s) (lNx b s) tt), m + 1, ⟨by omega, by omega, by omega⟩, by have := lNx_lt hbk (q := (pD1 b s tt)) (by omega) (by omega) (by omega); omega, rP_adv hpc (by omega) adh_26, pBt_ok hbk (by have := p1.2.2 (by omega); omega) (p1.2.2 (by omega)).2.2 (p1.2.1 (by omega)) (p1.2.2 (by omega)).1 hO, rRw_2 (hrc (by omega)) (rF2_of adh_26.2.2), zc.1 (by omega)⟩, ruF_tr hfc (ruF_2 (rF2_of adh_26.2.2))⟩) | (rcases Int.lt_or_le (pD1 b s tt) 0 with zz | zz; (· have e := pDu_n (by omega) hR (Or.inl zz); rw [if_neg (by omega)] at e; exact ⟨Or.inr ⟨(pD1 b s tt), hpc, by rw [tkS_neg zz, e], by omega, by omega, fun z => by omega⟩, hfc⟩); (· have zc := (pDu_c hm4 hR zz).2 (by omega); rw [← zc]; exact ⟨Or.inr ⟨(pD1 b s tt), hpc, rfl, by omega, by omega, fun _ => ⟨hrc zz, by (show _ = ((m + 1 : Nat) : Int)); omega⟩⟩, hfc⟩))) (by omega)
                      · skip
                        refine j_aload_n 0 dX9_duties_290 rfl rfl ?_
                        refine j_callVv l_X9_210 ⟨Nat.le_of_ble_eq_true rfl, Nat.le_of_ble_eq_true rfl⟩ ⟨rfl, rfl⟩ dX9_duties_291 ob_74 (c_X9_advances K277 b (by rw [(hfc.2.1 14 (by decide) (by decide) (by decide) (by decide) (by decide))]; exact h_rtyped) (by rw [(hfc.1 84 (by decide) (by decide))]; exact h_rtext) (by rw [(hfc.1 75 (by decide) (by decide))]; exact h_rwords) hpc.1 (rP_pre2 hpc (by omega) hbk zE14c)) rfl rfl (Nat.le_of_ble_eq_true rfl) (fun M_29 h_30 => ?_)
                        have adh_30 := h_30
                        unfold q_X9_advances at adh_30
                        have frh_30 := adh_30.2.2.1
                        refine j_goto (tgt := 14) dX9_duties_294 (by decide) ?_
                        refine j_sub (ls' := [(0, jR 74), (1, jI i), (2, jI v2_1), (3, jI u3), (4, jI r_24)]) [0, 1, 2, 3, 4] rfl ?_
                        exact ih14 u3 r_24 M_29 (by first | (have zc := pDu_c hm4 hR (by omega); exact ⟨Or.inl ⟨lNx b (pD1 b s tt), (pBt b (pDw b s) (lNx b s) tt), m + 1, ⟨by omega, by omega, by omega⟩, by have := lNx_lt hbk (q := (pD1 b s tt)) (by omega) (by omega) (by omega); omega, rP_adv hpc (by omega) adh_30, pBt_ok hbk (by have := p1.2.2 (by omega); omega) (p1.2.2 (by omega)).2.2 (p1.2.1 (by omega)) (p1.2.2 (by omega)).1 hO, rRw_2 (hrc (by omega)) (rF2_of adh_30.2.2), zc.1 (by omega)⟩, ruF_tr hfc (ruF_2 (rF2_of adh_30.2.2))⟩) | (rcases Int.lt_or_le (pD1 b s tt) 0 with zz | zz; (· have e := pDu_n (by omega) hR (Or.inl zz); rw [if_neg (by omega)] at e; exact ⟨Or.inr ⟨(pD1 b s tt), hpc, by rw [tkS_neg zz, e], by omega, by omega, fun z => by omega⟩, hfc⟩); (· have zc := (pDu_c hm4 hR zz).2 (by omega); rw [← zc]; exact ⟨Or.inr ⟨(pD1 b s tt), hpc, rfl, by omega, by omega, fun _ => ⟨hrc zz, by (show _ = ((m + 1 : Nat) : Int)); omega⟩⟩, hfc⟩))) (by omega)
                    refine j_aload_n 0 dX9_duties_147 rfl rfl ?_
                    refine j_callVv l_X9_210 ⟨Nat.le_of_ble_eq_true rfl, Nat.le_of_ble_eq_true rfl⟩ ⟨rfl, rfl⟩ dX9_duties_148 ob_74 (c_X9_advances N14 b (by rw [(hrf.2.1 14 (by decide) (by decide) (by decide) (by decide) (by decide))]; exact h_rtyped) (by rw [(hrf.1 84 (by decide) (by decide))]; exact h_rtext) (by rw [(hrf.1 75 (by decide) (by decide))]; exact h_rwords) hp.1 (rP_pre2 hp hs0 hbk zE14)) rfl rfl (Nat.le_of_ble_eq_true rfl) (fun M_32 h_33 => ?_)
                    have adh_33 := h_33
                    unfold q_X9_advances at adh_33
                    have frh_33 := adh_33.2.2.1
                    have hp1 := rP_adv hp hs0 adh_33
                    have zfA := rF2_of adh_33.2.2
                    have zrw1 := rRw_2 hT zfA
                    have zfu1 := ruF_tr hrf (ruF_2 (a := (320 + 20 * i)) zfA)
                    obtain ⟨v3_34, ev3_34⟩ : ∃ y : Int, y = v3 + 1 := ⟨_, rfl⟩
                    refine j_iinc (y := v3_34) (ls' := [(0, jR 74), (1, jI i), (2, jI v2_1), (3, jI v3_34), (4, jI v4), (5, jI t_11), (6, jI t_13)]) 3 dX9_duties_151 rfl ev3_34 (by omega) (by decide) rfl ?_
                    refine j_iload 5 dX9_duties_154 rfl ?_
                    refine j_bipush dX9_duties_156 (by decide) ?_
                    refine j_icmp_ne (tgt := 214) dX9_duties_158 (by decide) (fun c158_35 => ?_) (fun c158_35 => ?_)
                    · skip
                      refine j_aload_n 0 dX9_duties_214 rfl rfl ?_
                      refine j_getr f_X9_41 r_74_22 dX9_duties_215 ?_
                      refine j_iload_n 2 dX9_duties_218 rfl rfl ?_
                      refine j_iload 6 dX9_duties_219 rfl ?_
                      refine j_iadd dX9_duties_221 (by omega) ?_
                      refine j_iload 5 dX9_duties_222 rfl ?_
                      refine j_iconst dX9_duties_224 (by decide) ?_
                      refine j_icmp_ne (tgt := 239) dX9_duties_225 (by decide) (fun c225_36 => ?_) (fun c225_36 => ?_)
                      · skip
                        refine j_iload 5 dX9_duties_239 rfl ?_
                        refine j_bipush dX9_duties_241 (by decide) ?_
                        refine j_icmp_ne (tgt := 257) dX9_duties_243 (by decide) (fun c243_37 => ?_) (fun c243_37 => ?_)
                        · skip
                          refine j_iload 5 dX9_duties_257 rfl ?_
                          refine j_bipush dX9_duties_259 (by decide) ?_
                          refine j_icmp_ne (tgt := 275) dX9_duties_261 (by decide) (fun c261_38 => ?_) (fun c261_38 => ?_)
                          · skip
                            refine j_iconst dX9_duties_275 (by decide) ?_
                            refine j_iast a_85 dX9_duties_276 (by omega) (by omega) ?_
                            refine j_nmM (fun M_39 eM_39 => ?_)
                            exact ct277_23 v3_34 M_39 ⟨by omega, by first | (have w0 : pDw b s = 0 := (by unfold whD at zwh; omega); rw [zeD, w0, eM_39]; exact rP_85 zrk) | (have w0 : pDw b s = 1 := (by unfold whD at zwh; omega); rw [zeD, w0, eM_39]; exact rP_85 zrk) | (have w0 : pDw b s = 3 := (by unfold whD at zwh; omega); rw [zeD, w0, eM_39]; exact rP_85 zrk) | (have w0 : pDw b s = 4 := (by unfold whD at zwh; omega); rw [zeD, w0, eM_39]; exact rP_85 zrk) | (rcases (show pDw b s = 5 ∨ pDw b s = 6 by unfold whD at zwh; omega) with w0 | w0 <;> (rw [zeD, w0, eM_39]; exact rP_85 hp1)), by intro _; first | (have w0 : pDw b s = 0 := (by unfold whD at zwh; omega); rw [w0, eM_39, zrv]; exact rRw_up zrw (by omega)) | (have w0 : pDw b s = 1 := (by unfold whD at zwh; omega); rw [w0, eM_39, zrv]; exact rRw_up zrw (by omega)) | (have w0 : pDw b s = 3 := (by unfold whD at zwh; omega); rw [w0, eM_39, zrv]; exact rRw_up zrw (by omega)) | (have w0 : pDw b s = 4 := (by unfold whD at zwh; omega); rw [w0, eM_39, zrv]; exact rRw_up zrw (by omega)) | (rcases (show pDw b s = 5 ∨ pDw b s = 6 by unfold whD at zwh; omega) with w0 | w0; (· rw [w0, eM_39]; exact rRw_up (w := 5) zrw1 (by unfold whD at zwh; omega)); (· rw [w0, eM_39]; exact rRw_up (w := 6) zrw1 (by unfold whD at zwh; omega))), by rw [eM_39]; first | exact ruF_tr zfu (ruF_85 (by unfold whD at zwh; omega)) | exact ruF_tr zfu1 (ruF_85 (by unfold whD at zwh; omega))⟩
                          · skip
                            refine j_aload_n 0 dX9_duties_264 rfl rfl ?_
                            refine j_iconst dX9_duties_265 (by decide) ?_
                            refine j_sipush dX9_duties_266 (by decide) ?_
                            refine j_callVi l_X9_228 ⟨Nat.le_of_ble_eq_true rfl, Nat.le_of_ble_eq_true rfl⟩ ⟨rfl, rfl⟩ dX9_duties_269 ob_74 (c_X9_takesNumber M_32 b (lNx b s) 1 1440 (by rw [(Eq.trans (adh_33.2.2.2 14 (by decide) (by decide) (by decide) (by decide)) (hrf.2.1 14 (by decide) (by decide) (by decide) (by decide) (by decide)))]; exact h_rtyped) (by rw [(Eq.trans (frh_33 84 (by decide)) (hrf.1 84 (by decide) (by decide)))]; exact h_rtext) (by rw [(Eq.trans (frh_33 75 (by decide)) (hrf.1 75 (by decide) (by decide)))]; exact h_rwords) hp1) rfl rfl (Nat.le_of_ble_eq_true rfl) (fun r_40 M_41 h_42 => ?_)
                            obtain ⟨rvh_42, rkh_42, fkh_42⟩ := h_42
                            have frh_42 := fkh_42.1
                            have zrk := rkh_42
                            have zrv := rvh_42
                            have zrw := rRw_2 zrw1 fkh_42
                            have zfu := ruF_tr zfu1 (ruF_2 fkh_42)
                            refine j_goto (tgt := 276) dX9_duties_272 (by decide) ?_
                            refine j_iast a_85 dX9_duties_276 (by omega) (by omega) ?_
                            refine j_nmM (fun M_43 eM_43 => ?_)
                            exact ct277_23 v3_34 M_43 ⟨by omega, by first | (have w0 : pDw b s = 0 := (by unfold whD at zwh; omega); rw [zeD, w0, eM_43]; exact rP_85 zrk) | (have w0 : pDw b s = 1 := (by unfold whD at zwh; omega); rw [zeD, w0, eM_43]; exact rP_85 zrk) | (have w0 : pDw b s = 3 := (by unfold whD at zwh; omega); rw [zeD, w0, eM_43]; exact rP_85 zrk) | (have w0 : pDw b s = 4 := (by unfold whD at zwh; omega); rw [zeD, w0, eM_43]; exact rP_85 zrk) | (rcases (show pDw b s = 5 ∨ pDw b s = 6 by unfold whD at zwh; omega) with w0 | w0 <;> (rw [zeD, w0, eM_43]; exact rP_85 hp1)), by intro _; first | (have w0 : pDw b s = 0 := (by unfold whD at zwh; omega); rw [w0, eM_43, zrv]; exact rRw_up zrw (by omega)) | (have w0 : pDw b s = 1 := (by unfold whD at zwh; omega); rw [w0, eM_43, zrv]; exact rRw_up zrw (by omega)) | (have w0 : pDw b s = 3 := (by unfold whD at zwh; omega); rw [w0, eM_43, zrv]; exact rRw_up zrw (by omega)) | (have w0 : pDw b s = 4 := (by unfold whD at zwh; omega); rw [w0, eM_43, zrv]; exact rRw_up zrw (by omega)) | (rcases (show pDw b s = 5 ∨ pDw b s = 6 by unfold whD at zwh; omega) with w0 | w0; (· rw [w0, eM_43]; exact rRw_up (w := 5) zrw1 (by unfold whD at zwh; omega)); (· rw [w0, eM_43]; exact rRw_up (w := 6) zrw1 (by unfold whD at zwh; omega))), by rw [eM_43]; first | exact ruF_tr zfu (ruF_85 (by unfold whD at zwh; omega)) | exact ruF_tr zfu1 (ruF_85 (by unfold whD at zwh; omega))⟩
                        · skip
                          refine j_aload_n 0 dX9_duties_246 rfl rfl ?_
                          refine j_iconst dX9_duties_247 (by decide) ?_
                          refine j_sipush dX9_duties_248 (by decide) ?_
                          refine j_callVi l_X9_228 ⟨Nat.le_of_ble_eq_true rfl, Nat.le_of_ble_eq_true rfl⟩ ⟨rfl, rfl⟩ dX9_duties_251 ob_74 (c_X9_takesNumber M_32 b (lNx b s) 0 600 (by rw [(Eq.trans (adh_33.2.2.2 14 (by decide) (by decide) (by decide) (by decide)) (hrf.2.1 14 (by decide) (by decide) (by decide) (by decide) (by decide)))]; exact h_rtyped) (by rw [(Eq.trans (frh_33 84 (by decide)) (hrf.1 84 (by decide) (by decide)))]; exact h_rtext) (by rw [(Eq.trans (frh_33 75 (by decide)) (hrf.1 75 (by decide) (by decide)))]; exact h_rwords) hp1) rfl rfl (Nat.le_of_ble_eq_true rfl) (fun r_44 M_45 h_46 => ?_)
                          obtain ⟨rvh_46, rkh_46, fkh_46⟩ := h_46
                          have frh_46 := fkh_46.1
                          have zrk := rkh_46
                          have zrv := rvh_46
                          have zrw := rRw_2 zrw1 fkh_46
                          have zfu := ruF_tr zfu1 (ruF_2 fkh_46)
                          refine j_goto (tgt := 276) dX9_duties_254 (by decide) ?_
                          refine j_iast a_85 dX9_duties_276 (by omega) (by omega) ?_
                          refine j_nmM (fun M_47 eM_47 => ?_)
                          exact ct277_23 v3_34 M_47 ⟨by omega, by first | (have w0 : pDw b s = 0 := (by unfold whD at zwh; omega); rw [zeD, w0, eM_47]; exact rP_85 zrk) | (have w0 : pDw b s = 1 := (by unfold whD at zwh; omega); rw [zeD, w0, eM_47]; exact rP_85 zrk) | (have w0 : pDw b s = 3 := (by unfold whD at zwh; omega); rw [zeD, w0, eM_47]; exact rP_85 zrk) | (have w0 : pDw b s = 4 := (by unfold whD at zwh; omega); rw [zeD, w0, eM_47]; exact rP_85 zrk) | (rcases (show pDw b s = 5 ∨ pDw b s = 6 by unfold whD at zwh; omega) with w0 | w0 <;> (rw [zeD, w0, eM_47]; exact rP_85 hp1)), by intro _; first | (have w0 : pDw b s = 0 := (by unfold whD at zwh; omega); rw [w0, eM_47, zrv]; exact rRw_up zrw (by omega)) | (have w0 : pDw b s = 1 := (by unfold whD at zwh; omega); rw [w0, eM_47, zrv]; exact rRw_up zrw (by omega)) | (have w0 : pDw b s = 3 := (by unfold whD at zwh; omega); rw [w0, eM_47, zrv]; exact rRw_up zrw (by omega)) | (have w0 : pDw b s = 4 := (by unfold whD at zwh; omega); rw [w0, eM_47, zrv]; exact rRw_up zrw (by omega)) | (rcases (show pDw b s = 5 ∨ pDw b s = 6 by unfold whD at zwh; omega) with w0 | w0; (· rw [w0, eM_47]; exact rRw_up (w := 5) zrw1 (by unfold whD at zwh; omega)); (· rw [w0, eM_47]; exact rRw_up (w := 6) zrw1 (by unfold whD at zwh; omega))), by rw [eM_47]; first | exact ruF_tr zfu (ruF_85 (by unfold whD at zwh; omega)) | exact ruF_tr zfu1 (ruF_85 (by unfold whD at zwh; omega))⟩
                      · skip
                        refine j_aload_n 0 dX9_duties_228 rfl rfl ?_
                        refine j_iconst dX9_duties_229 (by decide) ?_
                        refine j_sipush dX9_duties_230 (by decide) ?_
                        refine j_callVi l_X9_228 ⟨Nat.le_of_ble_eq_true rfl, Nat.le_of_ble_eq_true rfl⟩ ⟨rfl, rfl⟩ dX9_duties_233 ob_74 (c_X9_takesNumber M_32 b (lNx b s) 0 1440 (by rw [(Eq.trans (adh_33.2.2.2 14 (by decide) (by decide) (by decide) (by decide)) (hrf.2.1 14 (by decide) (by decide) (by decide) (by decide) (by decide)))]; exact h_rtyped) (by rw [(Eq.trans (frh_33 84 (by decide)) (hrf.1 84 (by decide) (by decide)))]; exact h_rtext) (by rw [(Eq.trans (frh_33 75 (by decide)) (hrf.1 75 (by decide) (by decide)))]; exact h_rwords) hp1) rfl rfl (Nat.le_of_ble_eq_true rfl) (fun r_48 M_49 h_50 => ?_)
                        obtain ⟨rvh_50, rkh_50, fkh_50⟩ := h_50
                        have frh_50 := fkh_50.1
                        have zrk := rkh_50
                        have zrv := rvh_50
                        have zrw := rRw_2 zrw1 fkh_50
                        have zfu := ruF_tr zfu1 (ruF_2 fkh_50)
                        refine j_goto (tgt := 276) dX9_duties_236 (by decide) ?_
                        refine j_iast a_85 dX9_duties_276 (by omega) (by omega) ?_
                        refine j_nmM (fun M_51 eM_51 => ?_)
                        exact ct277_23 v3_34 M_51 ⟨by omega, by first | (have w0 : pDw b s = 0 := (by unfold whD at zwh; omega); rw [zeD, w0, eM_51]; exact rP_85 zrk) | (have w0 : pDw b s = 1 := (by unfold whD at zwh; omega); rw [zeD, w0, eM_51]; exact rP_85 zrk) | (have w0 : pDw b s = 3 := (by unfold whD at zwh; omega); rw [zeD, w0, eM_51]; exact rP_85 zrk) | (have w0 : pDw b s = 4 := (by unfold whD at zwh; omega); rw [zeD, w0, eM_51]; exact rP_85 zrk) | (rcases (show pDw b s = 5 ∨ pDw b s = 6 by unfold whD at zwh; omega) with w0 | w0 <;> (rw [zeD, w0, eM_51]; exact rP_85 hp1)), by intro _; first | (have w0 : pDw b s = 0 := (by unfold whD at zwh; omega); rw [w0, eM_51, zrv]; exact rRw_up zrw (by omega)) | (have w0 : pDw b s = 1 := (by unfold whD at zwh; omega); rw [w0, eM_51, zrv]; exact rRw_up zrw (by omega)) | (have w0 : pDw b s = 3 := (by unfold whD at zwh; omega); rw [w0, eM_51, zrv]; exact rRw_up zrw (by omega)) | (have w0 : pDw b s = 4 := (by unfold whD at zwh; omega); rw [w0, eM_51, zrv]; exact rRw_up zrw (by omega)) | (rcases (show pDw b s = 5 ∨ pDw b s = 6 by unfold whD at zwh; omega) with w0 | w0; (· rw [w0, eM_51]; exact rRw_up (w := 5) zrw1 (by unfold whD at zwh; omega)); (· rw [w0, eM_51]; exact rRw_up (w := 6) zrw1 (by unfold whD at zwh; omega))), by rw [eM_51]; first | exact ruF_tr zfu (ruF_85 (by unfold whD at zwh; omega)) | exact ruF_tr zfu1 (ruF_85 (by unfold whD at zwh; omega))⟩
                    · skip
                      refine j_aload_n 0 dX9_duties_161 rfl rfl ?_
                      refine j_getr f_X9_41 r_74_22 dX9_duties_162 ?_
                      refine j_iload_n 2 dX9_duties_165 rfl rfl ?_
                      refine j_bipush dX9_duties_166 (by decide) ?_
                      refine j_iadd dX9_duties_168 (by omega) ?_
                      refine j_aload_n 0 dX9_duties_169 rfl rfl ?_
                      refine j_iconst dX9_duties_170 (by decide) ?_
                      refine j_sipush dX9_duties_171 (by decide) ?_
                      refine j_callVi l_X9_228 ⟨Nat.le_of_ble_eq_true rfl, Nat.le_of_ble_eq_true rfl⟩ ⟨rfl, rfl⟩ dX9_duties_174 ob_74 (c_X9_takesNumber M_32 b (lNx b s) 0 1439 (by rw [(Eq.trans (adh_33.2.2.2 14 (by decide) (by decide) (by decide) (by decide)) (hrf.2.1 14 (by decide) (by decide) (by decide) (by decide) (by decide)))]; exact h_rtyped) (by rw [(Eq.trans (frh_33 84 (by decide)) (hrf.1 84 (by decide) (by decide)))]; exact h_rtext) (by rw [(Eq.trans (frh_33 75 (by decide)) (hrf.1 75 (by decide) (by decide)))]; exact h_rwords) hp1) rfl rfl (Nat.le_of_ble_eq_true rfl) (fun r_52 M_53 h_54 => ?_)
                      obtain ⟨rvh_54, rkh_54, fkh_54⟩ := h_54
                      have frh_54 := fkh_54.1
                      have zn0 := nV_in b (lo := 0) (hi := 1439) (s := lNx b s) (by omega) (by omega)
                      have zrv1 := rvh_54
                      have zrk1 := rkh_54
                      have zrw2 := rRw_2 zrw1 fkh_54
                      have zfu2 := ruF_tr zfu1 (ruF_2 (a := (320 + 20 * i)) fkh_54)
                      refine j_iast a_85 dX9_duties_177 (by omega) (by omega) ?_
                      refine j_nmM (fun M_55 eM_55 => ?_)
                      have zhp2 : rP b M_55 (tkN b 0 1439 (lNx b s)) := by rw [eM_55]; exact rP_85 zrk1
                      have zrw3 : rRw (M_55 85) (320 + 20 * i) (tUp tt 1 (nV b 0 1439 (lNx b s))) := by rw [eM_55, zrv1]; exact rRw_up zrw2 (by omega)
                      have zfu3 : ruF (320 + 20 * i) M M_55 := by rw [eM_55]; exact ruF_tr zfu2 (ruF_85 (by omega))
                      refine j_aload_n 0 dX9_duties_178 rfl rfl ?_
                      refine j_bipush dX9_duties_179 (by decide) ?_
                      refine j_callVv l_X9_235 ⟨Nat.le_of_ble_eq_true rfl, Nat.le_of_ble_eq_true rfl⟩ ⟨rfl, rfl⟩ dX9_duties_181 ob_74 (c_X9_takesWord M_55 b (tkN b 0 1439 (lNx b s)) 7 (by rw [(Eq.trans (congrFun ((congrFun eM_55 74).trans (jup_cell (by decide))) 14) (Eq.trans (fkh_54.2 14 (by decide) (by decide) (by decide) (by decide) (by decide)) (Eq.trans (adh_33.2.2.2 14 (by decide) (by decide) (by decide) (by decide)) (hrf.2.1 14 (by decide) (by decide) (by decide) (by decide) (by decide)))))]; exact h_rtyped) (by rw [(Eq.trans ((congrFun eM_55 84).trans (jup_cell (by decide))) (Eq.trans (frh_54 84 (by decide)) (Eq.trans (frh_33 84 (by decide)) (hrf.1 84 (by decide) (by decide)))))]; exact h_rtext) (by rw [(Eq.trans ((congrFun eM_55 75).trans (jup_cell (by decide))) (Eq.trans (frh_54 75 (by decide)) (Eq.trans (frh_33 75 (by decide)) (hrf.1 75 (by decide) (by decide)))))]; exact h_rwords) zhp2) rfl rfl (Nat.le_of_ble_eq_true rfl) (fun M_57 h_58 => ?_)
                      obtain ⟨rkh_58, fkh_58⟩ := h_58
                      have frh_58 := fkh_58.1
                      have zhp3 := rkh_58
                      have zrw4 := rRw_2 zrw3 fkh_58
                      have zfu4 := ruF_tr zfu3 (ruF_2 (a := (320 + 20 * i)) fkh_58)
                      refine j_aload_n 0 dX9_duties_184 rfl rfl ?_
                      refine j_getr f_X9_41 r_74_22 dX9_duties_185 ?_
                      refine j_iload_n 2 dX9_duties_188 rfl rfl ?_
                      refine j_bipush dX9_duties_189 (by decide) ?_
                      refine j_iadd dX9_duties_191 (by omega) ?_
                      refine j_aload_n 0 dX9_duties_192 rfl rfl ?_
                      refine j_aload_n 0 dX9_duties_193 rfl rfl ?_
                      refine j_getr f_X9_41 r_74_22 dX9_duties_194 ?_
                      refine j_iload_n 2 dX9_duties_197 rfl rfl ?_
                      refine j_bipush dX9_duties_198 (by decide) ?_
                      refine j_iadd dX9_duties_200 (by omega) ?_
                      refine j_iald a_85 dX9_duties_201 (by omega) (by omega) ?_
                      refine j_eq (Eq.trans (congrFun (frh_58 85 (by decide)) (v2_1 + 7)) ((congrFun (congrFun eM_55 85) (v2_1 + 7)).trans (jup_self _ _ _ _))) ?_
                      refine j_iconst dX9_duties_202 (by decide) ?_
                      refine j_iadd dX9_duties_203 (by omega) ?_
                      refine j_sipush dX9_duties_204 (by decide) ?_
                      refine j_callVi l_X9_228 ⟨Nat.le_of_ble_eq_true rfl, Nat.le_of_ble_eq_true rfl⟩ ⟨rfl, rfl⟩ dX9_duties_207 ob_74 (c_X9_takesNumber M_57 b (tkW b 7 (tkN b 0 1439 (lNx b s))) ((r_52 + 1)) 1439 (by rw [(Eq.trans (fkh_58.2 14 (by decide) (by decide) (by decide) (by decide) (by decide)) (Eq.trans (congrFun ((congrFun eM_55 74).trans (jup_cell (by decide))) 14) (Eq.trans (fkh_54.2 14 (by decide) (by decide) (by decide) (by decide) (by decide)) (Eq.trans (adh_33.2.2.2 14 (by decide) (by decide) (by decide) (by decide)) (hrf.2.1 14 (by decide) (by decide) (by decide) (by decide) (by decide))))))]; exact h_rtyped) (by rw [(Eq.trans (frh_58 84 (by decide)) (Eq.trans ((congrFun eM_55 84).trans (jup_cell (by decide))) (Eq.trans (frh_54 84 (by decide)) (Eq.trans (frh_33 84 (by decide)) (hrf.1 84 (by decide) (by decide))))))]; exact h_rtext) (by rw [(Eq.trans (frh_58 75 (by decide)) (Eq.trans ((congrFun eM_55 75).trans (jup_cell (by decide))) (Eq.trans (frh_54 75 (by decide)) (Eq.trans (frh_33 75 (by decide)) (hrf.1 75 (by decide) (by decide))))))]; exact h_rwords) zhp3) rfl rfl (Nat.le_of_ble_eq_true rfl) (fun r_59 M_60 h_61 => ?_)
                      obtain ⟨rvh_61, rkh_61, fkh_61⟩ := h_61
                      have frh_61 := fkh_61.1
                      have zrk := rkh_61
                      have zrv := rvh_61
                      rw [zrv1] at zrk zrv
                      have zrw := rRw_2 zrw4 fkh_61
                      have zfu := ruF_tr zfu4 (ruF_2 (a := (320 + 20 * i)) fkh_61)
                      refine j_iast a_85 dX9_duties_210 (by omega) (by omega) ?_
                      refine j_nmM (fun M_62 eM_62 => ?_)
                      refine j_goto (tgt := 277) dX9_duties_211 (by decide) ?_
                      exact ct277_23 v3_34 M_62 ⟨by omega, by first | (have w0 : pDw b s = 0 := (by unfold whD at zwh; omega); rw [zeD, w0, eM_62]; exact rP_85 zrk) | (have w0 : pDw b s = 1 := (by unfold whD at zwh; omega); rw [zeD, w0, eM_62]; exact rP_85 zrk) | (have w0 : pDw b s = 3 := (by unfold whD at zwh; omega); rw [zeD, w0, eM_62]; exact rP_85 zrk) | (have w0 : pDw b s = 4 := (by unfold whD at zwh; omega); rw [zeD, w0, eM_62]; exact rP_85 zrk) | (rcases (show pDw b s = 5 ∨ pDw b s = 6 by unfold whD at zwh; omega) with w0 | w0 <;> (rw [zeD, w0, eM_62]; exact rP_85 hp1)), by intro _; first | (have w0 : pDw b s = 0 := (by unfold whD at zwh; omega); rw [w0, eM_62, zrv]; exact rRw_up zrw (by omega)) | (have w0 : pDw b s = 1 := (by unfold whD at zwh; omega); rw [w0, eM_62, zrv]; exact rRw_up zrw (by omega)) | (have w0 : pDw b s = 3 := (by unfold whD at zwh; omega); rw [w0, eM_62, zrv]; exact rRw_up zrw (by omega)) | (have w0 : pDw b s = 4 := (by unfold whD at zwh; omega); rw [w0, eM_62, zrv]; exact rRw_up zrw (by omega)) | (rcases (show pDw b s = 5 ∨ pDw b s = 6 by unfold whD at zwh; omega) with w0 | w0; (· rw [w0, eM_62]; exact rRw_up (w := 5) zrw1 (by unfold whD at zwh; omega)); (· rw [w0, eM_62]; exact rRw_up (w := 6) zrw1 (by unfold whD at zwh; omega))), by rw [eM_62]; first | exact ruF_tr zfu (ruF_85 (by unfold whD at zwh; omega)) | exact ruF_tr zfu1 (ruF_85 (by unfold whD at zwh; omega))⟩
                  · skip
                    refine j_aload_n 0 dX9_duties_142 rfl rfl ?_
                    refine j_callVv l_X9_213 ⟨Nat.le_of_ble_eq_true rfl, Nat.le_of_ble_eq_true rfl⟩ ⟨rfl, rfl⟩ dX9_duties_143 ob_74 (c_X9_fails N14 b s hp) rfl rfl (Nat.le_of_ble_eq_true rfl) (fun M_64 h_65 => ?_)
                    obtain ⟨rkh_65, fkh_65⟩ := h_65
                    have frh_65 := fkh_65.1
                    refine j_vret rfl rfl rfl rfl dX9_duties_146 ?_
                    have e := pDu_n (by omega) hR (by rcases (show m = 4 ∨ ¬ m = 4 by omega) with z | z; (· exact Or.inr z); (· left; rw [pD1_no hs0 (by (first | exact Or.inl (by omega) | exact Or.inr (fun y => by have x := hT (pDw b s) (by omega) (by omega); rw [show (320 + 20 * i) + 6 + pDw b s = v2_1 + t_13 by omega] at x; omega) | (exfalso; omega)))]; omega))
                    have e2 : ((pDu b 4 q t 0)).1 = fl s := by
                      rw [e]
                      split
                      · rfl
                      · unfold fl; rw [if_neg (by omega)]; exact pD1_no hs0 (by (first | exact Or.inl (by omega) | exact Or.inr (fun y => by have x := hT (pDw b s) (by omega) (by omega); rw [show (320 + 20 * i) + 6 + pDw b s = v2_1 + t_13 by omega] at x; omega) | (exfalso; omega)))
                    have e3 := fl_neg hs0
                    exact ⟨⟨fl s, rkh_65, by rw [tkS_neg e3, e2]⟩, fun z => by rw [e2] at z; omega, ruF_tr hrf (ruF_2 fkh_65)⟩
            refine j_icmp_ne (tgt := 55) dX9_duties_47 (by decide) (fun c47_66 => ?_) (fun c47_66 => ?_)
            · skip
              refine j_iload 5 dX9_duties_55 rfl ?_
              refine j_bipush dX9_duties_57 (by decide) ?_
              refine j_icmp_ne (tgt := 67) dX9_duties_59 (by decide) (fun c59_67 => ?_) (fun c59_67 => ?_)
              · skip
                refine j_iload 5 dX9_duties_67 rfl ?_
                refine j_bipush dX9_duties_69 (by decide) ?_
                refine j_icmp_ne (tgt := 79) dX9_duties_71 (by decide) (fun c71_68 => ?_) (fun c71_68 => ?_)
                · skip
                  refine j_iload 5 dX9_duties_79 rfl ?_
                  refine j_bipush dX9_duties_81 (by decide) ?_
                  refine j_icmp_ne (tgt := 91) dX9_duties_83 (by decide) (fun c83_69 => ?_) (fun c83_69 => ?_)
                  · skip
                    refine j_iload 5 dX9_duties_91 rfl ?_
                    refine j_bipush dX9_duties_93 (by decide) ?_
                    refine j_icmp_ne (tgt := 103) dX9_duties_95 (by decide) (fun c95_70 => ?_) (fun c95_70 => ?_)
                    · skip
                      refine j_iload 5 dX9_duties_103 rfl ?_
                      refine j_bipush dX9_duties_105 (by decide) ?_
                      refine j_icmp_ne (tgt := 115) dX9_duties_107 (by decide) (fun c107_71 => ?_) (fun c107_71 => ?_)
                      · skip
                        refine j_iconst dX9_duties_115 (by decide) ?_
                        exact hJ_12 _ (Or.inl ⟨c47_66, c59_67, c71_68, c83_69, c95_70, c107_71, rfl⟩)
                      · skip
                        refine j_bipush dX9_duties_110 (by decide) ?_
                        refine j_goto (tgt := 116) dX9_duties_112 (by decide) ?_
                        exact hJ_12 _ (Or.inr (Or.inl ⟨c47_66, c59_67, c71_68, c83_69, c95_70, c107_71, rfl⟩))
                    · skip
                      refine j_bipush dX9_duties_98 (by decide) ?_
                      refine j_goto (tgt := 116) dX9_duties_100 (by decide) ?_
                      exact hJ_12 _ (Or.inr (Or.inr (Or.inl ⟨c47_66, c59_67, c71_68, c83_69, c95_70, rfl⟩)))
                  · skip
                    refine j_bipush dX9_duties_86 (by decide) ?_
                    refine j_goto (tgt := 116) dX9_duties_88 (by decide) ?_
                    exact hJ_12 _ (Or.inr (Or.inr (Or.inr (Or.inl ⟨c47_66, c59_67, c71_68, c83_69, rfl⟩))))
                · skip
                  refine j_bipush dX9_duties_74 (by decide) ?_
                  refine j_goto (tgt := 116) dX9_duties_76 (by decide) ?_
                  exact hJ_12 _ (Or.inr (Or.inr (Or.inr (Or.inr (Or.inl ⟨c47_66, c59_67, c71_68, rfl⟩)))))
              · skip
                refine j_bipush dX9_duties_62 (by decide) ?_
                refine j_goto (tgt := 116) dX9_duties_64 (by decide) ?_
                exact hJ_12 _ (Or.inr (Or.inr (Or.inr (Or.inr (Or.inr (Or.inl ⟨c47_66, c59_67, rfl⟩))))))
            · skip
              refine j_bipush dX9_duties_50 (by decide) ?_
              refine j_goto (tgt := 116) dX9_duties_52 (by decide) ?_
              exact hJ_12 _ (Or.inr (Or.inr (Or.inr (Or.inr (Or.inr (Or.inr (⟨c47_66, rfl⟩)))))))
          refine j_icmp_ne (tgt := 41) dX9_duties_31 (by decide) (fun c31_72 => ?_) (fun c31_72 => ?_)
          · skip
            refine j_iconst dX9_duties_41 (by decide) ?_
            exact hJ_10 _ (Or.inl ⟨c31_72, rfl⟩)
          · skip
            refine j_aload_n 0 dX9_duties_34 rfl rfl ?_
            refine j_geti (k' := 18) f_X9_194 o_74_18 dX9_duties_35 rfl ?_
            refine j_goto (tgt := 42) dX9_duties_38 (by decide) ?_
            exact hJ_10 _ (Or.inr (⟨c31_72, rfl⟩))
  exact lp14_2 _ 0 1 M (by exact ⟨Or.inl ⟨q, t, 0, ⟨by omega, by omega, by omega⟩, hq, hp0, htk, hrw, rfl⟩, ruF_rf _ M⟩) (Nat.lt_succ_self _)
