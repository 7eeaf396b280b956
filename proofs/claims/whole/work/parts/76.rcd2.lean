abbrev q_X9_cond (M : jM) (b : Int → Int) (q : Int) (i : Int) : jM → Prop := fun N => rdP b i M N (pCd b 901 q [] true 0 0)
set_option maxHeartbeats 4000000 in
set_option maxRecDepth 20000 in
theorem c_X9_cond {X : jX} (M : jM) (b : Int → Int) (q : Int) (i : Int) (h_rtyped : 0 ≤ M 74 14 ∧ M 74 14 ≤ 900) (h_rtext : ∀ i, 0 ≤ M 84 i ∧ M 84 i ≤ 255) (h_rwords : ∀ k, 0 ≤ k → k < 16 → M 75 k = wVal k) (hp0 : rP b M q) (hq : 0 ≤ q) (hi : 0 ≤ i ∧ i < 16) (hcm : 0 ≤ M 74 24 ∧ M 74 24 ≤ q) : jC yX9_cond D_X9_cond X FJ shJ [jR 74, jI i] M (jqV (q_X9_cond M b q i)) := by
  refine jC_of (by decide) rfl (fun ad => Nat.le_of_ble_eq_true rfl) (by decide) ?_
  show jG D_X9_cond X FJ shJ 0 0 (jqV (q_X9_cond M b q i)) 0 [(0, jR 74), (1, jI i)] [] M
  have hbk := rP_bok hp0 h_rtyped h_rtext
  have hqn := (rP_well hp0 hq).2.2.2.2.2
  refine j_sipush dX9_cond_0 (by decide) ?_
  refine j_iconst dX9_cond_3 (by decide) ?_
  refine j_aload_n 0 dX9_cond_4 rfl rfl ?_
  refine j_geti (k' := 24) f_X9_222 o_74_24 dX9_cond_5 rfl ?_
  refine j_imul dX9_cond_8 (by omega) ?_
  refine j_iadd dX9_cond_9 (by omega) ?_
  refine j_nm (fun v2_1 ev2_1 => ?_)
  refine j_istore_n (ls' := [(0, jR 74), (1, jI i), (2, jI v2_1)]) dX9_cond_10 rfl (by decide) rfl ?_
  refine j_iconst dX9_cond_11 (by decide) ?_
  refine j_istore_n (ls' := [(0, jR 74), (1, jI i), (2, jI v2_1), (3, jI 0)]) dX9_cond_12 rfl (by decide) rfl ?_
  refine j_iconst dX9_cond_13 (by decide) ?_
  refine j_istore (ls' := [(0, jR 74), (1, jI i), (2, jI v2_1), (3, jI 0), (4, jI 0)]) dX9_cond_14 (by decide) rfl ?_
  refine j_iconst dX9_cond_16 (by decide) ?_
  refine j_istore (ls' := [(0, jR 74), (1, jI i), (2, jI v2_1), (3, jI 0), (4, jI 0), (5, jI 0)]) dX9_cond_17 (by decide) rfl ?_
  refine j_iconst dX9_cond_19 (by decide) ?_
  refine j_istore (ls' := [(0, jR 74), (1, jI i), (2, jI v2_1), (3, jI 0), (4, jI 0), (5, jI 0), (6, jI 1)]) dX9_cond_20 (by decide) rfl ?_
  refine j_iconst dX9_cond_22 (by decide) ?_
  refine j_istore (ls' := [(0, jR 74), (1, jI i), (2, jI v2_1), (3, jI 0), (4, jI 0), (5, jI 0), (6, jI 1), (7, jI 1)]) dX9_cond_23 (by decide) rfl ?_
  have lp25_2 : ∀ n25 : Nat, ∀ (v3 v4 v5 v6 v7 : Int), ∀ N25 : jM, (rdI b q (2000 + 2 * M 74 24) M N25 (pCd b 901 q [] true 0 0) v3 v4 v5 v6 v7) → (rdMs N25 v7).toNat < n25 → jG D_X9_cond X FJ shJ 0 0 (jqV (q_X9_cond M b q i)) 25 [(0, jR 74), (1, jI i), (2, jI v2_1), (3, jI v3), (4, jI v4), (5, jI v5), (6, jI v6), (7, jI v7)] ([]) N25 := by
    intro n25
    induction n25 with
    | zero => intro v3 v4 v5 v6 v7 N25 _ hz; exact absurd hz (Nat.not_lt_zero _)
    | succ n25 ih25 =>
      intro v3 v4 v5 v6 v7 N25 hinv hm
      have hI := hinv
      have hrf := hI.2
      refine j_iload 7 dX9_cond_25 rfl ?_
      refine j_if_eq (tgt := 450) dX9_cond_27 (by decide) (fun c27_3 => ?_) (fun c27_3 => ?_)
      · skip
        have hE := rdI_end hI (by omega)
        have hE2 := hE.2.1
        refine j_aload_n 0 dX9_cond_450 rfl rfl ?_
        refine j_getr f_X9_41 r_74_22 dX9_cond_451 ?_
        refine j_sipush dX9_cond_454 (by decide) ?_
        refine j_bipush dX9_cond_457 (by decide) ?_
        refine j_iload_n 1 dX9_cond_459 rfl rfl ?_
        refine j_imul dX9_cond_460 (by omega) ?_
        refine j_iadd dX9_cond_461 (by omega) ?_
        refine j_iconst dX9_cond_462 (by decide) ?_
        refine j_iadd dX9_cond_463 (by omega) ?_
        refine j_iload_n 3 dX9_cond_464 rfl rfl ?_
        refine j_iast a_85 dX9_cond_465 (by omega) (by omega) ?_
        refine j_nmM (fun M_4 eM_4 => ?_)
        refine j_aload_n 0 dX9_cond_466 rfl rfl ?_
        refine j_getr f_X9_41 r_74_22 dX9_cond_467 ?_
        refine j_sipush dX9_cond_470 (by decide) ?_
        refine j_bipush dX9_cond_473 (by decide) ?_
        refine j_iload_n 1 dX9_cond_475 rfl rfl ?_
        refine j_imul dX9_cond_476 (by omega) ?_
        refine j_iadd dX9_cond_477 (by omega) ?_
        refine j_bipush dX9_cond_478 (by decide) ?_
        refine j_iadd dX9_cond_480 (by omega) ?_
        refine j_aload_n 0 dX9_cond_481 rfl rfl ?_
        refine j_geti (k' := 24) f_X9_222 o_74_24 dX9_cond_482 rfl ?_
        refine j_eq (Eq.trans (congrFun ((congrFun eM_4 74).trans (jup_cell (by decide))) 24) (hrf.2.1 24 (by decide) (by decide) (by decide) (by decide) (by decide))) ?_
        refine j_iast a_85 dX9_cond_485 (by omega) (by omega) ?_
        refine j_nmM (fun M_5 eM_5 => ?_)
        refine j_aload_n 0 dX9_cond_486 rfl rfl ?_
        refine j_dup dX9_cond_487 rfl ?_
        refine j_geti (k' := 24) f_X9_222 o_74_24 dX9_cond_488 rfl ?_
        refine j_eq (Eq.trans (congrFun ((congrFun eM_5 74).trans (jup_cell (by decide))) 24) (Eq.trans (congrFun ((congrFun eM_4 74).trans (jup_cell (by decide))) 24) (hrf.2.1 24 (by decide) (by decide) (by decide) (by decide) (by decide)))) ?_
        refine j_iload_n 3 dX9_cond_491 rfl rfl ?_
        refine j_iadd dX9_cond_492 (by omega) ?_
        refine j_puti (k' := 24) f_X9_222 o_74_24 dX9_cond_493 rfl ?_
        refine j_nmM (fun M_6 eM_6 => ?_)
        refine j_vret rfl rfl rfl rfl dX9_cond_496 ?_
        rw [eM_6, eM_5, eM_4]; exact rdP_of hE hrf
      · skip
        refine j_aload_n 0 dX9_cond_30 rfl rfl ?_
        refine j_callVi l_X9_203 ⟨Nat.le_of_ble_eq_true rfl, Nat.le_of_ble_eq_true rfl⟩ ⟨rfl, rfl⟩ dX9_cond_31 ob_74 (c_X9_isWell N25) rfl rfl (Nat.le_of_ble_eq_true rfl) (fun r_7 M_8 h_9 => ?_)
        obtain ⟨er_7, nh_9⟩ := h_9
        refine j_eqM nh_9 ?_
        clear nh_9
        refine j_if_eq (tgt := 450) dX9_cond_34 (by decide) (fun c34_10 => ?_) (fun c34_10 => ?_)
        · skip
          have hE := rdI_end hI (by omega)
          have hE2 := hE.2.1
          refine j_aload_n 0 dX9_cond_450 rfl rfl ?_
          refine j_getr f_X9_41 r_74_22 dX9_cond_451 ?_
          refine j_sipush dX9_cond_454 (by decide) ?_
          refine j_bipush dX9_cond_457 (by decide) ?_
          refine j_iload_n 1 dX9_cond_459 rfl rfl ?_
          refine j_imul dX9_cond_460 (by omega) ?_
          refine j_iadd dX9_cond_461 (by omega) ?_
          refine j_iconst dX9_cond_462 (by decide) ?_
          refine j_iadd dX9_cond_463 (by omega) ?_
          refine j_iload_n 3 dX9_cond_464 rfl rfl ?_
          refine j_iast a_85 dX9_cond_465 (by omega) (by omega) ?_
          refine j_nmM (fun M_11 eM_11 => ?_)
          refine j_aload_n 0 dX9_cond_466 rfl rfl ?_
          refine j_getr f_X9_41 r_74_22 dX9_cond_467 ?_
          refine j_sipush dX9_cond_470 (by decide) ?_
          refine j_bipush dX9_cond_473 (by decide) ?_
          refine j_iload_n 1 dX9_cond_475 rfl rfl ?_
          refine j_imul dX9_cond_476 (by omega) ?_
          refine j_iadd dX9_cond_477 (by omega) ?_
          refine j_bipush dX9_cond_478 (by decide) ?_
          refine j_iadd dX9_cond_480 (by omega) ?_
          refine j_aload_n 0 dX9_cond_481 rfl rfl ?_
          refine j_geti (k' := 24) f_X9_222 o_74_24 dX9_cond_482 rfl ?_
          refine j_eq (Eq.trans (congrFun ((congrFun eM_11 74).trans (jup_cell (by decide))) 24) (hrf.2.1 24 (by decide) (by decide) (by decide) (by decide) (by decide))) ?_
          refine j_iast a_85 dX9_cond_485 (by omega) (by omega) ?_
          refine j_nmM (fun M_12 eM_12 => ?_)
          refine j_aload_n 0 dX9_cond_486 rfl rfl ?_
          refine j_dup dX9_cond_487 rfl ?_
          refine j_geti (k' := 24) f_X9_222 o_74_24 dX9_cond_488 rfl ?_
          refine j_eq (Eq.trans (congrFun ((congrFun eM_12 74).trans (jup_cell (by decide))) 24) (Eq.trans (congrFun ((congrFun eM_11 74).trans (jup_cell (by decide))) 24) (hrf.2.1 24 (by decide) (by decide) (by decide) (by decide) (by decide)))) ?_
          refine j_iload_n 3 dX9_cond_491 rfl rfl ?_
          refine j_iadd dX9_cond_492 (by omega) ?_
          refine j_puti (k' := 24) f_X9_222 o_74_24 dX9_cond_493 rfl ?_
          refine j_nmM (fun M_13 eM_13 => ?_)
          refine j_vret rfl rfl rfl rfl dX9_cond_496 ?_
          rw [eM_13, eM_12, eM_11]; exact rdP_of hE hrf
        · skip
          obtain ⟨s, r, w, o, p, zf, hv, hw6, h71, hR, hg, hs, hp, hT⟩ := rdI_act hI (by omega) (by omega)
          have zE14 : N25 74 14 = M 74 14 := hrf.2.1 14 (by decide) (by decide) (by decide) (by decide) (by decide)
          have hsn := (rP_well hp hs.1).2.2.2.2.2
          have hpp := gWf_o _ _ _ _ hg
          have zh16 := (rP_well hp hs.1).2.2.1
          have zh18 := (rP_well hp hs.1).2.2.2.1
          clear hI
          refine j_iload 6 dX9_cond_37 rfl ?_
          refine j_if_eq (tgt := 361) dX9_cond_39 (by decide) (fun c39_14 => ?_) (fun c39_14 => ?_)
          · skip
            have hw : w = false := by rcases hw6 with ⟨_, z⟩ | ⟨z, _⟩; (· omega); (· exact z)
            subst hw
            have ct379_15 : (lK b s = 3 ∧ (lV b s = 38 ∨ lV b s = 124)) → jG D_X9_cond X FJ shJ 0 0 (jqV (q_X9_cond M b q i)) 379 [(0, jR 74), (1, jI i), (2, jI v2_1), (3, jI v3), (4, jI v4), (5, jI v5), (6, jI v6), (7, jI v7)] ([]) N25 := by
              intro   hinv
              have k379 := hinv
              have hw := rP_well hp hs.1
              have h18 : N25 74 18 = lV b s := hw.2.2.2.1 (by omega) (by omega)
              obtain ⟨zg, rfl⟩ : ∃ zg, zf = zg + 1 := ⟨zf - 1, by omega⟩
              have nx := lNx_lt hbk hs.1 (by omega) (by omega)
              refine j_aload_n 0 dX9_cond_379 rfl rfl ?_
              refine j_iload_n 2 dX9_cond_380 rfl rfl ?_
              refine j_iload_n 3 dX9_cond_381 rfl rfl ?_
              refine j_aload_n 0 dX9_cond_382 rfl rfl ?_
              refine j_geti (k' := 18) f_X9_194 o_74_18 dX9_cond_383 rfl ?_
              refine j_callVi l_X9_225 ⟨Nat.le_of_ble_eq_true rfl, Nat.le_of_ble_eq_true rfl⟩ ⟨rfl, rfl⟩ dX9_cond_386 ob_74 (c_X9_waits N25 v2_1 v3 ((N25 74 18)) (by omega)) rfl rfl (Nat.le_of_ble_eq_true rfl) (fun r_16 M_17 h_18 => ?_)
              have wth_18 := h_18
              unfold q_X9_waits at wth_18
              have wfh_18 := wt_fr wth_18
              have frh_18 := wfh_18.1
              rw [h18] at wth_18
              have wfx := wfh_18
              have hp1 : rP b M_17 s := rP_fr86 hp wfx.1
              have zE14b : M_17 74 14 = M 74 14 := by rw [wfx.1 74 (by decide)]; exact zE14
              have hf1 : rdF (2000 + 2 * M 74 24) N25 M_17 := rdF_fr86 wfx.1 wfx.2.1 (by rw [ev2_1]; omega)
              have wtx := wth_18
              have h18b : M_17 74 18 = lV b s := by rw [wfx.1 74 (by decide)]; exact h18
              refine j_istore_n (ls' := [(0, jR 74), (1, jI i), (2, jI v2_1), (3, jI r_16), (4, jI v4), (5, jI v5), (6, jI v6), (7, jI v7)]) dX9_cond_389 rfl (by decide) rfl ?_
              refine j_iconst dX9_cond_390 (by decide) ?_
              refine j_istore (ls' := [(0, jR 74), (1, jI i), (2, jI v2_1), (3, jI r_16), (4, jI v4), (5, jI v5), (6, jI 1), (7, jI v7)]) dX9_cond_391 (by decide) rfl ?_
              refine j_aload_n 0 dX9_cond_393 rfl rfl ?_
              refine j_callVv l_X9_210 ⟨Nat.le_of_ble_eq_true rfl, Nat.le_of_ble_eq_true rfl⟩ ⟨rfl, rfl⟩ dX9_cond_394 ob_74 (c_X9_advances M_17 b (by rw [(Eq.trans (congrFun (frh_18 74 (by decide)) 14) (hrf.2.1 14 (by decide) (by decide) (by decide) (by decide) (by decide)))]; exact h_rtyped) (by rw [(Eq.trans (frh_18 84 (by decide)) (hrf.1 84 (by decide) (by decide)))]; exact h_rtext) (by rw [(Eq.trans (frh_18 75 (by decide)) (hrf.1 75 (by decide) (by decide)))]; exact h_rwords) hp1.1 (rP_pre2 hp1 hs.1 hbk (by first | exact zE14 | exact zE14b))) rfl rfl (Nat.le_of_ble_eq_true rfl) (fun M_20 h_21 => ?_)
              have adh_21 := h_21
              unfold q_X9_advances at adh_21
              have frh_21 := adh_21.2.2.1
              have hp2 := rP_adv hp1 hs.1 adh_21
              have fA := rF2_of adh_21.2.2
              have hF : rdF (2000 + 2 * M 74 24) M M_20 := rdF_tr hrf (rdF_tr hf1 (rdF_2 fA))
              have zFin : rdI b q (2000 + 2 * M 74 24) M M_20 (pCd b 901 q [] true 0 0) r_16 v4 v5 1 v7 := by
                rw [pCd_sg k379] at hR
                have hz := wt_c (c := lV b s) (by omega) (by omega) hT hv.1 (by rw [ev2_1] at wtx; exact wtx)
                exact rdI_A (lNx b s) ((lV b s, 0) :: r) true o p zg ⟨⟨hz.2, hv.2.1, hv.2.2⟩, Or.inl ⟨rfl, by omega⟩, h71, hR, gWf_sg k379.2 hg, ⟨by omega, by omega, by simp only [List.length_cons]; omega⟩, hp2, rTks_2 hz.1 fA⟩ hF
              refine j_goto (tgt := 25) dX9_cond_397 (by decide) ?_
              exact ih25 r_16 v4 v5 1 v7 M_20 (by first | exact zFin | (rw [jup_zz]; exact zFin)) (by first | exact rdMs_lt hm hp hs.1 (by omega) h71 hp2 (Or.inr (by omega)) | exact rdMs_lt hm hp hs.1 (by omega) h71 rkh_21 (Or.inl (fl_neg hs.1)) | exact rdMs_lt (s' := pT3 b s) hm hp hs.1 (by omega) h71 (by rw [jup_zz]; exact rP_86 (rP_86 hp3)) (by have p3 := pT3_in hbk hs.1 (by omega) k157.1; omega) | exact rdMs_0 hm hp hs.1 (by omega) h71)
            refine j_aload_n 0 dX9_cond_361 rfl rfl ?_
            refine j_bipush dX9_cond_362 (by decide) ?_
            refine j_callVi l_X9_207 ⟨Nat.le_of_ble_eq_true rfl, Nat.le_of_ble_eq_true rfl⟩ ⟨rfl, rfl⟩ dX9_cond_364 ob_74 (c_X9_isSign N25 b s 38 hp) rfl rfl (Nat.le_of_ble_eq_true rfl) (fun r_22 M_23 h_24 => ?_)
            obtain ⟨er_22, nh_24⟩ := h_24
            refine j_eqM nh_24 ?_
            clear nh_24
            refine j_if_ne (tgt := 379) dX9_cond_367 (by decide) (fun c367_25 => ?_) (fun c367_25 => ?_)
            · skip
              exact ct379_15  (by first | omega | grind)
            · skip
              refine j_aload_n 0 dX9_cond_370 rfl rfl ?_
              refine j_bipush dX9_cond_371 (by decide) ?_
              refine j_callVi l_X9_207 ⟨Nat.le_of_ble_eq_true rfl, Nat.le_of_ble_eq_true rfl⟩ ⟨rfl, rfl⟩ dX9_cond_373 ob_74 (c_X9_isSign N25 b s 124 hp) rfl rfl (Nat.le_of_ble_eq_true rfl) (fun r_26 M_27 h_28 => ?_)
              obtain ⟨er_26, nh_28⟩ := h_28
              refine j_eqM nh_28 ?_
              clear nh_28
              refine j_if_eq (tgt := 400) dX9_cond_376 (by decide) (fun c376_29 => ?_) (fun c376_29 => ?_)
              · skip
                refine j_aload_n 0 dX9_cond_400 rfl rfl ?_
                refine j_bipush dX9_cond_401 (by decide) ?_
                refine j_callVi l_X9_207 ⟨Nat.le_of_ble_eq_true rfl, Nat.le_of_ble_eq_true rfl⟩ ⟨rfl, rfl⟩ dX9_cond_403 ob_74 (c_X9_isSign N25 b s 41 hp) rfl rfl (Nat.le_of_ble_eq_true rfl) (fun r_30 M_31 h_32 => ?_)
                obtain ⟨er_30, nh_32⟩ := h_32
                refine j_eqM nh_32 ?_
                clear nh_32
                refine j_if_eq (tgt := 435) dX9_cond_406 (by decide) (fun c406_33 => ?_) (fun c406_33 => ?_)
                · skip
                  obtain ⟨zg, rfl⟩ : ∃ zg, zf = zg + 1 := ⟨zf - 1, by omega⟩
                  rw [pCd_e (by omega) (by omega)] at hR
                  refine j_iconst dX9_cond_435 (by decide) ?_
                  refine j_istore (ls' := [(0, jR 74), (1, jI i), (2, jI v2_1), (3, jI v3), (4, jI v4), (5, jI v5), (6, jI v6), (7, jI 0)]) dX9_cond_436 (by decide) rfl ?_
                  refine j_iload 4 dX9_cond_438 rfl ?_
                  refine j_if_le (tgt := 25) dX9_cond_440 (by decide) (fun c440_34 => ?_) (fun c440_34 => ?_)
                  · skip
                    have zFin : rdI b q (2000 + 2 * M 74 24) M N25 (pCd b 901 q [] true 0 0) v3 v4 v5 v6 0 := by
                      rw [if_neg (by omega)] at hR; rw [← hR]; exact rdI_E ⟨Or.inl rfl, by omega, hp, fun _ => ⟨hT, hv.1⟩⟩ hrf
                    exact ih25 v3 v4 v5 v6 0 N25 (by first | exact zFin | (rw [jup_zz]; exact zFin)) (by first | exact rdMs_lt hm hp hs.1 (by omega) h71 hp2 (Or.inr (by omega)) | exact rdMs_lt hm hp hs.1 (by omega) h71 rkh_32 (Or.inl (fl_neg hs.1)) | exact rdMs_lt (s' := pT3 b s) hm hp hs.1 (by omega) h71 (by rw [jup_zz]; exact rP_86 (rP_86 hp3)) (by have p3 := pT3_in hbk hs.1 (by omega) k157.1; omega) | exact rdMs_0 hm hp hs.1 (by omega) h71)
                  · skip
                    refine j_aload_n 0 dX9_cond_443 rfl rfl ?_
                    refine j_callVv l_X9_213 ⟨Nat.le_of_ble_eq_true rfl, Nat.le_of_ble_eq_true rfl⟩ ⟨rfl, rfl⟩ dX9_cond_444 ob_74 (c_X9_fails N25 b s hp) rfl rfl (Nat.le_of_ble_eq_true rfl) (fun M_36 h_37 => ?_)
                    obtain ⟨rkh_37, fkh_37⟩ := h_37
                    have frh_37 := fkh_37.1
                    have zFin : rdI b q (2000 + 2 * M 74 24) M M_36 (pCd b 901 q [] true 0 0) v3 v4 v5 v6 0 := by
                      rw [if_pos (by omega)] at hR; rw [← hR]; exact rdI_E (rdE_fl hs.1 (by omega) rkh_37) (rdF_tr hrf (rdF_2 fkh_37))
                    refine j_goto (tgt := 25) dX9_cond_447 (by decide) ?_
                    exact ih25 v3 v4 v5 v6 0 M_36 (by first | exact zFin | (rw [jup_zz]; exact zFin)) (by first | exact rdMs_lt hm hp hs.1 (by omega) h71 hp2 (Or.inr (by omega)) | exact rdMs_lt hm hp hs.1 (by omega) h71 rkh_37 (Or.inl (fl_neg hs.1)) | exact rdMs_lt (s' := pT3 b s) hm hp hs.1 (by omega) h71 (by rw [jup_zz]; exact rP_86 (rP_86 hp3)) (by have p3 := pT3_in hbk hs.1 (by omega) k157.1; omega) | exact rdMs_0 hm hp hs.1 (by omega) h71)
                · skip
                  refine j_iload 4 dX9_cond_409 rfl ?_
                  refine j_if_le (tgt := 435) dX9_cond_411 (by decide) (fun c411_38 => ?_) (fun c411_38 => ?_)
                  · skip
                    obtain ⟨zg, rfl⟩ : ∃ zg, zf = zg + 1 := ⟨zf - 1, by omega⟩
                    rw [pCd_e (by omega) (by omega)] at hR
                    refine j_iconst dX9_cond_435 (by decide) ?_
                    refine j_istore (ls' := [(0, jR 74), (1, jI i), (2, jI v2_1), (3, jI v3), (4, jI v4), (5, jI v5), (6, jI v6), (7, jI 0)]) dX9_cond_436 (by decide) rfl ?_
                    refine j_iload 4 dX9_cond_438 rfl ?_
                    refine j_if_le (tgt := 25) dX9_cond_440 (by decide) (fun c440_39 => ?_) (fun c440_39 => ?_)
                    · skip
                      have zFin : rdI b q (2000 + 2 * M 74 24) M N25 (pCd b 901 q [] true 0 0) v3 v4 v5 v6 0 := by
                        rw [if_neg (by omega)] at hR; rw [← hR]; exact rdI_E ⟨Or.inl rfl, by omega, hp, fun _ => ⟨hT, hv.1⟩⟩ hrf
                      exact ih25 v3 v4 v5 v6 0 N25 (by first | exact zFin | (rw [jup_zz]; exact zFin)) (by first | exact rdMs_lt hm hp hs.1 (by omega) h71 hp2 (Or.inr (by omega)) | exact rdMs_lt hm hp hs.1 (by omega) h71 rkh_32 (Or.inl (fl_neg hs.1)) | exact rdMs_lt (s' := pT3 b s) hm hp hs.1 (by omega) h71 (by rw [jup_zz]; exact rP_86 (rP_86 hp3)) (by have p3 := pT3_in hbk hs.1 (by omega) k157.1; omega) | exact rdMs_0 hm hp hs.1 (by omega) h71)
                    · skip
                      refine j_aload_n 0 dX9_cond_443 rfl rfl ?_
                      refine j_callVv l_X9_213 ⟨Nat.le_of_ble_eq_true rfl, Nat.le_of_ble_eq_true rfl⟩ ⟨rfl, rfl⟩ dX9_cond_444 ob_74 (c_X9_fails N25 b s hp) rfl rfl (Nat.le_of_ble_eq_true rfl) (fun M_41 h_42 => ?_)
                      obtain ⟨rkh_42, fkh_42⟩ := h_42
                      have frh_42 := fkh_42.1
                      have zFin : rdI b q (2000 + 2 * M 74 24) M M_41 (pCd b 901 q [] true 0 0) v3 v4 v5 v6 0 := by
                        rw [if_pos (by omega)] at hR; rw [← hR]; exact rdI_E (rdE_fl hs.1 (by omega) rkh_42) (rdF_tr hrf (rdF_2 fkh_42))
                      refine j_goto (tgt := 25) dX9_cond_447 (by decide) ?_
                      exact ih25 v3 v4 v5 v6 0 M_41 (by first | exact zFin | (rw [jup_zz]; exact zFin)) (by first | exact rdMs_lt hm hp hs.1 (by omega) h71 hp2 (Or.inr (by omega)) | exact rdMs_lt hm hp hs.1 (by omega) h71 rkh_42 (Or.inl (fl_neg hs.1)) | exact rdMs_lt (s' := pT3 b s) hm hp hs.1 (by omega) h71 (by rw [jup_zz]; exact rP_86 (rP_86 hp3)) (by have p3 := pT3_in hbk hs.1 (by omega) k157.1; omega) | exact rdMs_0 hm hp hs.1 (by omega) h71)
                  · skip
                    have hw := rP_well hp hs.1
                    have h18 : N25 74 18 = lV b s := hw.2.2.2.1 (by omega) (by omega)
                    obtain ⟨zg, rfl⟩ : ∃ zg, zf = zg + 1 := ⟨zf - 1, by omega⟩
                    have nx := lNx_lt hbk hs.1 (by omega) (by omega)
                    refine j_aload_n 0 dX9_cond_414 rfl rfl ?_
                    refine j_iload_n 2 dX9_cond_415 rfl rfl ?_
                    refine j_iload_n 3 dX9_cond_416 rfl rfl ?_
                    refine j_aload_n 0 dX9_cond_417 rfl rfl ?_
                    refine j_geti (k' := 18) f_X9_194 o_74_18 dX9_cond_418 rfl ?_
                    refine j_callVi l_X9_225 ⟨Nat.le_of_ble_eq_true rfl, Nat.le_of_ble_eq_true rfl⟩ ⟨rfl, rfl⟩ dX9_cond_421 ob_74 (c_X9_waits N25 v2_1 v3 ((N25 74 18)) (by omega)) rfl rfl (Nat.le_of_ble_eq_true rfl) (fun r_43 M_44 h_45 => ?_)
                    have wth_45 := h_45
                    unfold q_X9_waits at wth_45
                    have wfh_45 := wt_fr wth_45
                    have frh_45 := wfh_45.1
                    rw [h18] at wth_45
                    have wfx := wfh_45
                    have hp1 : rP b M_44 s := rP_fr86 hp wfx.1
                    have zE14b : M_44 74 14 = M 74 14 := by rw [wfx.1 74 (by decide)]; exact zE14
                    have hf1 : rdF (2000 + 2 * M 74 24) N25 M_44 := rdF_fr86 wfx.1 wfx.2.1 (by rw [ev2_1]; omega)
                    have wtx := wth_45
                    have h18b : M_44 74 18 = lV b s := by rw [wfx.1 74 (by decide)]; exact h18
                    refine j_istore_n (ls' := [(0, jR 74), (1, jI i), (2, jI v2_1), (3, jI r_43), (4, jI v4), (5, jI v5), (6, jI v6), (7, jI v7)]) dX9_cond_424 rfl (by decide) rfl ?_
                    obtain ⟨v4_46, ev4_46⟩ : ∃ y : Int, y = v4 + (-1) := ⟨_, rfl⟩
                    refine j_iinc (y := v4_46) (ls' := [(0, jR 74), (1, jI i), (2, jI v2_1), (3, jI r_43), (4, jI v4_46), (5, jI v5), (6, jI v6), (7, jI v7)]) 4 dX9_cond_425 rfl ev4_46 (by omega) (by decide) rfl ?_
                    refine j_aload_n 0 dX9_cond_428 rfl rfl ?_
                    refine j_callVv l_X9_210 ⟨Nat.le_of_ble_eq_true rfl, Nat.le_of_ble_eq_true rfl⟩ ⟨rfl, rfl⟩ dX9_cond_429 ob_74 (c_X9_advances M_44 b (by rw [(Eq.trans (congrFun (frh_45 74 (by decide)) 14) (hrf.2.1 14 (by decide) (by decide) (by decide) (by decide) (by decide)))]; exact h_rtyped) (by rw [(Eq.trans (frh_45 84 (by decide)) (hrf.1 84 (by decide) (by decide)))]; exact h_rtext) (by rw [(Eq.trans (frh_45 75 (by decide)) (hrf.1 75 (by decide) (by decide)))]; exact h_rwords) hp1.1 (rP_pre2 hp1 hs.1 hbk (by first | exact zE14 | exact zE14b))) rfl rfl (Nat.le_of_ble_eq_true rfl) (fun M_48 h_49 => ?_)
                    have adh_49 := h_49
                    unfold q_X9_advances at adh_49
                    have frh_49 := adh_49.2.2.1
                    have hp2 := rP_adv hp1 hs.1 adh_49
                    have fA := rF2_of adh_49.2.2
                    have hF : rdF (2000 + 2 * M 74 24) M M_48 := rdF_tr hrf (rdF_tr hf1 (rdF_2 fA))
                    have zFin : rdI b q (2000 + 2 * M 74 24) M M_48 (pCd b 901 q [] true 0 0) r_43 v4_46 v5 v6 v7 := by
                      rw [pCd_41 (by omega) (by omega)] at hR
                      have hz := wt_c (c := 41) (by omega) (by omega) hT hv.1 (by rw [ev2_1, show lV b s = 41 by omega] at wtx; exact wtx)
                      exact rdI_A (lNx b s) ((41, 0) :: r) false (o - 1) p zg ⟨⟨hz.2, by omega, hv.2.2⟩, Or.inr ⟨rfl, by omega⟩, h71, hR, gWf_cl (by omega) hg, ⟨by omega, by omega, by simp only [List.length_cons]; omega⟩, hp2, rTks_2 hz.1 fA⟩ hF
                    refine j_goto (tgt := 25) dX9_cond_432 (by decide) ?_
                    exact ih25 r_43 v4_46 v5 v6 v7 M_48 (by first | exact zFin | (rw [jup_zz]; exact zFin)) (by first | exact rdMs_lt hm hp hs.1 (by omega) h71 hp2 (Or.inr (by omega)) | exact rdMs_lt hm hp hs.1 (by omega) h71 rkh_49 (Or.inl (fl_neg hs.1)) | exact rdMs_lt (s' := pT3 b s) hm hp hs.1 (by omega) h71 (by rw [jup_zz]; exact rP_86 (rP_86 hp3)) (by have p3 := pT3_in hbk hs.1 (by omega) k157.1; omega) | exact rdMs_0 hm hp hs.1 (by omega) h71)
              · skip
                exact ct379_15  (by first | omega | grind)
          · skip
            have hw : w = true := by rcases hw6 with ⟨z, _⟩ | ⟨_, z⟩; (· exact z); (· omega)
            subst hw
            have ct67_50 : (lK b s = 3 ∧ (lV b s = 33 ∨ (lV b s = 40 ∧ o < 10))) → jG D_X9_cond X FJ shJ 0 0 (jqV (q_X9_cond M b q i)) 67 [(0, jR 74), (1, jI i), (2, jI v2_1), (3, jI v3), (4, jI v4), (5, jI v5), (6, jI v6), (7, jI v7)] ([]) N25 := by
              intro   hinv
              have k67 := hinv
              have hw := rP_well hp hs.1
              have h18 : N25 74 18 = lV b s := hw.2.2.2.1 (by omega) (by omega)
              obtain ⟨zg, rfl⟩ : ∃ zg, zf = zg + 1 := ⟨zf - 1, by omega⟩
              have nx := lNx_lt hbk hs.1 (by omega) (by omega)
              refine j_aload_n 0 dX9_cond_67 rfl rfl ?_
              refine j_iload_n 2 dX9_cond_68 rfl rfl ?_
              refine j_iload_n 3 dX9_cond_69 rfl rfl ?_
              refine j_aload_n 0 dX9_cond_70 rfl rfl ?_
              refine j_geti (k' := 18) f_X9_194 o_74_18 dX9_cond_71 rfl ?_
              refine j_callVi l_X9_225 ⟨Nat.le_of_ble_eq_true rfl, Nat.le_of_ble_eq_true rfl⟩ ⟨rfl, rfl⟩ dX9_cond_74 ob_74 (c_X9_waits N25 v2_1 v3 ((N25 74 18)) (by omega)) rfl rfl (Nat.le_of_ble_eq_true rfl) (fun r_51 M_52 h_53 => ?_)
              have wth_53 := h_53
              unfold q_X9_waits at wth_53
              have wfh_53 := wt_fr wth_53
              have frh_53 := wfh_53.1
              rw [h18] at wth_53
              have wfx := wfh_53
              have hp1 : rP b M_52 s := rP_fr86 hp wfx.1
              have zE14b : M_52 74 14 = M 74 14 := by rw [wfx.1 74 (by decide)]; exact zE14
              have hf1 : rdF (2000 + 2 * M 74 24) N25 M_52 := rdF_fr86 wfx.1 wfx.2.1 (by rw [ev2_1]; omega)
              have wtx := wth_53
              have h18b : M_52 74 18 = lV b s := by rw [wfx.1 74 (by decide)]; exact h18
              refine j_istore_n (ls' := [(0, jR 74), (1, jI i), (2, jI v2_1), (3, jI r_51), (4, jI v4), (5, jI v5), (6, jI v6), (7, jI v7)]) dX9_cond_77 rfl (by decide) rfl ?_
              refine j_iload 4 dX9_cond_78 rfl ?_
              refine j_aload_n 0 dX9_cond_80 rfl rfl ?_
              refine j_geti (k' := 18) f_X9_194 o_74_18 dX9_cond_81 rfl ?_
              refine j_eq (congrFun (frh_53 74 (by decide)) 18) ?_
              refine j_bipush dX9_cond_84 (by decide) ?_
              have hJ_54 : ∀ zz : Int, (¬ (N25 74 18) = 40 ∧ zz = 0) ∨ ((N25 74 18) = 40 ∧ zz = 1) → jG D_X9_cond X FJ shJ 0 0 (jqV (q_X9_cond M b q i)) 94 [(0, jR 74), (1, jI i), (2, jI v2_1), (3, jI r_51), (4, jI v4), (5, jI v5), (6, jI v6), (7, jI v7)] (jI zz :: jI v4 :: []) M_52 := by
                intro t_55 et_55
                refine j_iadd dX9_cond_94 (by omega) ?_
                refine j_nm (fun v4_56 ev4_56 => ?_)
                refine j_istore (ls' := [(0, jR 74), (1, jI i), (2, jI v2_1), (3, jI r_51), (4, jI v4_56), (5, jI v5), (6, jI v6), (7, jI v7)]) dX9_cond_95 (by decide) rfl ?_
                refine j_aload_n 0 dX9_cond_97 rfl rfl ?_
                refine j_callVv l_X9_210 ⟨Nat.le_of_ble_eq_true rfl, Nat.le_of_ble_eq_true rfl⟩ ⟨rfl, rfl⟩ dX9_cond_98 ob_74 (c_X9_advances M_52 b (by rw [(Eq.trans (congrFun (frh_53 74 (by decide)) 14) (hrf.2.1 14 (by decide) (by decide) (by decide) (by decide) (by decide)))]; exact h_rtyped) (by rw [(Eq.trans (frh_53 84 (by decide)) (hrf.1 84 (by decide) (by decide)))]; exact h_rtext) (by rw [(Eq.trans (frh_53 75 (by decide)) (hrf.1 75 (by decide) (by decide)))]; exact h_rwords) hp1.1 (rP_pre2 hp1 hs.1 hbk (by first | exact zE14 | exact zE14b))) rfl rfl (Nat.le_of_ble_eq_true rfl) (fun M_58 h_59 => ?_)
                have adh_59 := h_59
                unfold q_X9_advances at adh_59
                have frh_59 := adh_59.2.2.1
                have hp2 := rP_adv hp1 hs.1 adh_59
                have fA := rF2_of adh_59.2.2
                have hF : rdF (2000 + 2 * M 74 24) M M_58 := rdF_tr hrf (rdF_tr hf1 (rdF_2 fA))
                have zFin : rdI b q (2000 + 2 * M 74 24) M M_58 (pCd b 901 q [] true 0 0) r_51 v4_56 v5 v6 v7 := by
                  rcases k67.2 with z | z
                  · rw [pCd_33 ⟨k67.1, z⟩] at hR
                    have hz := wt_33 hT hv.1 (by rw [ev2_1, z] at wtx; exact wtx)
                    exact rdI_A (lNx b s) (p33 r) true o p zg ⟨⟨hz.2, by omega, hv.2.2⟩, Or.inl ⟨rfl, by omega⟩, h71, hR, (p33_wf hg).1, ⟨by omega, by omega, by have := (p33_wf hg).2; omega⟩, hp2, rTks_2 hz.1 fA⟩ hF
                  · rw [pCd_40 ⟨k67.1, z.1⟩ z.2] at hR
                    have hz := wt_c (c := 40) (by omega) (by omega) hT hv.1 (by rw [ev2_1, z.1] at wtx; exact wtx)
                    exact rdI_A (lNx b s) ((40, 0) :: r) true (o + 1) p zg ⟨⟨hz.2, by omega, hv.2.2⟩, Or.inl ⟨rfl, by omega⟩, h71, hR, gWf_op z.2 hg, ⟨by omega, by omega, by simp only [List.length_cons]; omega⟩, hp2, rTks_2 hz.1 fA⟩ hF
                refine j_goto (tgt := 25) dX9_cond_101 (by decide) ?_
                exact ih25 r_51 v4_56 v5 v6 v7 M_58 (by first | exact zFin | (rw [jup_zz]; exact zFin)) (by first | exact rdMs_lt hm hp hs.1 (by omega) h71 hp2 (Or.inr (by omega)) | exact rdMs_lt hm hp hs.1 (by omega) h71 rkh_59 (Or.inl (fl_neg hs.1)) | exact rdMs_lt (s' := pT3 b s) hm hp hs.1 (by omega) h71 (by rw [jup_zz]; exact rP_86 (rP_86 hp3)) (by have p3 := pT3_in hbk hs.1 (by omega) k157.1; omega) | exact rdMs_0 hm hp hs.1 (by omega) h71)
              refine j_icmp_ne (tgt := 93) dX9_cond_86 (by decide) (fun c86_60 => ?_) (fun c86_60 => ?_)
              · skip
                refine j_iconst dX9_cond_93 (by decide) ?_
                exact hJ_54 _ (Or.inl ⟨c86_60, rfl⟩)
              · skip
                refine j_iconst dX9_cond_89 (by decide) ?_
                refine j_goto (tgt := 94) dX9_cond_90 (by decide) ?_
                exact hJ_54 _ (Or.inr (⟨c86_60, rfl⟩))
            have ct157_61 : (lK b s = 1 ∧ isTW (lV b s)) → jG D_X9_cond X FJ shJ 0 0 (jqV (q_X9_cond M b q i)) 157 [(0, jR 74), (1, jI i), (2, jI v2_1), (3, jI v3), (4, jI v4), (5, jI v5), (6, jI v6), (7, jI v7)] ([]) N25 := by
              intro   hinv
              have k157 := hinv
              have hw := rP_well hp hs.1
              have h18 : N25 74 18 = lV b s := hw.2.2.2.1 (by omega) (by omega)
              obtain ⟨zg, rfl⟩ : ∃ zg, zf = zg + 1 := ⟨zf - 1, by omega⟩
              have nx := lNx_lt hbk hs.1 (by omega) (by omega)
              refine j_iload 5 dX9_cond_157 rfl ?_
              refine j_bipush dX9_cond_159 (by decide) ?_
              refine j_icmp_ge (tgt := 354) dX9_cond_161 (by decide) (fun c161_62 => ?_) (fun c161_62 => ?_)
              · skip
                refine j_aload_n 0 dX9_cond_354 rfl rfl ?_
                refine j_callVv l_X9_213 ⟨Nat.le_of_ble_eq_true rfl, Nat.le_of_ble_eq_true rfl⟩ ⟨rfl, rfl⟩ dX9_cond_355 ob_74 (c_X9_fails N25 b s hp) rfl rfl (Nat.le_of_ble_eq_true rfl) (fun M_64 h_65 => ?_)
                obtain ⟨rkh_65, fkh_65⟩ := h_65
                have frh_65 := fkh_65.1
                have zFin : rdI b q (2000 + 2 * M 74 24) M M_64 (pCd b 901 q [] true 0 0) v3 v4 v5 v6 v7 := by
                  (first | (obtain ⟨zg, rfl⟩ : ∃ zg, zf = zg + 1 := ⟨zf - 1, by omega⟩; first | rw [pCd_no (by omega) (by omega) (by omega)] at hR | rw [pCd_40x (by omega) (by omega)] at hR) | rw [pCd_no (by omega) (by omega) (by omega)] at hR | rw [pCd_40x (by omega) (by omega)] at hR)
                  rw [← hR]; exact rdI_E (rdE_fl hs.1 (by omega) rkh_65) (rdF_tr hrf (rdF_2 fkh_65))
                refine j_goto (tgt := 25) dX9_cond_358 (by decide) ?_
                exact ih25 v3 v4 v5 v6 v7 M_64 (by first | exact zFin | (rw [jup_zz]; exact zFin)) (by first | exact rdMs_lt hm hp hs.1 (by omega) h71 hp2 (Or.inr (by omega)) | exact rdMs_lt hm hp hs.1 (by omega) h71 rkh_65 (Or.inl (fl_neg hs.1)) | exact rdMs_lt (s' := pT3 b s) hm hp hs.1 (by omega) h71 (by rw [jup_zz]; exact rP_86 (rP_86 hp3)) (by have p3 := pT3_in hbk hs.1 (by omega) k157.1; omega) | exact rdMs_0 hm hp hs.1 (by omega) h71)
              · skip
                refine j_aload_n 0 dX9_cond_164 rfl rfl ?_
                refine j_geti (k' := 18) f_X9_194 o_74_18 dX9_cond_165 rfl ?_
                refine j_nm (fun v8_66 ev8_66 => ?_)
                refine j_istore (ls' := [(0, jR 74), (1, jI i), (2, jI v2_1), (3, jI v3), (4, jI v4), (5, jI v5), (6, jI v6), (7, jI v7), (8, jI v8_66)]) dX9_cond_168 (by decide) rfl ?_
                obtain ⟨v5_67, ev5_67⟩ : ∃ y : Int, y = v5 + 1 := ⟨_, rfl⟩
                refine j_iinc (y := v5_67) (ls' := [(0, jR 74), (1, jI i), (2, jI v2_1), (3, jI v3), (4, jI v4), (5, jI v5_67), (6, jI v6), (7, jI v7), (8, jI v8_66)]) 5 dX9_cond_170 rfl ev5_67 (by omega) (by decide) rfl ?_
                refine j_aload_n 0 dX9_cond_173 rfl rfl ?_
                refine j_callVv l_X9_210 ⟨Nat.le_of_ble_eq_true rfl, Nat.le_of_ble_eq_true rfl⟩ ⟨rfl, rfl⟩ dX9_cond_174 ob_74 (c_X9_advances N25 b (by rw [(hrf.2.1 14 (by decide) (by decide) (by decide) (by decide) (by decide))]; exact h_rtyped) (by rw [(hrf.1 84 (by decide) (by decide))]; exact h_rtext) (by rw [(hrf.1 75 (by decide) (by decide))]; exact h_rwords) hp.1 (rP_pre2 hp hs.1 hbk (by first | exact zE14 | exact zE14b))) rfl rfl (Nat.le_of_ble_eq_true rfl) (fun M_69 h_70 => ?_)
                have adh_70 := h_70
                unfold q_X9_advances at adh_70
                have frh_70 := adh_70.2.2.1
                have hp1 := rP_adv hp hs.1 adh_70
                have fA := rF2_of adh_70.2.2
                have zE14b : M_69 74 14 = M 74 14 := by rw [fA.2 14 (by decide) (by decide) (by decide) (by decide) (by decide)]; exact zE14
                have nx0 : 0 ≤ lNx b s := by omega
                refine j_bipush dX9_cond_177 (by decide) ?_
                refine j_istore (ls' := [(0, jR 74), (1, jI i), (2, jI v2_1), (3, jI v3), (4, jI v4), (5, jI v5_67), (6, jI v6), (7, jI v7), (8, jI v8_66), (9, jI 6)]) dX9_cond_179 (by decide) rfl ?_
                refine j_iconst dX9_cond_181 (by decide) ?_
                refine j_istore (ls' := [(0, jR 74), (1, jI i), (2, jI v2_1), (3, jI v3), (4, jI v4), (5, jI v5_67), (6, jI v6), (7, jI v7), (8, jI v8_66), (9, jI 6), (10, jI 0)]) dX9_cond_182 (by decide) rfl ?_
                have ct319_71 : ∀ (u9 u10 : Int), ∀ K319 : jM, (rP b K319 (pT3 b s)) ∧ (rF2 N25 K319) ∧ (0 ≤ pT3 b s → u9 = pTo b (lV b s) (lNx b s) ∧ u10 = pTn b s) → jG D_X9_cond X FJ shJ 0 0 (jqV (q_X9_cond M b q i)) 319 [(0, jR 74), (1, jI i), (2, jI v2_1), (3, jI v3), (4, jI v4), (5, jI v5_67), (6, jI v6), (7, jI v7), (8, jI v8_66), (9, jI u9), (10, jI u10)] ([]) K319 := by
                  intro u9 u10 K319 hinv
                  obtain ⟨hp3, hf3, h910⟩ := hinv
                  refine j_aload_n 0 dX9_cond_319 rfl rfl ?_
                  refine j_getr f_X9_44 r_74_23 dX9_cond_320 ?_
                  refine j_iload_n 2 dX9_cond_323 rfl rfl ?_
                  refine j_iconst dX9_cond_324 (by decide) ?_
                  refine j_iload_n 3 dX9_cond_325 rfl rfl ?_
                  refine j_imul dX9_cond_326 (by omega) ?_
                  refine j_iadd dX9_cond_327 (by omega) ?_
                  refine j_iload 9 dX9_cond_328 rfl ?_
                  refine j_iast a_86 dX9_cond_330 (by omega) (by omega) ?_
                  refine j_nmM (fun M_72 eM_72 => ?_)
                  refine j_aload_n 0 dX9_cond_331 rfl rfl ?_
                  refine j_getr f_X9_44 r_74_23 dX9_cond_332 ?_
                  refine j_iload_n 2 dX9_cond_335 rfl rfl ?_
                  refine j_iconst dX9_cond_336 (by decide) ?_
                  refine j_iload_n 3 dX9_cond_337 rfl rfl ?_
                  refine j_imul dX9_cond_338 (by omega) ?_
                  refine j_iadd dX9_cond_339 (by omega) ?_
                  refine j_iconst dX9_cond_340 (by decide) ?_
                  refine j_iadd dX9_cond_341 (by omega) ?_
                  refine j_iload 10 dX9_cond_342 rfl ?_
                  refine j_iast a_86 dX9_cond_344 (by omega) (by omega) ?_
                  refine j_nmM (fun M_73 eM_73 => ?_)
                  obtain ⟨v3_74, ev3_74⟩ : ∃ y : Int, y = v3 + 1 := ⟨_, rfl⟩
                  refine j_iinc (y := v3_74) (ls' := [(0, jR 74), (1, jI i), (2, jI v2_1), (3, jI v3_74), (4, jI v4), (5, jI v5_67), (6, jI v6), (7, jI v7), (8, jI v8_66), (9, jI u9), (10, jI u10)]) 3 dX9_cond_345 rfl ev3_74 (by omega) (by decide) rfl ?_
                  refine j_iconst dX9_cond_348 (by decide) ?_
                  refine j_istore (ls' := [(0, jR 74), (1, jI i), (2, jI v2_1), (3, jI v3_74), (4, jI v4), (5, jI v5_67), (6, jI 0), (7, jI v7), (8, jI v8_66), (9, jI u9), (10, jI u10)]) dX9_cond_349 (by decide) rfl ?_
                  have zFin : rdI b q (2000 + 2 * M 74 24) M M_73 (pCd b 901 q [] true 0 0) v3_74 v4 v5_67 0 v7 := by
                    have hlen := ev2_1
                    have hF : rdF (2000 + 2 * M 74 24) M M_73 := by rw [eM_73, eM_72]; refine rdF_tr hrf (rdF_tr (rdF_2 hf3) (rdF_tr (rdF_86 ?_) (rdF_86 ?_))) <;> omega
                    have hpM : rP b M_73 (pT3 b s) := by rw [eM_73, eM_72]; exact rP_86 (rP_86 hp3)
                    rcases Int.lt_or_le (pT3 b s) 0 with z | z
                    · rw [pCd_t0 ⟨k157.1, k157.2, by omega⟩ z] at hR
                      rw [← hR]
                      exact rdI_E ⟨Or.inr z, by omega, hpM, fun y => by have : 0 ≤ pT3 b s := y; omega⟩ hF
                    · rw [pCd_t1 ⟨k157.1, k157.2, by omega⟩ z] at hR
                      have p3 := pT3_in hbk hs.1 (by omega) k157.1
                      have y := h910 z
                      refine rdI_A (pT3 b s) ((pTo b (lV b s) (lNx b s), pTn b s) :: r) false o (p + 1) zg ⟨⟨by simp only [List.length_cons]; omega, hv.2.1, by omega⟩, Or.inr ⟨rfl, by omega⟩, h71, hR, gWf_ts (by omega) (pTo_in _ _ _) (by omega) hg, ⟨z, by omega, by simp only [List.length_cons]; omega⟩, hpM, ?_⟩ hF
                      have hT3 := rTks_2 hT hf3
                      refine rTks_put hT3 ?_ (fun _ => ?_) (fun j x y => ?_)
                      · rw [eM_73, eM_72, jup_ne (by omega), jup_at, if_pos (by omega)]; exact y.1
                      · rw [eM_73, eM_72, jup_at, if_pos (by omega)]; exact y.2
                      · rw [eM_73, eM_72, jup_at, if_neg (by omega), jup_at, if_neg (by omega)]
                  refine j_goto (tgt := 25) dX9_cond_351 (by decide) ?_
                  refine j_sub (ls' := [(0, jR 74), (1, jI i), (2, jI v2_1), (3, jI v3_74), (4, jI v4), (5, jI v5_67), (6, jI 0), (7, jI v7)]) [0, 1, 2, 3, 4, 5, 6, 7] rfl ?_
                  exact ih25 v3_74 v4 v5_67 0 v7 M_73 (by first | exact zFin | (rw [eM_73, eM_72]; exact zFin)) (by first | exact rdMs_lt hm hp hs.1 (by omega) h71 hp2 (Or.inr (by omega)) | exact rdMs_lt hm hp hs.1 (by omega) h71 rkh_70 (Or.inl (fl_neg hs.1)) | exact rdMs_lt (s' := pT3 b s) hm hp hs.1 (by omega) h71 (by rw [eM_73, eM_72]; exact rP_86 (rP_86 hp3)) (by have p3 := pT3_in hbk hs.1 (by omega) k157.1; omega) | exact rdMs_0 hm hp hs.1 (by omega) h71)
                refine j_iload 8 dX9_cond_184 rfl ?_
                refine j_bipush dX9_cond_186 (by decide) ?_
                refine j_icmp_ne (tgt := 271) dX9_cond_188 (by decide) (fun c188_75 => ?_) (fun c188_75 => ?_)
                · skip
                  refine j_iload 8 dX9_cond_271 rfl ?_
                  refine j_bipush dX9_cond_273 (by decide) ?_
                  refine j_icmp_eq (tgt := 319) dX9_cond_275 (by decide) (fun c275_76 => ?_) (fun c275_76 => ?_)
                  · skip
                    exact ct319_71 6 0 M_69 ⟨by first | exact zhpF | (rw [(pT3_paper (by omega)).1]; exact hp1), by first | exact zhfF | exact fA, by intro z; first | exact ⟨h9, zhnF⟩ | exact ⟨by omega, zhnF⟩ | (have y := pT3_paper (b := b) (q := s) (by omega); omega)⟩
                  · skip
                    refine j_iload 8 dX9_cond_278 rfl ?_
                    refine j_bipush dX9_cond_280 (by decide) ?_
                    have hJ_77 : ∀ zz : Int, (¬ v8_66 = 13 ∧ ¬ v8_66 = 14 ∧ zz = 5) ∨ (¬ v8_66 = 13 ∧ v8_66 = 14 ∧ zz = 4) ∨ (v8_66 = 13 ∧ zz = 3) → jG D_X9_cond X FJ shJ 0 0 (jqV (q_X9_cond M b q i)) 301 [(0, jR 74), (1, jI i), (2, jI v2_1), (3, jI v3), (4, jI v4), (5, jI v5_67), (6, jI v6), (7, jI v7), (8, jI v8_66), (9, jI 6), (10, jI 0)] (jI zz :: []) M_69 := by
                      intro t_78 et_78
                      refine j_istore (ls' := [(0, jR 74), (1, jI i), (2, jI v2_1), (3, jI v3), (4, jI v4), (5, jI v5_67), (6, jI v6), (7, jI v7), (8, jI v8_66), (9, jI t_78), (10, jI 0)]) dX9_cond_301 (by decide) rfl ?_
                      refine j_aload_n 0 dX9_cond_303 rfl rfl ?_
                      refine j_bipush dX9_cond_304 (by decide) ?_
                      refine j_callVv l_X9_231 ⟨Nat.le_of_ble_eq_true rfl, Nat.le_of_ble_eq_true rfl⟩ ⟨rfl, rfl⟩ dX9_cond_306 ob_74 (c_X9_takesSign M_69 b (lNx b s) 61 (by rw [(Eq.trans (adh_70.2.2.2 14 (by decide) (by decide) (by decide) (by decide)) (hrf.2.1 14 (by decide) (by decide) (by decide) (by decide) (by decide)))]; exact h_rtyped) (by rw [(Eq.trans (frh_70 84 (by decide)) (hrf.1 84 (by decide) (by decide)))]; exact h_rtext) (by rw [(Eq.trans (frh_70 75 (by decide)) (hrf.1 75 (by decide) (by decide)))]; exact h_rwords) hp1) rfl rfl (Nat.le_of_ble_eq_true rfl) (fun M_80 h_81 => ?_)
                      obtain ⟨rkh_81, fkh_81⟩ := h_81
                      have frh_81 := fkh_81.1
                      have hp2 : rP b M_80 (pT2 b (lV b s) (lNx b s)) := by unfold pT2; rw [if_neg (by omega)]; exact rkh_81
                      have hf2 := rF2_tr fA fkh_81
                      have h9 : t_78 = pTo b (lV b s) (lNx b s) := by have y := pTo_w (b := b) (k := lV b s) (s := lNx b s) (by omega); omega
                      refine j_aload_n 0 dX9_cond_309 rfl rfl ?_
                      refine j_iconst dX9_cond_310 (by decide) ?_
                      refine j_sipush dX9_cond_311 (by decide) ?_
                      refine j_callVi l_X9_228 ⟨Nat.le_of_ble_eq_true rfl, Nat.le_of_ble_eq_true rfl⟩ ⟨rfl, rfl⟩ dX9_cond_314 ob_74 (c_X9_takesNumber M_80 b (pT2 b (lV b s) (lNx b s)) 0 9999 (by rw [(Eq.trans (fkh_81.2 14 (by decide) (by decide) (by decide) (by decide) (by decide)) (Eq.trans (adh_70.2.2.2 14 (by decide) (by decide) (by decide) (by decide)) (hrf.2.1 14 (by decide) (by decide) (by decide) (by decide) (by decide))))]; exact h_rtyped) (by rw [(Eq.trans (frh_81 84 (by decide)) (Eq.trans (frh_70 84 (by decide)) (hrf.1 84 (by decide) (by decide))))]; exact h_rtext) (by rw [(Eq.trans (frh_81 75 (by decide)) (Eq.trans (frh_70 75 (by decide)) (hrf.1 75 (by decide) (by decide))))]; exact h_rwords) hp2) rfl rfl (Nat.le_of_ble_eq_true rfl) (fun r_82 M_83 h_84 => ?_)
                      obtain ⟨rvh_84, rkh_84, fkh_84⟩ := h_84
                      have frh_84 := fkh_84.1
                      have zhpF : rP b M_83 (pT3 b s) := by unfold pT3; rw [if_neg (by omega)]; exact rkh_84
                      have zhfF : rF2 N25 M_83 := rF2_tr hf2 fkh_84
                      have zhnF : r_82 = pTn b s := by unfold pTn; rw [if_neg (by omega)]; exact rvh_84
                      refine j_istore (ls' := [(0, jR 74), (1, jI i), (2, jI v2_1), (3, jI v3), (4, jI v4), (5, jI v5_67), (6, jI v6), (7, jI v7), (8, jI v8_66), (9, jI t_78), (10, jI r_82)]) dX9_cond_317 (by decide) rfl ?_
                      exact ct319_71 t_78 r_82 M_83 ⟨by first | exact zhpF | (rw [(pT3_paper (by omega)).1]; exact hp1), by first | exact zhfF | exact fA, by intro z; first | exact ⟨h9, zhnF⟩ | exact ⟨by omega, zhnF⟩ | (have y := pT3_paper (b := b) (q := s) (by omega); omega)⟩
                    refine j_icmp_ne (tgt := 289) dX9_cond_282 (by decide) (fun c282_85 => ?_) (fun c282_85 => ?_)
                    · skip
                      refine j_iload 8 dX9_cond_289 rfl ?_
                      refine j_bipush dX9_cond_291 (by decide) ?_
                      refine j_icmp_ne (tgt := 300) dX9_cond_293 (by decide) (fun c293_86 => ?_) (fun c293_86 => ?_)
                      · skip
                        refine j_iconst dX9_cond_300 (by decide) ?_
                        exact hJ_77 _ (Or.inl ⟨c282_85, c293_86, rfl⟩)
                      · skip
                        refine j_iconst dX9_cond_296 (by decide) ?_
                        refine j_goto (tgt := 301) dX9_cond_297 (by decide) ?_
                        exact hJ_77 _ (Or.inr (Or.inl ⟨c282_85, c293_86, rfl⟩))
                    · skip
                      refine j_iconst dX9_cond_285 (by decide) ?_
                      refine j_goto (tgt := 301) dX9_cond_286 (by decide) ?_
                      exact hJ_77 _ (Or.inr (Or.inr (⟨c282_85, rfl⟩)))
                · skip
                  have ct258_87 : ∀ (u9 : Int), ∀ K258 : jM, (u9 = pTo b (lV b s) (lNx b s)) ∧ (rP b K258 (pT2 b (lV b s) (lNx b s))) ∧ (rF2 N25 K258) → jG D_X9_cond X FJ shJ 0 0 (jqV (q_X9_cond M b q i)) 258 [(0, jR 74), (1, jI i), (2, jI v2_1), (3, jI v3), (4, jI v4), (5, jI v5_67), (6, jI v6), (7, jI v7), (8, jI v8_66), (9, jI u9), (10, jI 0)] ([]) K258 := by
                    intro u9 K258 hinv
                    obtain ⟨h9, hp2, hf2⟩ := hinv
                    refine j_aload_n 0 dX9_cond_258 rfl rfl ?_
                    refine j_iconst dX9_cond_259 (by decide) ?_
                    refine j_sipush dX9_cond_260 (by decide) ?_
                    refine j_callVi l_X9_228 ⟨Nat.le_of_ble_eq_true rfl, Nat.le_of_ble_eq_true rfl⟩ ⟨rfl, rfl⟩ dX9_cond_263 ob_74 (c_X9_takesNumber K258 b (pT2 b (lV b s) (lNx b s)) 0 9999 (by rw [(Eq.trans (hf2.2 14 (by decide) (by decide) (by decide) (by decide) (by decide)) (hrf.2.1 14 (by decide) (by decide) (by decide) (by decide) (by decide)))]; exact h_rtyped) (by rw [(Eq.trans (hf2.1 84 (by decide)) (hrf.1 84 (by decide) (by decide)))]; exact h_rtext) (by rw [(Eq.trans (hf2.1 75 (by decide)) (hrf.1 75 (by decide) (by decide)))]; exact h_rwords) hp2) rfl rfl (Nat.le_of_ble_eq_true rfl) (fun r_88 M_89 h_90 => ?_)
                    obtain ⟨rvh_90, rkh_90, fkh_90⟩ := h_90
                    have frh_90 := fkh_90.1
                    have zhpF : rP b M_89 (pT3 b s) := by unfold pT3; rw [if_neg (by omega)]; exact rkh_90
                    have zhfF : rF2 N25 M_89 := rF2_tr hf2 fkh_90
                    have zhnF : r_88 = pTn b s := by unfold pTn; rw [if_neg (by omega)]; exact rvh_90
                    refine j_istore (ls' := [(0, jR 74), (1, jI i), (2, jI v2_1), (3, jI v3), (4, jI v4), (5, jI v5_67), (6, jI v6), (7, jI v7), (8, jI v8_66), (9, jI u9), (10, jI r_88)]) dX9_cond_266 (by decide) rfl ?_
                    refine j_goto (tgt := 319) dX9_cond_268 (by decide) ?_
                    exact ct319_71 u9 r_88 M_89 ⟨by first | exact zhpF | (rw [(pT3_paper (by omega)).1]; exact hp1), by first | exact zhfF | exact fA, by intro z; first | exact ⟨h9, zhnF⟩ | exact ⟨by omega, zhnF⟩ | (have y := pT3_paper (b := b) (q := s) (by omega); omega)⟩
                  have ct254_91 : ∀ (u9 : Int), (u9 = pTo b (lV b s) (lNx b s)) ∧ (lK b (lNx b s) = 3 ∧ (lV b (lNx b s) = 60 ∨ lV b (lNx b s) = 62 ∨ lV b (lNx b s) = 61)) → jG D_X9_cond X FJ shJ 0 0 (jqV (q_X9_cond M b q i)) 254 [(0, jR 74), (1, jI i), (2, jI v2_1), (3, jI v3), (4, jI v4), (5, jI v5_67), (6, jI v6), (7, jI v7), (8, jI v8_66), (9, jI u9), (10, jI 0)] ([]) M_69 := by
                    intro u9  hinv
                    obtain ⟨h9, k254⟩ := hinv
                    refine j_aload_n 0 dX9_cond_254 rfl rfl ?_
                    refine j_callVv l_X9_210 ⟨Nat.le_of_ble_eq_true rfl, Nat.le_of_ble_eq_true rfl⟩ ⟨rfl, rfl⟩ dX9_cond_255 ob_74 (c_X9_advances M_69 b (by rw [(Eq.trans (adh_70.2.2.2 14 (by decide) (by decide) (by decide) (by decide)) (hrf.2.1 14 (by decide) (by decide) (by decide) (by decide) (by decide)))]; exact h_rtyped) (by rw [(Eq.trans (frh_70 84 (by decide)) (hrf.1 84 (by decide) (by decide)))]; exact h_rtext) (by rw [(Eq.trans (frh_70 75 (by decide)) (hrf.1 75 (by decide) (by decide)))]; exact h_rwords) hp1.1 (rP_pre2 hp1 nx0 hbk (by first | exact zE14 | exact zE14b))) rfl rfl (Nat.le_of_ble_eq_true rfl) (fun M_93 h_94 => ?_)
                    have adh_94 := h_94
                    unfold q_X9_advances at adh_94
                    have frh_94 := adh_94.2.2.1
                    exact ct258_87 u9 M_93 ⟨by omega, by first | (rw [pT2_yes nx0 (by omega)]; exact rP_adv hp1 nx0 adh_94) | (rw [pT2_no nx0 (by omega)]; have e : fl (lNx b s) = -1 - lNx b s := (by unfold fl; rw [if_neg (by omega)]); rw [← e]; exact rkh_94), by first | exact rF2_tr fA (rF2_of adh_94.2.2) | exact rF2_tr fA fkh_94⟩
                  have ct220_95 : ∀ (u9 : Int), (u9 = pTo b (lV b s) (lNx b s)) → jG D_X9_cond X FJ shJ 0 0 (jqV (q_X9_cond M b q i)) 220 [(0, jR 74), (1, jI i), (2, jI v2_1), (3, jI v3), (4, jI v4), (5, jI v5_67), (6, jI v6), (7, jI v7), (8, jI v8_66), (9, jI u9), (10, jI 0)] ([]) M_69 := by
                    intro u9  hinv
                    have h9 := hinv
                    refine j_aload_n 0 dX9_cond_220 rfl rfl ?_
                    refine j_bipush dX9_cond_221 (by decide) ?_
                    refine j_callVi l_X9_207 ⟨Nat.le_of_ble_eq_true rfl, Nat.le_of_ble_eq_true rfl⟩ ⟨rfl, rfl⟩ dX9_cond_223 ob_74 (c_X9_isSign M_69 b (lNx b s) 60 hp1) rfl rfl (Nat.le_of_ble_eq_true rfl) (fun r_96 M_97 h_98 => ?_)
                    obtain ⟨er_96, nh_98⟩ := h_98
                    refine j_eqM nh_98 ?_
                    clear nh_98
                    refine j_if_ne (tgt := 254) dX9_cond_226 (by decide) (fun c226_99 => ?_) (fun c226_99 => ?_)
                    · skip
                      exact ct254_91 u9 ⟨by omega, by omega⟩
                    · skip
                      refine j_aload_n 0 dX9_cond_229 rfl rfl ?_
                      refine j_bipush dX9_cond_230 (by decide) ?_
                      refine j_callVi l_X9_207 ⟨Nat.le_of_ble_eq_true rfl, Nat.le_of_ble_eq_true rfl⟩ ⟨rfl, rfl⟩ dX9_cond_232 ob_74 (c_X9_isSign M_69 b (lNx b s) 62 hp1) rfl rfl (Nat.le_of_ble_eq_true rfl) (fun r_100 M_101 h_102 => ?_)
                      obtain ⟨er_100, nh_102⟩ := h_102
                      refine j_eqM nh_102 ?_
                      clear nh_102
                      refine j_if_ne (tgt := 254) dX9_cond_235 (by decide) (fun c235_103 => ?_) (fun c235_103 => ?_)
                      · skip
                        exact ct254_91 u9 ⟨by omega, by omega⟩
                      · skip
                        refine j_aload_n 0 dX9_cond_238 rfl rfl ?_
                        refine j_bipush dX9_cond_239 (by decide) ?_
                        refine j_callVi l_X9_207 ⟨Nat.le_of_ble_eq_true rfl, Nat.le_of_ble_eq_true rfl⟩ ⟨rfl, rfl⟩ dX9_cond_241 ob_74 (c_X9_isSign M_69 b (lNx b s) 61 hp1) rfl rfl (Nat.le_of_ble_eq_true rfl) (fun r_104 M_105 h_106 => ?_)
                        obtain ⟨er_104, nh_106⟩ := h_106
                        refine j_eqM nh_106 ?_
                        clear nh_106
                        refine j_if_ne (tgt := 254) dX9_cond_244 (by decide) (fun c244_107 => ?_) (fun c244_107 => ?_)
                        · skip
                          exact ct254_91 u9 ⟨by omega, by omega⟩
                        · skip
                          refine j_aload_n 0 dX9_cond_247 rfl rfl ?_
                          refine j_callVv l_X9_213 ⟨Nat.le_of_ble_eq_true rfl, Nat.le_of_ble_eq_true rfl⟩ ⟨rfl, rfl⟩ dX9_cond_248 ob_74 (c_X9_fails M_69 b (lNx b s) hp1) rfl rfl (Nat.le_of_ble_eq_true rfl) (fun M_109 h_110 => ?_)
                          obtain ⟨rkh_110, fkh_110⟩ := h_110
                          have frh_110 := fkh_110.1
                          refine j_goto (tgt := 258) dX9_cond_251 (by decide) ?_
                          exact ct258_87 u9 M_109 ⟨by omega, by first | (rw [pT2_yes nx0 (by omega)]; exact rP_adv hp1 nx0 adh_110) | (rw [pT2_no nx0 (by omega)]; have e : fl (lNx b s) = -1 - lNx b s := (by unfold fl; rw [if_neg (by omega)]); rw [← e]; exact rkh_110), by first | exact rF2_tr fA (rF2_of adh_110.2.2) | exact rF2_tr fA fkh_110⟩
                  refine j_aload_n 0 dX9_cond_191 rfl rfl ?_
                  refine j_bipush dX9_cond_192 (by decide) ?_
                  refine j_callVi l_X9_207 ⟨Nat.le_of_ble_eq_true rfl, Nat.le_of_ble_eq_true rfl⟩ ⟨rfl, rfl⟩ dX9_cond_194 ob_74 (c_X9_isSign M_69 b (lNx b s) 60 hp1) rfl rfl (Nat.le_of_ble_eq_true rfl) (fun r_111 M_112 h_113 => ?_)
                  obtain ⟨er_111, nh_113⟩ := h_113
                  refine j_eqM nh_113 ?_
                  clear nh_113
                  refine j_if_eq (tgt := 204) dX9_cond_197 (by decide) (fun c197_114 => ?_) (fun c197_114 => ?_)
                  · skip
                    refine j_aload_n 0 dX9_cond_204 rfl rfl ?_
                    refine j_bipush dX9_cond_205 (by decide) ?_
                    refine j_callVi l_X9_207 ⟨Nat.le_of_ble_eq_true rfl, Nat.le_of_ble_eq_true rfl⟩ ⟨rfl, rfl⟩ dX9_cond_207 ob_74 (c_X9_isSign M_69 b (lNx b s) 62 hp1) rfl rfl (Nat.le_of_ble_eq_true rfl) (fun r_115 M_116 h_117 => ?_)
                    obtain ⟨er_115, nh_117⟩ := h_117
                    refine j_eqM nh_117 ?_
                    clear nh_117
                    have hJ_118 : ∀ zz : Int, (r_115 = 0 ∧ zz = 2) ∨ (¬ r_115 = 0 ∧ zz = 1) → jG D_X9_cond X FJ shJ 0 0 (jqV (q_X9_cond M b q i)) 218 [(0, jR 74), (1, jI i), (2, jI v2_1), (3, jI v3), (4, jI v4), (5, jI v5_67), (6, jI v6), (7, jI v7), (8, jI v8_66), (9, jI 6), (10, jI 0)] (jI zz :: []) M_69 := by
                      intro t_119 et_119
                      refine j_istore (ls' := [(0, jR 74), (1, jI i), (2, jI v2_1), (3, jI v3), (4, jI v4), (5, jI v5_67), (6, jI v6), (7, jI v7), (8, jI v8_66), (9, jI t_119), (10, jI 0)]) dX9_cond_218 (by decide) rfl ?_
                      exact ct220_95 t_119 (by (have y := pTo_w (b := b) (k := lV b s) (s := lNx b s) (by omega); omega))
                    refine j_if_eq (tgt := 217) dX9_cond_210 (by decide) (fun c210_120 => ?_) (fun c210_120 => ?_)
                    · skip
                      refine j_iconst dX9_cond_217 (by decide) ?_
                      exact hJ_118 _ (Or.inl ⟨c210_120, rfl⟩)
                    · skip
                      refine j_iconst dX9_cond_213 (by decide) ?_
                      refine j_goto (tgt := 218) dX9_cond_214 (by decide) ?_
                      exact hJ_118 _ (Or.inr (⟨c210_120, rfl⟩))
                  · skip
                    refine j_iconst dX9_cond_200 (by decide) ?_
                    refine j_goto (tgt := 218) dX9_cond_201 (by decide) ?_
                    refine j_istore (ls' := [(0, jR 74), (1, jI i), (2, jI v2_1), (3, jI v3), (4, jI v4), (5, jI v5_67), (6, jI v6), (7, jI v7), (8, jI v8_66), (9, jI 0), (10, jI 0)]) dX9_cond_218 (by decide) rfl ?_
                    exact ct220_95 0 (by (have y := pTo_w (b := b) (k := lV b s) (s := lNx b s) (by omega); omega))
            refine j_aload_n 0 dX9_cond_42 rfl rfl ?_
            refine j_bipush dX9_cond_43 (by decide) ?_
            refine j_callVi l_X9_207 ⟨Nat.le_of_ble_eq_true rfl, Nat.le_of_ble_eq_true rfl⟩ ⟨rfl, rfl⟩ dX9_cond_45 ob_74 (c_X9_isSign N25 b s 33 hp) rfl rfl (Nat.le_of_ble_eq_true rfl) (fun r_121 M_122 h_123 => ?_)
            obtain ⟨er_121, nh_123⟩ := h_123
            refine j_eqM nh_123 ?_
            clear nh_123
            refine j_if_ne (tgt := 67) dX9_cond_48 (by decide) (fun c48_124 => ?_) (fun c48_124 => ?_)
            · skip
              exact ct67_50  (by first | omega | grind)
            · skip
              refine j_aload_n 0 dX9_cond_51 rfl rfl ?_
              refine j_bipush dX9_cond_52 (by decide) ?_
              refine j_callVi l_X9_207 ⟨Nat.le_of_ble_eq_true rfl, Nat.le_of_ble_eq_true rfl⟩ ⟨rfl, rfl⟩ dX9_cond_54 ob_74 (c_X9_isSign N25 b s 40 hp) rfl rfl (Nat.le_of_ble_eq_true rfl) (fun r_125 M_126 h_127 => ?_)
              obtain ⟨er_125, nh_127⟩ := h_127
              refine j_eqM nh_127 ?_
              clear nh_127
              refine j_if_eq (tgt := 104) dX9_cond_57 (by decide) (fun c57_128 => ?_) (fun c57_128 => ?_)
              · skip
                refine j_aload_n 0 dX9_cond_104 rfl rfl ?_
                refine j_geti (k' := 16) f_X9_191 o_74_16 dX9_cond_105 rfl ?_
                refine j_iconst dX9_cond_108 (by decide) ?_
                refine j_icmp_ne (tgt := 354) dX9_cond_109 (by decide) (fun c109_129 => ?_) (fun c109_129 => ?_)
                · skip
                  refine j_aload_n 0 dX9_cond_354 rfl rfl ?_
                  refine j_callVv l_X9_213 ⟨Nat.le_of_ble_eq_true rfl, Nat.le_of_ble_eq_true rfl⟩ ⟨rfl, rfl⟩ dX9_cond_355 ob_74 (c_X9_fails N25 b s hp) rfl rfl (Nat.le_of_ble_eq_true rfl) (fun M_131 h_132 => ?_)
                  obtain ⟨rkh_132, fkh_132⟩ := h_132
                  have frh_132 := fkh_132.1
                  have zFin : rdI b q (2000 + 2 * M 74 24) M M_131 (pCd b 901 q [] true 0 0) v3 v4 v5 v6 v7 := by
                    (first | (obtain ⟨zg, rfl⟩ : ∃ zg, zf = zg + 1 := ⟨zf - 1, by omega⟩; first | rw [pCd_no (by omega) (by omega) (by omega)] at hR | rw [pCd_40x (by omega) (by omega)] at hR) | rw [pCd_no (by omega) (by omega) (by omega)] at hR | rw [pCd_40x (by omega) (by omega)] at hR)
                    rw [← hR]; exact rdI_E (rdE_fl hs.1 (by omega) rkh_132) (rdF_tr hrf (rdF_2 fkh_132))
                  refine j_goto (tgt := 25) dX9_cond_358 (by decide) ?_
                  exact ih25 v3 v4 v5 v6 v7 M_131 (by first | exact zFin | (rw [jup_zz]; exact zFin)) (by first | exact rdMs_lt hm hp hs.1 (by omega) h71 hp2 (Or.inr (by omega)) | exact rdMs_lt hm hp hs.1 (by omega) h71 rkh_132 (Or.inl (fl_neg hs.1)) | exact rdMs_lt (s' := pT3 b s) hm hp hs.1 (by omega) h71 (by rw [jup_zz]; exact rP_86 (rP_86 hp3)) (by have p3 := pT3_in hbk hs.1 (by omega) k157.1; omega) | exact rdMs_0 hm hp hs.1 (by omega) h71)
                · skip
                  refine j_aload_n 0 dX9_cond_112 rfl rfl ?_
                  refine j_geti (k' := 18) f_X9_194 o_74_18 dX9_cond_113 rfl ?_
                  refine j_bipush dX9_cond_116 (by decide) ?_
                  refine j_icmp_eq (tgt := 157) dX9_cond_118 (by decide) (fun c118_133 => ?_) (fun c118_133 => ?_)
                  · skip
                    exact ct157_61  (by (have h18 := (rP_well hp hs.1).2.2.2.1; have h16 := (rP_well hp hs.1).2.2.1; omega))
                  · skip
                    refine j_aload_n 0 dX9_cond_121 rfl rfl ?_
                    refine j_geti (k' := 18) f_X9_194 o_74_18 dX9_cond_122 rfl ?_
                    refine j_bipush dX9_cond_125 (by decide) ?_
                    refine j_icmp_eq (tgt := 157) dX9_cond_127 (by decide) (fun c127_134 => ?_) (fun c127_134 => ?_)
                    · skip
                      exact ct157_61  (by (have h18 := (rP_well hp hs.1).2.2.2.1; have h16 := (rP_well hp hs.1).2.2.1; omega))
                    · skip
                      refine j_aload_n 0 dX9_cond_130 rfl rfl ?_
                      refine j_geti (k' := 18) f_X9_194 o_74_18 dX9_cond_131 rfl ?_
                      refine j_bipush dX9_cond_134 (by decide) ?_
                      refine j_icmp_eq (tgt := 157) dX9_cond_136 (by decide) (fun c136_135 => ?_) (fun c136_135 => ?_)
                      · skip
                        exact ct157_61  (by (have h18 := (rP_well hp hs.1).2.2.2.1; have h16 := (rP_well hp hs.1).2.2.1; omega))
                      · skip
                        refine j_aload_n 0 dX9_cond_139 rfl rfl ?_
                        refine j_geti (k' := 18) f_X9_194 o_74_18 dX9_cond_140 rfl ?_
                        refine j_bipush dX9_cond_143 (by decide) ?_
                        refine j_icmp_eq (tgt := 157) dX9_cond_145 (by decide) (fun c145_136 => ?_) (fun c145_136 => ?_)
                        · skip
                          exact ct157_61  (by (have h18 := (rP_well hp hs.1).2.2.2.1; have h16 := (rP_well hp hs.1).2.2.1; omega))
                        · skip
                          refine j_aload_n 0 dX9_cond_148 rfl rfl ?_
                          refine j_geti (k' := 18) f_X9_194 o_74_18 dX9_cond_149 rfl ?_
                          refine j_bipush dX9_cond_152 (by decide) ?_
                          refine j_icmp_ne (tgt := 354) dX9_cond_154 (by decide) (fun c154_137 => ?_) (fun c154_137 => ?_)
                          · skip
                            refine j_aload_n 0 dX9_cond_354 rfl rfl ?_
                            refine j_callVv l_X9_213 ⟨Nat.le_of_ble_eq_true rfl, Nat.le_of_ble_eq_true rfl⟩ ⟨rfl, rfl⟩ dX9_cond_355 ob_74 (c_X9_fails N25 b s hp) rfl rfl (Nat.le_of_ble_eq_true rfl) (fun M_139 h_140 => ?_)
                            obtain ⟨rkh_140, fkh_140⟩ := h_140
                            have frh_140 := fkh_140.1
                            have zFin : rdI b q (2000 + 2 * M 74 24) M M_139 (pCd b 901 q [] true 0 0) v3 v4 v5 v6 v7 := by
                              (first | (obtain ⟨zg, rfl⟩ : ∃ zg, zf = zg + 1 := ⟨zf - 1, by omega⟩; first | rw [pCd_no (by omega) (by omega) (by omega)] at hR | rw [pCd_40x (by omega) (by omega)] at hR) | rw [pCd_no (by omega) (by omega) (by omega)] at hR | rw [pCd_40x (by omega) (by omega)] at hR)
                              rw [← hR]; exact rdI_E (rdE_fl hs.1 (by omega) rkh_140) (rdF_tr hrf (rdF_2 fkh_140))
                            refine j_goto (tgt := 25) dX9_cond_358 (by decide) ?_
                            exact ih25 v3 v4 v5 v6 v7 M_139 (by first | exact zFin | (rw [jup_zz]; exact zFin)) (by first | exact rdMs_lt hm hp hs.1 (by omega) h71 hp2 (Or.inr (by omega)) | exact rdMs_lt hm hp hs.1 (by omega) h71 rkh_140 (Or.inl (fl_neg hs.1)) | exact rdMs_lt (s' := pT3 b s) hm hp hs.1 (by omega) h71 (by rw [jup_zz]; exact rP_86 (rP_86 hp3)) (by have p3 := pT3_in hbk hs.1 (by omega) k157.1; omega) | exact rdMs_0 hm hp hs.1 (by omega) h71)
                          · skip
                            exact ct157_61  (by (have h18 := (rP_well hp hs.1).2.2.2.1; have h16 := (rP_well hp hs.1).2.2.1; omega))
              · skip
                refine j_iload 4 dX9_cond_60 rfl ?_
                refine j_bipush dX9_cond_62 (by decide) ?_
                refine j_icmp_ge (tgt := 104) dX9_cond_64 (by decide) (fun c64_141 => ?_) (fun c64_141 => ?_)
                · skip
                  refine j_aload_n 0 dX9_cond_104 rfl rfl ?_
                  refine j_geti (k' := 16) f_X9_191 o_74_16 dX9_cond_105 rfl ?_
                  refine j_iconst dX9_cond_108 (by decide) ?_
                  refine j_icmp_ne (tgt := 354) dX9_cond_109 (by decide) (fun c109_142 => ?_) (fun c109_142 => ?_)
                  · skip
                    refine j_aload_n 0 dX9_cond_354 rfl rfl ?_
                    refine j_callVv l_X9_213 ⟨Nat.le_of_ble_eq_true rfl, Nat.le_of_ble_eq_true rfl⟩ ⟨rfl, rfl⟩ dX9_cond_355 ob_74 (c_X9_fails N25 b s hp) rfl rfl (Nat.le_of_ble_eq_true rfl) (fun M_144 h_145 => ?_)
                    obtain ⟨rkh_145, fkh_145⟩ := h_145
                    have frh_145 := fkh_145.1
                    have zFin : rdI b q (2000 + 2 * M 74 24) M M_144 (pCd b 901 q [] true 0 0) v3 v4 v5 v6 v7 := by
                      (first | (obtain ⟨zg, rfl⟩ : ∃ zg, zf = zg + 1 := ⟨zf - 1, by omega⟩; first | rw [pCd_no (by omega) (by omega) (by omega)] at hR | rw [pCd_40x (by omega) (by omega)] at hR) | rw [pCd_no (by omega) (by omega) (by omega)] at hR | rw [pCd_40x (by omega) (by omega)] at hR)
                      rw [← hR]; exact rdI_E (rdE_fl hs.1 (by omega) rkh_145) (rdF_tr hrf (rdF_2 fkh_145))
                    refine j_goto (tgt := 25) dX9_cond_358 (by decide) ?_
                    exact ih25 v3 v4 v5 v6 v7 M_144 (by first | exact zFin | (rw [jup_zz]; exact zFin)) (by first | exact rdMs_lt hm hp hs.1 (by omega) h71 hp2 (Or.inr (by omega)) | exact rdMs_lt hm hp hs.1 (by omega) h71 rkh_145 (Or.inl (fl_neg hs.1)) | exact rdMs_lt (s' := pT3 b s) hm hp hs.1 (by omega) h71 (by rw [jup_zz]; exact rP_86 (rP_86 hp3)) (by have p3 := pT3_in hbk hs.1 (by omega) k157.1; omega) | exact rdMs_0 hm hp hs.1 (by omega) h71)
                  · skip
                    refine j_aload_n 0 dX9_cond_112 rfl rfl ?_
                    refine j_geti (k' := 18) f_X9_194 o_74_18 dX9_cond_113 rfl ?_
                    refine j_bipush dX9_cond_116 (by decide) ?_
                    refine j_icmp_eq (tgt := 157) dX9_cond_118 (by decide) (fun c118_146 => ?_) (fun c118_146 => ?_)
                    · skip
                      exact ct157_61  (by (have h18 := (rP_well hp hs.1).2.2.2.1; have h16 := (rP_well hp hs.1).2.2.1; omega))
                    · skip
                      refine j_aload_n 0 dX9_cond_121 rfl rfl ?_
                      refine j_geti (k' := 18) f_X9_194 o_74_18 dX9_cond_122 rfl ?_
                      refine j_bipush dX9_cond_125 (by decide) ?_
                      refine j_icmp_eq (tgt := 157) dX9_cond_127 (by decide) (fun c127_147 => ?_) (fun c127_147 => ?_)
                      · skip
                        exact ct157_61  (by (have h18 := (rP_well hp hs.1).2.2.2.1; have h16 := (rP_well hp hs.1).2.2.1; omega))
                      · skip
                        refine j_aload_n 0 dX9_cond_130 rfl rfl ?_
                        refine j_geti (k' := 18) f_X9_194 o_74_18 dX9_cond_131 rfl ?_
                        refine j_bipush dX9_cond_134 (by decide) ?_
                        refine j_icmp_eq (tgt := 157) dX9_cond_136 (by decide) (fun c136_148 => ?_) (fun c136_148 => ?_)
                        · skip
                          exact ct157_61  (by (have h18 := (rP_well hp hs.1).2.2.2.1; have h16 := (rP_well hp hs.1).2.2.1; omega))
                        · skip
                          refine j_aload_n 0 dX9_cond_139 rfl rfl ?_
                          refine j_geti (k' := 18) f_X9_194 o_74_18 dX9_cond_140 rfl ?_
                          refine j_bipush dX9_cond_143 (by decide) ?_
                          refine j_icmp_eq (tgt := 157) dX9_cond_145 (by decide) (fun c145_149 => ?_) (fun c145_149 => ?_)
                          · skip
                            exact ct157_61  (by (have h18 := (rP_well hp hs.1).2.2.2.1; have h16 := (rP_well hp hs.1).2.2.1; omega))
                          · skip
                            refine j_aload_n 0 dX9_cond_148 rfl rfl ?_
                            refine j_geti (k' := 18) f_X9_194 o_74_18 dX9_cond_149 rfl ?_
                            refine j_bipush dX9_cond_152 (by decide) ?_
                            refine j_icmp_ne (tgt := 354) dX9_cond_154 (by decide) (fun c154_150 => ?_) (fun c154_150 => ?_)
                            · skip
                              refine j_aload_n 0 dX9_cond_354 rfl rfl ?_
                              refine j_callVv l_X9_213 ⟨Nat.le_of_ble_eq_true rfl, Nat.le_of_ble_eq_true rfl⟩ ⟨rfl, rfl⟩ dX9_cond_355 ob_74 (c_X9_fails N25 b s hp) rfl rfl (Nat.le_of_ble_eq_true rfl) (fun M_152 h_153 => ?_)
                              obtain ⟨rkh_153, fkh_153⟩ := h_153
                              have frh_153 := fkh_153.1
                              have zFin : rdI b q (2000 + 2 * M 74 24) M M_152 (pCd b 901 q [] true 0 0) v3 v4 v5 v6 v7 := by
                                (first | (obtain ⟨zg, rfl⟩ : ∃ zg, zf = zg + 1 := ⟨zf - 1, by omega⟩; first | rw [pCd_no (by omega) (by omega) (by omega)] at hR | rw [pCd_40x (by omega) (by omega)] at hR) | rw [pCd_no (by omega) (by omega) (by omega)] at hR | rw [pCd_40x (by omega) (by omega)] at hR)
                                rw [← hR]; exact rdI_E (rdE_fl hs.1 (by omega) rkh_153) (rdF_tr hrf (rdF_2 fkh_153))
                              refine j_goto (tgt := 25) dX9_cond_358 (by decide) ?_
                              exact ih25 v3 v4 v5 v6 v7 M_152 (by first | exact zFin | (rw [jup_zz]; exact zFin)) (by first | exact rdMs_lt hm hp hs.1 (by omega) h71 hp2 (Or.inr (by omega)) | exact rdMs_lt hm hp hs.1 (by omega) h71 rkh_153 (Or.inl (fl_neg hs.1)) | exact rdMs_lt (s' := pT3 b s) hm hp hs.1 (by omega) h71 (by rw [jup_zz]; exact rP_86 (rP_86 hp3)) (by have p3 := pT3_in hbk hs.1 (by omega) k157.1; omega) | exact rdMs_0 hm hp hs.1 (by omega) h71)
                            · skip
                              exact ct157_61  (by (have h18 := (rP_well hp hs.1).2.2.2.1; have h16 := (rP_well hp hs.1).2.2.1; omega))
                · skip
                  exact ct67_50  (by first | omega | grind)
  exact lp25_2 _ 0 0 0 1 1 M (by exact rdI_A q [] true 0 0 901 ⟨⟨by simp, by omega, by omega⟩, Or.inl ⟨rfl, by omega⟩, by omega, rfl, ⟨rfl, rfl, rfl⟩, ⟨hq, by omega, by simp⟩, hp0, trivial⟩ (rdF_rf _ M)) (Nat.lt_succ_self _)
