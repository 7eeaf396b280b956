abbrev q_X9_gathers (M : jM)  (h d : Int) : Int → jM → Prop := fun r N => r = sCnt (M 89) (M 90) h d (M 74 27).toNat ∧ (∀ j, 0 ≤ j → j < r → N 107 j = sSel (M 89) (M 90) h d (M 74 27).toNat j) ∧ ∀ c, c ≠ 107 → N c = M c
set_option maxHeartbeats 4000000 in
set_option maxRecDepth 20000 in
theorem c_X9_gathers {X : jX} (M : jM)  (h d : Int) (h_rlines : 0 ≤ M 74 27 ∧ M 74 27 ≤ 60) : jC yX9_gathers D_X9_gathers X FJ shJ [jR 74, jI h, jI d] M (jqI (q_X9_gathers M h d)) := by
  refine jC_of (by decide) rfl (fun ad => Nat.le_of_ble_eq_true rfl) (by decide) ?_
  show jG D_X9_gathers X FJ shJ 0 0 (jqI (q_X9_gathers M h d)) 0 [(0, jR 74), (1, jI h), (2, jI d)] [] M
  refine j_iconst dX9_gathers_0 (by decide) ?_
  refine j_istore_n (ls' := [(0, jR 74), (1, jI h), (2, jI d), (3, jI 0)]) dX9_gathers_1 rfl (by decide) rfl ?_
  refine j_iconst dX9_gathers_2 (by decide) ?_
  refine j_istore (ls' := [(0, jR 74), (1, jI h), (2, jI d), (3, jI 0), (4, jI 0)]) dX9_gathers_3 (by decide) rfl ?_
  have lp5_1 : ∀ n5 : Nat, ∀ (v3 v4 : Int), ∀ N5 : jM, (0 ≤ v4 ∧ v4 ≤ M 74 27) ∧ (v3 = sCnt (M 89) (M 90) h d v4.toNat) ∧ (∀ j, 0 ≤ j → j < v3 → N5 107 j = sSel (M 89) (M 90) h d v4.toNat j) ∧ (∀ c, c ≠ 107 → N5 c = M c) → (M 74 27 - v4).toNat < n5 → jG D_X9_gathers X FJ shJ 0 0 (jqI (q_X9_gathers M h d)) 5 [(0, jR 74), (1, jI h), (2, jI d), (3, jI v3), (4, jI v4)] ([]) N5 := by
    intro n5
    induction n5 with
    | zero => intro v3 v4 N5 _ hz; exact absurd hz (Nat.not_lt_zero _)
    | succ n5 ih5 =>
      intro v3 v4 N5 hinv hm
      obtain ⟨h1, h3, h5, hk⟩ := hinv
      have q3 := sCnt_in (M 89) (M 90) h d v4.toNat
      rw [← h3] at q3
      have e8 := toNat_c h1.1
      refine j_iload 4 dX9_gathers_5 rfl ?_
      refine j_aload_n 0 dX9_gathers_7 rfl rfl ?_
      refine j_geti (k' := 27) f_X9_275 o_74_27 dX9_gathers_8 rfl ?_
      refine j_eq (congrFun (hk 74 (by decide)) 27) ?_
      refine j_icmp_ge (tgt := 42) dX9_gathers_11 (by decide) (fun c11_2 => ?_) (fun c11_2 => ?_)
      · skip
        refine j_iload_n 3 dX9_gathers_42 rfl rfl ?_
        refine j_iret rfl rfl rfl rfl dX9_gathers_43 ?_
        have e6 : v4 = M 74 27 := by omega
        rw [e6] at h3 h5
        exact ⟨h3, h5, hk⟩
      · skip
        refine j_aload_n 0 dX9_gathers_14 rfl rfl ?_
        refine j_iload 4 dX9_gathers_15 rfl ?_
        refine j_iload_n 1 dX9_gathers_17 rfl rfl ?_
        refine j_iload_n 2 dX9_gathers_18 rfl rfl ?_
        refine j_callVi l_X9_287 ⟨Nat.le_of_ble_eq_true rfl, Nat.le_of_ble_eq_true rfl⟩ ⟨rfl, rfl⟩ dX9_gathers_19 ob_74 (c_X9_isLine N5 v4 h d (by first | assumption | omega)) rfl rfl (Nat.le_of_ble_eq_true rfl) (fun r_3 M_4 h_5 => ?_)
        obtain ⟨er_3, nh_5⟩ := h_5
        refine j_eqM nh_5 ?_
        clear nh_5
        simp only [(hk 89 (by decide)), (hk 90 (by decide))] at er_3
        refine j_if_eq (tgt := 36) dX9_gathers_22 (by decide) (fun c22_6 => ?_) (fun c22_6 => ?_)
        · skip
          obtain ⟨v4_7, ev4_7⟩ : ∃ y : Int, y = v4 + 1 := ⟨_, rfl⟩
          refine j_iinc (y := v4_7) (ls' := [(0, jR 74), (1, jI h), (2, jI d), (3, jI v3), (4, jI v4_7)]) 4 dX9_gathers_36 rfl ev4_7 (by omega) (by decide) rfl ?_
          refine j_goto (tgt := 5) dX9_gathers_39 (by decide) ?_
          exact ih5 v3 v4_7 N5 ⟨by omega, by rw [ev4_7, toNat_s h1.1]; first | (rw [sCnt_yes (by rw [e8]; omega)]; omega) | (rw [sCnt_no (by rw [e8]; omega)]; omega), by rw [ev4_7, toNat_s h1.1]; first | (intro j j0 j1; rw [jup_zz, jup_at]; exact sSel_put (F := fun z => z) h3 (by rw [e8]; omega) e8.symm h5 j j0 (by omega)) | exact sSel_skip (F := fun z => z) h3 h5, by intro c hc; first | exact hk c hc | (rw [jup_zz, jup_cell hc]; exact hk c hc)⟩ (by omega)
        · skip
          refine j_aload_n 0 dX9_gathers_25 rfl rfl ?_
          refine j_getr f_X9_108 r_74_48 dX9_gathers_26 ?_
          refine j_iload_n 3 dX9_gathers_29 rfl rfl ?_
          refine j_iload 4 dX9_gathers_30 rfl ?_
          refine j_iast a_107 dX9_gathers_32 (by omega) (by omega) ?_
          refine j_nmM (fun M_8 eM_8 => ?_)
          obtain ⟨v3_9, ev3_9⟩ : ∃ y : Int, y = v3 + 1 := ⟨_, rfl⟩
          refine j_iinc (y := v3_9) (ls' := [(0, jR 74), (1, jI h), (2, jI d), (3, jI v3_9), (4, jI v4)]) 3 dX9_gathers_33 rfl ev3_9 (by omega) (by decide) rfl ?_
          obtain ⟨v4_10, ev4_10⟩ : ∃ y : Int, y = v4 + 1 := ⟨_, rfl⟩
          refine j_iinc (y := v4_10) (ls' := [(0, jR 74), (1, jI h), (2, jI d), (3, jI v3_9), (4, jI v4_10)]) 4 dX9_gathers_36 rfl ev4_10 (by omega) (by decide) rfl ?_
          refine j_goto (tgt := 5) dX9_gathers_39 (by decide) ?_
          exact ih5 v3_9 v4_10 M_8 ⟨by omega, by rw [ev4_10, toNat_s h1.1]; first | (rw [sCnt_yes (by rw [e8]; omega)]; omega) | (rw [sCnt_no (by rw [e8]; omega)]; omega), by rw [ev4_10, toNat_s h1.1]; first | (intro j j0 j1; rw [eM_8, jup_at]; exact sSel_put (F := fun z => z) h3 (by rw [e8]; omega) e8.symm h5 j j0 (by omega)) | exact sSel_skip (F := fun z => z) h3 h5, by intro c hc; first | exact hk c hc | (rw [eM_8, jup_cell hc]; exact hk c hc)⟩ (by omega)
  exact lp5_1 _ 0 0 M ⟨by omega, by rfl, by intro j a b; omega, by intro c _; rfl⟩ (Nat.lt_succ_self _)
abbrev q_X9_isClash (M : jM)  (a b : Int) : Int → jM → Prop := fun r N => ((r = 1 ∧ (fClash (M 94) (M 95) (M 96) (M 91) (M 92) (M 93) a b = true)) ∨ (r = 0 ∧ ¬ (fClash (M 94) (M 95) (M 96) (M 91) (M 92) (M 93) a b = true))) ∧ N = M
set_option maxHeartbeats 4000000 in
set_option maxRecDepth 20000 in
theorem c_X9_isClash {X : jX} (M : jM)  (a b : Int) (h_rchecks : ∀ i, 0 ≤ M 94 i ∧ M 94 i ≤ 4) (h_rcerr : ∀ i, -90 ≤ M 96 i ∧ M 96 i ≤ 90) (h_rlwhere : ∀ i, M 91 i = -9 ∨ (0 ≤ M 91 i ∧ M 91 i < 6)) (h_rlin : ∀ i, 0 ≤ M 92 i ∧ M 92 i ≤ 1439) (h_rlout : ∀ i, 0 ≤ M 93 i ∧ M 93 i ≤ 1440) (h0 : 0 ≤ a ∧ a < 60 ∧ 0 ≤ b ∧ b < 60) : jC yX9_isClash D_X9_isClash X FJ shJ [jR 74, jI a, jI b] M (jqI (q_X9_isClash M a b)) := by
  refine jC_of (by decide) rfl (fun ad => Nat.le_of_ble_eq_true rfl) (by decide) ?_
  show jG D_X9_isClash X FJ shJ 0 0 (jqI (q_X9_isClash M a b)) 0 [(0, jR 74), (1, jI a), (2, jI b)] [] M
  refine j_aload_n 0 dX9_isClash_0 rfl rfl ?_
  refine j_iload_n 1 dX9_isClash_1 rfl rfl ?_
  refine j_iconst dX9_isClash_2 (by decide) ?_
  refine j_callVi l_X9_284 ⟨Nat.le_of_ble_eq_true rfl, Nat.le_of_ble_eq_true rfl⟩ ⟨rfl, rfl⟩ dX9_isClash_3 ob_74 (c_X9_inOf M a 1 h_rchecks h_rcerr h_rlwhere h_rlin (by first | assumption | omega)) rfl rfl (Nat.le_of_ble_eq_true rfl) (fun r_1 M_2 h_3 => ?_)
  obtain ⟨er_1, nh_3⟩ := h_3
  refine j_eqM nh_3 ?_
  clear nh_3
  refine j_aload_n 0 dX9_isClash_6 rfl rfl ?_
  refine j_iload_n 2 dX9_isClash_7 rfl rfl ?_
  refine j_iconst dX9_isClash_8 (by decide) ?_
  refine j_callVi l_X9_284 ⟨Nat.le_of_ble_eq_true rfl, Nat.le_of_ble_eq_true rfl⟩ ⟨rfl, rfl⟩ dX9_isClash_9 ob_74 (c_X9_inOf M b 1 h_rchecks h_rcerr h_rlwhere h_rlin (by first | assumption | omega)) rfl rfl (Nat.le_of_ble_eq_true rfl) (fun r_4 M_5 h_6 => ?_)
  obtain ⟨er_4, nh_6⟩ := h_6
  refine j_eqM nh_6 ?_
  clear nh_6
  refine j_callSi l_X9_302 ⟨Nat.le_of_ble_eq_true rfl, Nat.le_of_ble_eq_true rfl⟩ ⟨rfl, rfl⟩ dX9_isClash_12 (c_X9_greatest M r_1 r_4) rfl rfl (Nat.le_of_ble_eq_true rfl) (fun r_7 M_8 h_9 => ?_)
  obtain ⟨er_7, nh_9⟩ := h_9
  refine j_eqM nh_9 ?_
  clear nh_9
  refine j_aload_n 0 dX9_isClash_15 rfl rfl ?_
  refine j_iload_n 1 dX9_isClash_16 rfl rfl ?_
  refine j_iconst dX9_isClash_17 (by decide) ?_
  refine j_callVi l_X9_281 ⟨Nat.le_of_ble_eq_true rfl, Nat.le_of_ble_eq_true rfl⟩ ⟨rfl, rfl⟩ dX9_isClash_18 ob_74 (c_X9_outOf M a 0 h_rchecks h_rcerr h_rlwhere h_rlout (by first | assumption | omega)) rfl rfl (Nat.le_of_ble_eq_true rfl) (fun r_10 M_11 h_12 => ?_)
  obtain ⟨er_10, nh_12⟩ := h_12
  refine j_eqM nh_12 ?_
  clear nh_12
  refine j_aload_n 0 dX9_isClash_21 rfl rfl ?_
  refine j_iload_n 2 dX9_isClash_22 rfl rfl ?_
  refine j_iconst dX9_isClash_23 (by decide) ?_
  refine j_callVi l_X9_281 ⟨Nat.le_of_ble_eq_true rfl, Nat.le_of_ble_eq_true rfl⟩ ⟨rfl, rfl⟩ dX9_isClash_24 ob_74 (c_X9_outOf M b 0 h_rchecks h_rcerr h_rlwhere h_rlout (by first | assumption | omega)) rfl rfl (Nat.le_of_ble_eq_true rfl) (fun r_13 M_14 h_15 => ?_)
  obtain ⟨er_13, nh_15⟩ := h_15
  refine j_eqM nh_15 ?_
  clear nh_15
  refine j_callSi l_X9_305 ⟨Nat.le_of_ble_eq_true rfl, Nat.le_of_ble_eq_true rfl⟩ ⟨rfl, rfl⟩ dX9_isClash_27 (c_X9_least M r_10 r_13) rfl rfl (Nat.le_of_ble_eq_true rfl) (fun r_16 M_17 h_18 => ?_)
  obtain ⟨er_16, nh_18⟩ := h_18
  refine j_eqM nh_18 ?_
  clear nh_18
  have hJ_19 : ∀ zz : Int, (r_16 ≤ r_7 ∧ zz = 0) ∨ (¬ (r_16 ≤ r_7) ∧ zz = 1) → jG D_X9_isClash X FJ shJ 0 0 (jqI (q_X9_isClash M a b)) 38 [(0, jR 74), (1, jI a), (2, jI b)] (jI zz :: []) M := by
    intro t_20 et_20
    refine j_zret rfl rfl rfl rfl dX9_isClash_38 (by omega) ?_
    refine ⟨?_, rfl⟩
    unfold fClash
    rw [decide_eq_true_iff]
    omega
  refine j_icmp_ge (tgt := 37) dX9_isClash_30 (by decide) (fun c30_21 => ?_) (fun c30_21 => ?_)
  · skip
    refine j_iconst dX9_isClash_37 (by decide) ?_
    exact hJ_19 _ (Or.inl ⟨c30_21, rfl⟩)
  · skip
    refine j_iconst dX9_isClash_33 (by decide) ?_
    refine j_goto (tgt := 38) dX9_isClash_34 (by decide) ?_
    exact hJ_19 _ (Or.inr (⟨c30_21, rfl⟩))
abbrev q_X9_clash (M : jM)  (h d : Int) : Int → jM → Prop := fun r N => r = (if 0 ≤ h ∧ h < M 74 8 ∧ 0 ≤ d ∧ d ≤ 359 then cAll (fun a b => fClash (M 94) (M 95) (M 96) (M 91) (M 92) (M 93) (sSel (M 89) (M 90) h d (M 74 27).toNat a) (sSel (M 89) (M 90) h d (M 74 27).toNat b)) (sCnt (M 89) (M 90) h d (M 74 27).toNat).toNat else -1) ∧ ∀ c, c ≠ 107 → N c = jup M 74 0 0 c
set_option maxHeartbeats 4000000 in
set_option maxRecDepth 20000 in
theorem c_X9_clash {X : jX} (M : jM)  (h d : Int) (h_rhands : 0 ≤ M 74 8 ∧ M 74 8 ≤ 24) (h_rlines : 0 ≤ M 74 27 ∧ M 74 27 ≤ 60) (h_rchecks : ∀ i, 0 ≤ M 94 i ∧ M 94 i ≤ 4) (h_rcerr : ∀ i, -90 ≤ M 96 i ∧ M 96 i ≤ 90) (h_rlwhere : ∀ i, M 91 i = -9 ∨ (0 ≤ M 91 i ∧ M 91 i < 6)) (h_rlin : ∀ i, 0 ≤ M 92 i ∧ M 92 i ≤ 1439) (h_rlout : ∀ i, 0 ≤ M 93 i ∧ M 93 i ≤ 1440) : jC yX9_clash D_X9_clash X FJ shJ [jR 74, jI h, jI d] M (jqI (q_X9_clash M h d)) := by
  refine jC_of (by decide) rfl (fun ad => Nat.le_of_ble_eq_true rfl) (by decide) ?_
  show jG D_X9_clash X FJ shJ 0 0 (jqI (q_X9_clash M h d)) 0 [(0, jR 74), (1, jI h), (2, jI d)] [] M
  refine j_aload_n 0 dX9_clash_0 rfl rfl ?_
  refine j_iconst dX9_clash_1 (by decide) ?_
  refine j_puti (k' := 0) f_X9_124 o_74_0 dX9_clash_2 rfl ?_
  refine j_nmM (fun M_1 eM_1 => ?_)
  refine j_aload_n 0 dX9_clash_5 rfl rfl ?_
  refine j_iload_n 1 dX9_clash_6 rfl rfl ?_
  refine j_callVi l_X9_144 ⟨Nat.le_of_ble_eq_true rfl, Nat.le_of_ble_eq_true rfl⟩ ⟨rfl, rfl⟩ dX9_clash_7 ob_74 (c_X9_isHand M_1 h (by rw [((congrFun (congrFun eM_1 74) 8).trans (jup_ne (by decide)))]; exact h_rhands)) rfl rfl (Nat.le_of_ble_eq_true rfl) (fun r_2 M_3 h_4 => ?_)
  obtain ⟨er_2, nh_4⟩ := h_4
  refine j_eqM nh_4 ?_
  clear nh_4
  simp only [((congrFun (congrFun eM_1 74) 8).trans (jup_ne (by decide)))] at er_2
  refine j_if_eq (tgt := 20) dX9_clash_10 (by decide) (fun c10_5 => ?_) (fun c10_5 => ?_)
  · skip
    refine j_iconst dX9_clash_20 (by decide) ?_
    refine j_iret rfl rfl rfl rfl dX9_clash_21 ?_
    exact ⟨by rw [if_neg (by omega)], fun c hc => by rw [eM_1]⟩
  · skip
    refine j_iload_n 2 dX9_clash_13 rfl rfl ?_
    refine j_callSi l_X9_166 ⟨Nat.le_of_ble_eq_true rfl, Nat.le_of_ble_eq_true rfl⟩ ⟨rfl, rfl⟩ dX9_clash_14 (c_X9_isDay M_1 d) rfl rfl (Nat.le_of_ble_eq_true rfl) (fun r_6 M_7 h_8 => ?_)
    obtain ⟨er_6, nh_8⟩ := h_8
    refine j_eqM nh_8 ?_
    clear nh_8
    refine j_if_ne (tgt := 22) dX9_clash_17 (by decide) (fun c17_9 => ?_) (fun c17_9 => ?_)
    · skip
      refine j_aload_n 0 dX9_clash_22 rfl rfl ?_
      refine j_iload_n 1 dX9_clash_23 rfl rfl ?_
      refine j_iload_n 2 dX9_clash_24 rfl rfl ?_
      refine j_callVi l_X9_308 ⟨Nat.le_of_ble_eq_true rfl, Nat.le_of_ble_eq_true rfl⟩ ⟨rfl, rfl⟩ dX9_clash_25 ob_74 (c_X9_gathers M_1 h d (by rw [((congrFun (congrFun eM_1 74) 27).trans (jup_ne (by decide)))]; exact h_rlines)) rfl rfl (Nat.le_of_ble_eq_true rfl) (fun r_10 M_11 h_12 => ?_)
      obtain ⟨en, fn, frh_12⟩ := h_12
      refine j_istore_n (ls' := [(0, jR 74), (1, jI h), (2, jI d), (3, jI r_10)]) dX9_clash_28 rfl (by decide) rfl ?_
      simp only [(congrFun eM_1 89).trans (jup_cell (by decide)), (congrFun eM_1 90).trans (jup_cell (by decide)), (congrFun (congrFun eM_1 74) 27).trans (jup_ne (by decide))] at en fn
      have hq := sCnt_in (M 89) (M 90) h d (M 74 27).toNat
      have hn0 : 0 ≤ r_10 ∧ r_10 ≤ 60 := by omega
      refine j_iconst dX9_clash_29 (by decide) ?_
      refine j_istore (ls' := [(0, jR 74), (1, jI h), (2, jI d), (3, jI r_10), (4, jI 0)]) dX9_clash_30 (by decide) rfl ?_
      refine j_iconst dX9_clash_32 (by decide) ?_
      refine j_istore (ls' := [(0, jR 74), (1, jI h), (2, jI d), (3, jI r_10), (4, jI 0), (5, jI 0)]) dX9_clash_33 (by decide) rfl ?_
      have lp35_13 : ∀ n35 : Nat, ∀ (v4 v5 : Int), (0 ≤ v5 ∧ v5 ≤ r_10) ∧ (v4 = cAll (fun a b => fClash (M 94) (M 95) (M 96) (M 91) (M 92) (M 93) (sSel (M 89) (M 90) h d (M 74 27).toNat a) (sSel (M 89) (M 90) h d (M 74 27).toNat b)) v5.toNat) → (r_10 - v5).toNat < n35 → jG D_X9_clash X FJ shJ 0 0 (jqI (q_X9_clash M h d)) 35 [(0, jR 74), (1, jI h), (2, jI d), (3, jI r_10), (4, jI v4), (5, jI v5)] ([]) M_11 := by
        intro n35
        induction n35 with
        | zero => intro v4 v5  _ hz; exact absurd hz (Nat.not_lt_zero _)
        | succ n35 ih35 =>
          intro v4 v5  hinv hm
          obtain ⟨h1, h4⟩ := hinv
          have q4 := cAll_in (fun a b => fClash (M 94) (M 95) (M 96) (M 91) (M 92) (M 93) (sSel (M 89) (M 90) h d (M 74 27).toNat a) (sSel (M 89) (M 90) h d (M 74 27).toNat b)) v5.toNat (by omega)
          rw [← h4] at q4
          refine j_iload 5 dX9_clash_35 rfl ?_
          refine j_iload_n 3 dX9_clash_37 rfl rfl ?_
          refine j_icmp_ge (tgt := 94) dX9_clash_38 (by decide) (fun c38_14 => ?_) (fun c38_14 => ?_)
          · skip
            refine j_iload 4 dX9_clash_94 rfl ?_
            refine j_iret rfl rfl rfl rfl dX9_clash_96 ?_
            exact ⟨by rw [if_pos (by omega), ← en, ← show v5 = r_10 by omega]; exact h4, fun c hc => by rw [frh_12 c hc, eM_1]⟩
          · skip
            refine j_iconst dX9_clash_41 (by decide) ?_
            refine j_istore (ls' := [(0, jR 74), (1, jI h), (2, jI d), (3, jI r_10), (4, jI v4), (5, jI v5), (6, jI 0)]) dX9_clash_42 (by decide) rfl ?_
            have lp44_15 : ∀ n44 : Nat, ∀ (u4 v6 : Int), (0 ≤ v6 ∧ v6 ≤ v5) ∧ (u4 = v4 + cRow (fun a b => fClash (M 94) (M 95) (M 96) (M 91) (M 92) (M 93) (sSel (M 89) (M 90) h d (M 74 27).toNat a) (sSel (M 89) (M 90) h d (M 74 27).toNat b)) v5 v6.toNat) → (v5 - v6).toNat < n44 → jG D_X9_clash X FJ shJ 0 0 (jqI (q_X9_clash M h d)) 44 [(0, jR 74), (1, jI h), (2, jI d), (3, jI r_10), (4, jI u4), (5, jI v5), (6, jI v6)] ([]) M_11 := by
              intro n44
              induction n44 with
              | zero => intro u4 v6  _ hz; exact absurd hz (Nat.not_lt_zero _)
              | succ n44 ih44 =>
                intro u4 v6  hinv hm
                obtain ⟨g1, g4⟩ := hinv
                have q5 := cRow_in (fun a b => fClash (M 94) (M 95) (M 96) (M 91) (M 92) (M 93) (sSel (M 89) (M 90) h d (M 74 27).toNat a) (sSel (M 89) (M 90) h d (M 74 27).toNat b)) v5 v6.toNat
                refine j_iload 6 dX9_clash_44 rfl ?_
                refine j_iload 5 dX9_clash_46 rfl ?_
                refine j_icmp_ge (tgt := 88) dX9_clash_48 (by decide) (fun c48_16 => ?_) (fun c48_16 => ?_)
                · skip
                  obtain ⟨v5_17, ev5_17⟩ : ∃ y : Int, y = v5 + 1 := ⟨_, rfl⟩
                  refine j_iinc (y := v5_17) (ls' := [(0, jR 74), (1, jI h), (2, jI d), (3, jI r_10), (4, jI u4), (5, jI v5_17), (6, jI v6)]) 5 dX9_clash_88 rfl ev5_17 (by omega) (by decide) rfl ?_
                  refine j_goto (tgt := 35) dX9_clash_91 (by decide) ?_
                  refine j_sub (ls' := [(0, jR 74), (1, jI h), (2, jI d), (3, jI r_10), (4, jI u4), (5, jI v5_17)]) [0, 1, 2, 3, 4, 5] rfl ?_
                  exact ih35 u4 v5_17 ⟨by first | omega | grind, by rw [ev5_17, toNat_s h1.1]; unfold cAll; rw [toNat_c h1.1, ← h4, g4, show v6 = v5 by omega]⟩ (by omega)
                · skip
                  have z1 := fn v5 (by omega) (by omega)
                  have z2 := fn v6 (by omega) (by omega)
                  have y1 := sSel_in (M 89) (M 90) h d (M 74 27).toNat v5 (by omega) (by omega)
                  have y2 := sSel_in (M 89) (M 90) h d (M 74 27).toNat v6 (by omega) (by omega)
                  refine j_iload 4 dX9_clash_51 rfl ?_
                  refine j_aload_n 0 dX9_clash_53 rfl rfl ?_
                  refine j_aload_n 0 dX9_clash_54 rfl rfl ?_
                  refine j_getr f_X9_108 r_74_48 dX9_clash_55 ?_
                  refine j_iload 5 dX9_clash_58 rfl ?_
                  refine j_iald a_107 dX9_clash_60 (by omega) (by omega) ?_
                  refine j_aload_n 0 dX9_clash_61 rfl rfl ?_
                  refine j_getr f_X9_108 r_74_48 dX9_clash_62 ?_
                  refine j_iload 6 dX9_clash_65 rfl ?_
                  refine j_iald a_107 dX9_clash_67 (by omega) (by omega) ?_
                  refine j_callVi l_X9_311 ⟨Nat.le_of_ble_eq_true rfl, Nat.le_of_ble_eq_true rfl⟩ ⟨rfl, rfl⟩ dX9_clash_68 ob_74 (c_X9_isClash M_11 ((M_11 107 v5)) ((M_11 107 v6)) (by rw [(Eq.trans (frh_12 94 (by decide)) ((congrFun eM_1 94).trans (jup_cell (by decide))))]; exact h_rchecks) (by rw [(Eq.trans (frh_12 96 (by decide)) ((congrFun eM_1 96).trans (jup_cell (by decide))))]; exact h_rcerr) (by rw [(Eq.trans (frh_12 91 (by decide)) ((congrFun eM_1 91).trans (jup_cell (by decide))))]; exact h_rlwhere) (by rw [(Eq.trans (frh_12 92 (by decide)) ((congrFun eM_1 92).trans (jup_cell (by decide))))]; exact h_rlin) (by rw [(Eq.trans (frh_12 93 (by decide)) ((congrFun eM_1 93).trans (jup_cell (by decide))))]; exact h_rlout) (by first | assumption | omega)) rfl rfl (Nat.le_of_ble_eq_true rfl) (fun r_18 M_19 h_20 => ?_)
                  obtain ⟨er_18, nh_20⟩ := h_20
                  refine j_eqM nh_20 ?_
                  clear nh_20
                  simp only [(Eq.trans (frh_12 94 (by decide)) ((congrFun eM_1 94).trans (jup_cell (by decide)))), (Eq.trans (frh_12 95 (by decide)) ((congrFun eM_1 95).trans (jup_cell (by decide)))), (Eq.trans (frh_12 96 (by decide)) ((congrFun eM_1 96).trans (jup_cell (by decide)))), (Eq.trans (frh_12 91 (by decide)) ((congrFun eM_1 91).trans (jup_cell (by decide)))), (Eq.trans (frh_12 92 (by decide)) ((congrFun eM_1 92).trans (jup_cell (by decide)))), (Eq.trans (frh_12 93 (by decide)) ((congrFun eM_1 93).trans (jup_cell (by decide))))] at er_18
                  rw [z1, z2] at er_18
                  have hJ_21 : ∀ zz : Int, (r_18 = 0 ∧ zz = 0) ∨ (¬ r_18 = 0 ∧ zz = 1) → jG D_X9_clash X FJ shJ 0 0 (jqI (q_X9_clash M h d)) 79 [(0, jR 74), (1, jI h), (2, jI d), (3, jI r_10), (4, jI u4), (5, jI v5), (6, jI v6)] (jI zz :: jI u4 :: []) M_11 := by
                    intro t_22 et_22
                    refine j_iadd dX9_clash_79 (by omega) ?_
                    refine j_nm (fun v4_23 ev4_23 => ?_)
                    refine j_istore (ls' := [(0, jR 74), (1, jI h), (2, jI d), (3, jI r_10), (4, jI v4_23), (5, jI v5), (6, jI v6)]) dX9_clash_80 (by decide) rfl ?_
                    obtain ⟨v6_24, ev6_24⟩ : ∃ y : Int, y = v6 + 1 := ⟨_, rfl⟩
                    refine j_iinc (y := v6_24) (ls' := [(0, jR 74), (1, jI h), (2, jI d), (3, jI r_10), (4, jI v4_23), (5, jI v5), (6, jI v6_24)]) 6 dX9_clash_82 rfl ev6_24 (by omega) (by decide) rfl ?_
                    refine j_goto (tgt := 44) dX9_clash_85 (by decide) ?_
                    exact ih44 v4_23 v6_24 ⟨by first | omega | grind, by rw [ev6_24, toNat_s g1.1]; unfold cRow; rw [toNat_c g1.1, ev4_23, g4]; (rcases er_18 with ⟨ea, eb⟩ | ⟨ea, eb⟩) <;> (first | (rw [if_pos eb]; omega) | (rw [if_neg eb]; omega))⟩ (by omega)
                  refine j_if_eq (tgt := 78) dX9_clash_71 (by decide) (fun c71_25 => ?_) (fun c71_25 => ?_)
                  · skip
                    refine j_iconst dX9_clash_78 (by decide) ?_
                    exact hJ_21 _ (Or.inl ⟨c71_25, rfl⟩)
                  · skip
                    refine j_iconst dX9_clash_74 (by decide) ?_
                    refine j_goto (tgt := 79) dX9_clash_75 (by decide) ?_
                    exact hJ_21 _ (Or.inr (⟨c71_25, rfl⟩))
            exact lp44_15 _ v4 0 ⟨by omega, by show v4 = v4 + 0; omega⟩ (Nat.lt_succ_self _)
      exact lp35_13 _ 0 0 ⟨by first | omega | rfl, by first | omega | rfl⟩ (Nat.lt_succ_self _)
    · skip
      refine j_iconst dX9_clash_20 (by decide) ?_
      refine j_iret rfl rfl rfl rfl dX9_clash_21 ?_
      exact ⟨by rw [if_neg (by omega)], fun c hc => by rw [eM_1]⟩
abbrev q_X1_pick (M : jM)  (h d : Int) : jM → Prop := fun N => pPicked M N h d (M 16 0).toNat
set_option maxHeartbeats 4000000 in
set_option maxRecDepth 20000 in
theorem c_X1_pick {X : jX} (M : jM)  (h d : Int) (h_clines : 0 ≤ M 16 0 ∧ M 16 0 ≤ 60) (h_cchecks : ∀ i, 0 ≤ M 6 i ∧ M 6 i ≤ 4) (h_ccerr : ∀ i, -90 ≤ M 8 i ∧ M 8 i ≤ 90) (h_clwhere : ∀ i, M 19 i = -9 ∨ (0 ≤ M 19 i ∧ M 19 i < 6)) (h_clin : ∀ i, 0 ≤ M 20 i ∧ M 20 i ≤ 1439) (h_clout : ∀ i, 0 ≤ M 21 i ∧ M 21 i ≤ 1440) : jC yX1_pick D_X1_pick X FJ shJ [jR 16, jI h, jI d] M (jqV (q_X1_pick M h d)) := by
  refine jC_of (by decide) rfl (fun ad => Nat.le_of_ble_eq_true rfl) (by decide) ?_
  show jG D_X1_pick X FJ shJ 0 0 (jqV (q_X1_pick M h d)) 0 [(0, jR 16), (1, jI h), (2, jI d)] [] M
  refine j_aload_n 0 dX1_pick_0 rfl rfl ?_
  refine j_iconst dX1_pick_1 (by decide) ?_
  refine j_puti (k' := 6) f_X1_53 o_16_6 dX1_pick_2 rfl ?_
  refine j_nmM (fun M_1 eM_1 => ?_)
  refine j_iconst dX1_pick_5 (by decide) ?_
  refine j_istore_n (ls' := [(0, jR 16), (1, jI h), (2, jI d), (3, jI 0)]) dX1_pick_6 rfl (by decide) rfl ?_
  have lp7_2 : ∀ n7 : Nat, ∀ (v3 : Int), ∀ N7 : jM, (0 ≤ v3 ∧ v3 ≤ M 16 0) ∧ (N7 16 6 = sCnt (M 17) (M 18) h d v3.toNat) ∧ (∀ j, 0 ≤ j → j < N7 16 6 → N7 22 j = (fun z => M 19 z) (sSel (M 17) (M 18) h d v3.toNat j)) ∧ (∀ j, 0 ≤ j → j < N7 16 6 → N7 23 j = (fun z => pT M z (M 20 z) 0) (sSel (M 17) (M 18) h d v3.toNat j)) ∧ (∀ j, 0 ≤ j → j < N7 16 6 → N7 24 j = (fun z => pT M z (M 20 z) 1) (sSel (M 17) (M 18) h d v3.toNat j)) ∧ (∀ j, 0 ≤ j → j < N7 16 6 → N7 25 j = (fun z => pT M z (M 21 z) 0) (sSel (M 17) (M 18) h d v3.toNat j)) ∧ (∀ j, 0 ≤ j → j < N7 16 6 → N7 26 j = (fun z => pT M z (M 21 z) 1) (sSel (M 17) (M 18) h d v3.toNat j)) ∧ (∀ c, c ≠ 16 → c ≠ 22 → c ≠ 23 → c ≠ 24 → c ≠ 25 → c ≠ 26 → N7 c = M c) ∧ (∀ k, k ≠ 6 → N7 16 k = M 16 k) → (M 16 0 - v3).toNat < n7 → jG D_X1_pick X FJ shJ 0 0 (jqV (q_X1_pick M h d)) 7 [(0, jR 16), (1, jI h), (2, jI d), (3, jI v3)] ([]) N7 := by
    intro n7
    induction n7 with
    | zero => intro v3 N7 _ hz; exact absurd hz (Nat.not_lt_zero _)
    | succ n7 ih7 =>
      intro v3 N7 hinv hm
      obtain ⟨h1, hc, p22, p23, p24, p25, p26, hk, hk2⟩ := hinv
      have q3 := sCnt_in (M 17) (M 18) h d v3.toNat
      rw [← hc] at q3
      have e8 := toNat_c h1.1
      have x1 := h_clwhere v3
      have x2 := h_clin v3
      have x3 := h_clout v3
      refine j_iload_n 3 dX1_pick_7 rfl rfl ?_
      refine j_aload_n 0 dX1_pick_8 rfl rfl ?_
      refine j_geti (k' := 0) f_X1_49 o_16_0 dX1_pick_9 rfl ?_
      refine j_eq (hk2 0 (by decide)) ?_
      refine j_icmp_ge (tgt := 182) dX1_pick_12 (by decide) (fun c12_3 => ?_) (fun c12_3 => ?_)
      · skip
        refine j_vret rfl rfl rfl rfl dX1_pick_182 ?_
        have e6 : v3 = M 16 0 := by omega
        rw [e6] at hc p22 p23 p24 p25 p26
        exact ⟨hc, p22, p23, p24, p25, p26, hk, hk2⟩
      · skip
        refine j_aload_n 0 dX1_pick_15 rfl rfl ?_
        refine j_getr f_X1_11 r_16_1 dX1_pick_16 ?_
        refine j_iload_n 3 dX1_pick_19 rfl rfl ?_
        refine j_iald a_17 dX1_pick_20 (by omega) (by omega) ?_
        refine j_eq (congrFun (hk 17 (by decide) (by decide) (by decide) (by decide) (by decide) (by decide)) v3) ?_
        refine j_iload_n 1 dX1_pick_21 rfl rfl ?_
        refine j_icmp_ne (tgt := 176) dX1_pick_22 (by decide) (fun c22_4 => ?_) (fun c22_4 => ?_)
        · skip
          obtain ⟨v3_5, ev3_5⟩ : ∃ y : Int, y = v3 + 1 := ⟨_, rfl⟩
          refine j_iinc (y := v3_5) (ls' := [(0, jR 16), (1, jI h), (2, jI d), (3, jI v3_5)]) 3 dX1_pick_176 rfl ev3_5 (by omega) (by decide) rfl ?_
          refine j_goto (tgt := 7) dX1_pick_179 (by decide) ?_
          exact ih7 v3_5 N7 ⟨by omega, by rw [ev3_5, toNat_s h1.1]; first | (rw [sCnt_yes (by rw [e8]; omega), ← hc, jup_zz, jup_self]) | (rw [sCnt_no (by rw [e8]; omega)]; exact hc), by rw [ev3_5, toNat_s h1.1]; first | exact sSel_skip (F := fun z => M 19 z) hc p22 | (have ea : N7 16 6 = N7 16 6 + 1 := (by rw [jup_zz, jup_self]); intro j j0 j1; rw [ea] at j1; rw [jup_zz]; refine sSel_put (F := fun z => M 19 z) hc ?_ ?_ p22 j j0 j1 <;> rw [e8] <;> first | omega | rfl | assumption | (simp only [pT]; assumption)), by rw [ev3_5, toNat_s h1.1]; first | exact sSel_skip (F := fun z => pT M z (M 20 z) 0) hc p23 | (have ea : N7 16 6 = N7 16 6 + 1 := (by rw [jup_zz, jup_self]); intro j j0 j1; rw [ea] at j1; rw [jup_zz]; refine sSel_put (F := fun z => pT M z (M 20 z) 0) hc ?_ ?_ p23 j j0 j1 <;> rw [e8] <;> first | omega | rfl | assumption | (simp only [pT]; assumption)), by rw [ev3_5, toNat_s h1.1]; first | exact sSel_skip (F := fun z => pT M z (M 20 z) 1) hc p24 | (have ea : N7 16 6 = N7 16 6 + 1 := (by rw [jup_zz, jup_self]); intro j j0 j1; rw [ea] at j1; rw [jup_zz]; refine sSel_put (F := fun z => pT M z (M 20 z) 1) hc ?_ ?_ p24 j j0 j1 <;> rw [e8] <;> first | omega | rfl | assumption | (simp only [pT]; assumption)), by rw [ev3_5, toNat_s h1.1]; first | exact sSel_skip (F := fun z => pT M z (M 21 z) 0) hc p25 | (have ea : N7 16 6 = N7 16 6 + 1 := (by rw [jup_zz, jup_self]); intro j j0 j1; rw [ea] at j1; rw [jup_zz]; refine sSel_put (F := fun z => pT M z (M 21 z) 0) hc ?_ ?_ p25 j j0 j1 <;> rw [e8] <;> first | omega | rfl | assumption | (simp only [pT]; assumption)), by rw [ev3_5, toNat_s h1.1]; first | exact sSel_skip (F := fun z => pT M z (M 21 z) 1) hc p26 | (have ea : N7 16 6 = N7 16 6 + 1 := (by rw [jup_zz, jup_self]); intro j j0 j1; rw [ea] at j1; rw [jup_zz]; refine sSel_put (F := fun z => pT M z (M 21 z) 1) hc ?_ ?_ p26 j j0 j1 <;> rw [e8] <;> first | omega | rfl | assumption | (simp only [pT]; assumption)), by first | exact hk | (intro c z1 z2 z3 z4 z5 z6; rw [jup_zz, jup_cell z1, jup_cell z6, jup_cell z5, jup_cell z4, jup_cell z3, jup_cell z2]; exact hk c z1 z2 z3 z4 z5 z6), by first | exact hk2 | (intro k z; rw [jup_zz, jup_ne (fun y => z y.2), jup_cellk (by decide), jup_cellk (by decide), jup_cellk (by decide), jup_cellk (by decide), jup_cellk (by decide)]; exact hk2 k z)⟩ (by omega)
        · skip
          refine j_aload_n 0 dX1_pick_25 rfl rfl ?_
          refine j_getr f_X1_15 r_16_2 dX1_pick_26 ?_
          refine j_iload_n 3 dX1_pick_29 rfl rfl ?_
          refine j_iald a_18 dX1_pick_30 (by omega) (by omega) ?_
          refine j_eq (congrFun (hk 18 (by decide) (by decide) (by decide) (by decide) (by decide) (by decide)) v3) ?_
          refine j_iload_n 2 dX1_pick_31 rfl rfl ?_
          refine j_icmp_ne (tgt := 176) dX1_pick_32 (by decide) (fun c32_6 => ?_) (fun c32_6 => ?_)
          · skip
            obtain ⟨v3_7, ev3_7⟩ : ∃ y : Int, y = v3 + 1 := ⟨_, rfl⟩
            refine j_iinc (y := v3_7) (ls' := [(0, jR 16), (1, jI h), (2, jI d), (3, jI v3_7)]) 3 dX1_pick_176 rfl ev3_7 (by omega) (by decide) rfl ?_
            refine j_goto (tgt := 7) dX1_pick_179 (by decide) ?_
            exact ih7 v3_7 N7 ⟨by omega, by rw [ev3_7, toNat_s h1.1]; first | (rw [sCnt_yes (by rw [e8]; omega), ← hc, jup_zz, jup_self]) | (rw [sCnt_no (by rw [e8]; omega)]; exact hc), by rw [ev3_7, toNat_s h1.1]; first | exact sSel_skip (F := fun z => M 19 z) hc p22 | (have ea : N7 16 6 = N7 16 6 + 1 := (by rw [jup_zz, jup_self]); intro j j0 j1; rw [ea] at j1; rw [jup_zz]; refine sSel_put (F := fun z => M 19 z) hc ?_ ?_ p22 j j0 j1 <;> rw [e8] <;> first | omega | rfl | assumption | (simp only [pT]; assumption)), by rw [ev3_7, toNat_s h1.1]; first | exact sSel_skip (F := fun z => pT M z (M 20 z) 0) hc p23 | (have ea : N7 16 6 = N7 16 6 + 1 := (by rw [jup_zz, jup_self]); intro j j0 j1; rw [ea] at j1; rw [jup_zz]; refine sSel_put (F := fun z => pT M z (M 20 z) 0) hc ?_ ?_ p23 j j0 j1 <;> rw [e8] <;> first | omega | rfl | assumption | (simp only [pT]; assumption)), by rw [ev3_7, toNat_s h1.1]; first | exact sSel_skip (F := fun z => pT M z (M 20 z) 1) hc p24 | (have ea : N7 16 6 = N7 16 6 + 1 := (by rw [jup_zz, jup_self]); intro j j0 j1; rw [ea] at j1; rw [jup_zz]; refine sSel_put (F := fun z => pT M z (M 20 z) 1) hc ?_ ?_ p24 j j0 j1 <;> rw [e8] <;> first | omega | rfl | assumption | (simp only [pT]; assumption)), by rw [ev3_7, toNat_s h1.1]; first | exact sSel_skip (F := fun z => pT M z (M 21 z) 0) hc p25 | (have ea : N7 16 6 = N7 16 6 + 1 := (by rw [jup_zz, jup_self]); intro j j0 j1; rw [ea] at j1; rw [jup_zz]; refine sSel_put (F := fun z => pT M z (M 21 z) 0) hc ?_ ?_ p25 j j0 j1 <;> rw [e8] <;> first | omega | rfl | assumption | (simp only [pT]; assumption)), by rw [ev3_7, toNat_s h1.1]; first | exact sSel_skip (F := fun z => pT M z (M 21 z) 1) hc p26 | (have ea : N7 16 6 = N7 16 6 + 1 := (by rw [jup_zz, jup_self]); intro j j0 j1; rw [ea] at j1; rw [jup_zz]; refine sSel_put (F := fun z => pT M z (M 21 z) 1) hc ?_ ?_ p26 j j0 j1 <;> rw [e8] <;> first | omega | rfl | assumption | (simp only [pT]; assumption)), by first | exact hk | (intro c z1 z2 z3 z4 z5 z6; rw [jup_zz, jup_cell z1, jup_cell z6, jup_cell z5, jup_cell z4, jup_cell z3, jup_cell z2]; exact hk c z1 z2 z3 z4 z5 z6), by first | exact hk2 | (intro k z; rw [jup_zz, jup_ne (fun y => z y.2), jup_cellk (by decide), jup_cellk (by decide), jup_cellk (by decide), jup_cellk (by decide), jup_cellk (by decide)]; exact hk2 k z)⟩ (by omega)
          · skip
            refine j_aload_n 0 dX1_pick_35 rfl rfl ?_
            refine j_getr f_X1_27 r_16_7 dX1_pick_36 ?_
            refine j_aload_n 0 dX1_pick_39 rfl rfl ?_
            refine j_geti (k' := 6) f_X1_53 o_16_6 dX1_pick_40 rfl ?_
            refine j_aload_n 0 dX1_pick_43 rfl rfl ?_
            refine j_getr f_X1_18 r_16_3 dX1_pick_44 ?_
            refine j_iload_n 3 dX1_pick_47 rfl rfl ?_
            refine j_iald a_19 dX1_pick_48 (by omega) (by omega) ?_
            refine j_eq (congrFun (hk 19 (by decide) (by decide) (by decide) (by decide) (by decide) (by decide)) v3) ?_
            have g_8 := h_clwhere v3
            refine j_iast a_22 dX1_pick_49 (by omega) (by omega) ?_
            refine j_nmM (fun M_9 eM_9 => ?_)
            refine j_aload_n 0 dX1_pick_50 rfl rfl ?_
            refine j_getr f_X1_30 r_16_8 dX1_pick_51 ?_
            refine j_aload_n 0 dX1_pick_54 rfl rfl ?_
            refine j_geti (k' := 6) f_X1_53 o_16_6 dX1_pick_55 rfl ?_
            refine j_eq (congrFun ((congrFun eM_9 16).trans (jup_cell (by decide))) 6) ?_
            refine j_aload_n 0 dX1_pick_58 rfl rfl ?_
            refine j_getr f_X1_45 r_16_13 dX1_pick_59 ?_
            refine j_aload_n 0 dX1_pick_62 rfl rfl ?_
            refine j_getr f_X1_18 r_16_3 dX1_pick_63 ?_
            refine j_iload_n 3 dX1_pick_66 rfl rfl ?_
            refine j_iald a_19 dX1_pick_67 (by omega) (by omega) ?_
            refine j_eq (Eq.trans (congrFun ((congrFun eM_9 19).trans (jup_cell (by decide))) v3) (congrFun (hk 19 (by decide) (by decide) (by decide) (by decide) (by decide) (by decide)) v3)) ?_
            have g_10 := h_clwhere v3
            refine j_aload_n 0 dX1_pick_68 rfl rfl ?_
            refine j_getr f_X1_21 r_16_4 dX1_pick_69 ?_
            refine j_iload_n 3 dX1_pick_72 rfl rfl ?_
            refine j_iald a_20 dX1_pick_73 (by omega) (by omega) ?_
            refine j_eq (Eq.trans (congrFun ((congrFun eM_9 20).trans (jup_cell (by decide))) v3) (congrFun (hk 20 (by decide) (by decide) (by decide) (by decide) (by decide) (by decide)) v3)) ?_
            have g_11 := h_clin v3
            refine j_iconst dX1_pick_74 (by decide) ?_
            refine j_callVi l_X1_56 ⟨Nat.le_of_ble_eq_true rfl, Nat.le_of_ble_eq_true rfl⟩ ⟨rfl, rfl⟩ dX1_pick_75 ob_1 (c_X4_inTruth M_9 ((M 19 v3)) ((M 20 v3)) 0 (by rw [(Eq.trans ((congrFun eM_9 6).trans (jup_cell (by decide))) (hk 6 (by decide) (by decide) (by decide) (by decide) (by decide) (by decide)))]; exact h_cchecks) (by rw [(Eq.trans ((congrFun eM_9 8).trans (jup_cell (by decide))) (hk 8 (by decide) (by decide) (by decide) (by decide) (by decide) (by decide)))]; exact h_ccerr) (by first | assumption | omega) (by first | assumption | omega)) rfl rfl (Nat.le_of_ble_eq_true rfl) (fun r_12 M_13 h_14 => ?_)
            obtain ⟨er_12, nh_14⟩ := h_14
            refine j_eqM nh_14 ?_
            clear nh_14
            simp only [(Eq.trans ((congrFun eM_9 6).trans (jup_cell (by decide))) (hk 6 (by decide) (by decide) (by decide) (by decide) (by decide) (by decide))), (Eq.trans ((congrFun eM_9 7).trans (jup_cell (by decide))) (hk 7 (by decide) (by decide) (by decide) (by decide) (by decide) (by decide))), (Eq.trans ((congrFun eM_9 8).trans (jup_cell (by decide))) (hk 8 (by decide) (by decide) (by decide) (by decide) (by decide) (by decide)))] at er_12
            refine j_iast a_23 dX1_pick_78 (by omega) (by omega) ?_
            refine j_nmM (fun M_15 eM_15 => ?_)
            refine j_aload_n 0 dX1_pick_79 rfl rfl ?_
            refine j_getr f_X1_33 r_16_9 dX1_pick_80 ?_
            refine j_aload_n 0 dX1_pick_83 rfl rfl ?_
            refine j_geti (k' := 6) f_X1_53 o_16_6 dX1_pick_84 rfl ?_
            refine j_eq (Eq.trans (congrFun ((congrFun eM_15 16).trans (jup_cell (by decide))) 6) (congrFun ((congrFun eM_9 16).trans (jup_cell (by decide))) 6)) ?_
            refine j_aload_n 0 dX1_pick_87 rfl rfl ?_
            refine j_getr f_X1_45 r_16_13 dX1_pick_88 ?_
            refine j_aload_n 0 dX1_pick_91 rfl rfl ?_
            refine j_getr f_X1_18 r_16_3 dX1_pick_92 ?_
            refine j_iload_n 3 dX1_pick_95 rfl rfl ?_
            refine j_iald a_19 dX1_pick_96 (by omega) (by omega) ?_
            refine j_eq (Eq.trans (congrFun ((congrFun eM_15 19).trans (jup_cell (by decide))) v3) (Eq.trans (congrFun ((congrFun eM_9 19).trans (jup_cell (by decide))) v3) (congrFun (hk 19 (by decide) (by decide) (by decide) (by decide) (by decide) (by decide)) v3))) ?_
            have g_16 := h_clwhere v3
            refine j_aload_n 0 dX1_pick_97 rfl rfl ?_
            refine j_getr f_X1_21 r_16_4 dX1_pick_98 ?_
            refine j_iload_n 3 dX1_pick_101 rfl rfl ?_
            refine j_iald a_20 dX1_pick_102 (by omega) (by omega) ?_
            refine j_eq (Eq.trans (congrFun ((congrFun eM_15 20).trans (jup_cell (by decide))) v3) (Eq.trans (congrFun ((congrFun eM_9 20).trans (jup_cell (by decide))) v3) (congrFun (hk 20 (by decide) (by decide) (by decide) (by decide) (by decide) (by decide)) v3))) ?_
            have g_17 := h_clin v3
            refine j_iconst dX1_pick_103 (by decide) ?_
            refine j_callVi l_X1_56 ⟨Nat.le_of_ble_eq_true rfl, Nat.le_of_ble_eq_true rfl⟩ ⟨rfl, rfl⟩ dX1_pick_104 ob_1 (c_X4_inTruth M_15 ((M 19 v3)) ((M 20 v3)) 1 (by rw [(Eq.trans ((congrFun eM_15 6).trans (jup_cell (by decide))) (Eq.trans ((congrFun eM_9 6).trans (jup_cell (by decide))) (hk 6 (by decide) (by decide) (by decide) (by decide) (by decide) (by decide))))]; exact h_cchecks) (by rw [(Eq.trans ((congrFun eM_15 8).trans (jup_cell (by decide))) (Eq.trans ((congrFun eM_9 8).trans (jup_cell (by decide))) (hk 8 (by decide) (by decide) (by decide) (by decide) (by decide) (by decide))))]; exact h_ccerr) (by first | assumption | omega) (by first | assumption | omega)) rfl rfl (Nat.le_of_ble_eq_true rfl) (fun r_18 M_19 h_20 => ?_)
            obtain ⟨er_18, nh_20⟩ := h_20
            refine j_eqM nh_20 ?_
            clear nh_20
            simp only [(Eq.trans ((congrFun eM_15 6).trans (jup_cell (by decide))) (Eq.trans ((congrFun eM_9 6).trans (jup_cell (by decide))) (hk 6 (by decide) (by decide) (by decide) (by decide) (by decide) (by decide)))), (Eq.trans ((congrFun eM_15 7).trans (jup_cell (by decide))) (Eq.trans ((congrFun eM_9 7).trans (jup_cell (by decide))) (hk 7 (by decide) (by decide) (by decide) (by decide) (by decide) (by decide)))), (Eq.trans ((congrFun eM_15 8).trans (jup_cell (by decide))) (Eq.trans ((congrFun eM_9 8).trans (jup_cell (by decide))) (hk 8 (by decide) (by decide) (by decide) (by decide) (by decide) (by decide))))] at er_18
            refine j_iast a_24 dX1_pick_107 (by omega) (by omega) ?_
            refine j_nmM (fun M_21 eM_21 => ?_)
            refine j_aload_n 0 dX1_pick_108 rfl rfl ?_
            refine j_getr f_X1_36 r_16_10 dX1_pick_109 ?_
            refine j_aload_n 0 dX1_pick_112 rfl rfl ?_
            refine j_geti (k' := 6) f_X1_53 o_16_6 dX1_pick_113 rfl ?_
            refine j_eq (Eq.trans (congrFun ((congrFun eM_21 16).trans (jup_cell (by decide))) 6) (Eq.trans (congrFun ((congrFun eM_15 16).trans (jup_cell (by decide))) 6) (congrFun ((congrFun eM_9 16).trans (jup_cell (by decide))) 6))) ?_
            refine j_aload_n 0 dX1_pick_116 rfl rfl ?_
            refine j_getr f_X1_45 r_16_13 dX1_pick_117 ?_
            refine j_aload_n 0 dX1_pick_120 rfl rfl ?_
            refine j_getr f_X1_18 r_16_3 dX1_pick_121 ?_
            refine j_iload_n 3 dX1_pick_124 rfl rfl ?_
            refine j_iald a_19 dX1_pick_125 (by omega) (by omega) ?_
            refine j_eq (Eq.trans (congrFun ((congrFun eM_21 19).trans (jup_cell (by decide))) v3) (Eq.trans (congrFun ((congrFun eM_15 19).trans (jup_cell (by decide))) v3) (Eq.trans (congrFun ((congrFun eM_9 19).trans (jup_cell (by decide))) v3) (congrFun (hk 19 (by decide) (by decide) (by decide) (by decide) (by decide) (by decide)) v3)))) ?_
            have g_22 := h_clwhere v3
            refine j_aload_n 0 dX1_pick_126 rfl rfl ?_
            refine j_getr f_X1_24 r_16_5 dX1_pick_127 ?_
            refine j_iload_n 3 dX1_pick_130 rfl rfl ?_
            refine j_iald a_21 dX1_pick_131 (by omega) (by omega) ?_
            refine j_eq (Eq.trans (congrFun ((congrFun eM_21 21).trans (jup_cell (by decide))) v3) (Eq.trans (congrFun ((congrFun eM_15 21).trans (jup_cell (by decide))) v3) (Eq.trans (congrFun ((congrFun eM_9 21).trans (jup_cell (by decide))) v3) (congrFun (hk 21 (by decide) (by decide) (by decide) (by decide) (by decide) (by decide)) v3)))) ?_
            have g_23 := h_clout v3
            refine j_iconst dX1_pick_132 (by decide) ?_
            refine j_callVi l_X1_56 ⟨Nat.le_of_ble_eq_true rfl, Nat.le_of_ble_eq_true rfl⟩ ⟨rfl, rfl⟩ dX1_pick_133 ob_1 (c_X4_inTruth M_21 ((M 19 v3)) ((M 21 v3)) 0 (by rw [(Eq.trans ((congrFun eM_21 6).trans (jup_cell (by decide))) (Eq.trans ((congrFun eM_15 6).trans (jup_cell (by decide))) (Eq.trans ((congrFun eM_9 6).trans (jup_cell (by decide))) (hk 6 (by decide) (by decide) (by decide) (by decide) (by decide) (by decide)))))]; exact h_cchecks) (by rw [(Eq.trans ((congrFun eM_21 8).trans (jup_cell (by decide))) (Eq.trans ((congrFun eM_15 8).trans (jup_cell (by decide))) (Eq.trans ((congrFun eM_9 8).trans (jup_cell (by decide))) (hk 8 (by decide) (by decide) (by decide) (by decide) (by decide) (by decide)))))]; exact h_ccerr) (by first | assumption | omega) (by first | assumption | omega)) rfl rfl (Nat.le_of_ble_eq_true rfl) (fun r_24 M_25 h_26 => ?_)
            obtain ⟨er_24, nh_26⟩ := h_26
            refine j_eqM nh_26 ?_
            clear nh_26
            simp only [(Eq.trans ((congrFun eM_21 6).trans (jup_cell (by decide))) (Eq.trans ((congrFun eM_15 6).trans (jup_cell (by decide))) (Eq.trans ((congrFun eM_9 6).trans (jup_cell (by decide))) (hk 6 (by decide) (by decide) (by decide) (by decide) (by decide) (by decide))))), (Eq.trans ((congrFun eM_21 7).trans (jup_cell (by decide))) (Eq.trans ((congrFun eM_15 7).trans (jup_cell (by decide))) (Eq.trans ((congrFun eM_9 7).trans (jup_cell (by decide))) (hk 7 (by decide) (by decide) (by decide) (by decide) (by decide) (by decide))))), (Eq.trans ((congrFun eM_21 8).trans (jup_cell (by decide))) (Eq.trans ((congrFun eM_15 8).trans (jup_cell (by decide))) (Eq.trans ((congrFun eM_9 8).trans (jup_cell (by decide))) (hk 8 (by decide) (by decide) (by decide) (by decide) (by decide) (by decide)))))] at er_24
            refine j_iast a_25 dX1_pick_136 (by omega) (by omega) ?_
            refine j_nmM (fun M_27 eM_27 => ?_)
            refine j_aload_n 0 dX1_pick_137 rfl rfl ?_
            refine j_getr f_X1_39 r_16_11 dX1_pick_138 ?_
            refine j_aload_n 0 dX1_pick_141 rfl rfl ?_
            refine j_geti (k' := 6) f_X1_53 o_16_6 dX1_pick_142 rfl ?_
            refine j_eq (Eq.trans (congrFun ((congrFun eM_27 16).trans (jup_cell (by decide))) 6) (Eq.trans (congrFun ((congrFun eM_21 16).trans (jup_cell (by decide))) 6) (Eq.trans (congrFun ((congrFun eM_15 16).trans (jup_cell (by decide))) 6) (congrFun ((congrFun eM_9 16).trans (jup_cell (by decide))) 6)))) ?_
            refine j_aload_n 0 dX1_pick_145 rfl rfl ?_
            refine j_getr f_X1_45 r_16_13 dX1_pick_146 ?_
            refine j_aload_n 0 dX1_pick_149 rfl rfl ?_
            refine j_getr f_X1_18 r_16_3 dX1_pick_150 ?_
            refine j_iload_n 3 dX1_pick_153 rfl rfl ?_
            refine j_iald a_19 dX1_pick_154 (by omega) (by omega) ?_
            refine j_eq (Eq.trans (congrFun ((congrFun eM_27 19).trans (jup_cell (by decide))) v3) (Eq.trans (congrFun ((congrFun eM_21 19).trans (jup_cell (by decide))) v3) (Eq.trans (congrFun ((congrFun eM_15 19).trans (jup_cell (by decide))) v3) (Eq.trans (congrFun ((congrFun eM_9 19).trans (jup_cell (by decide))) v3) (congrFun (hk 19 (by decide) (by decide) (by decide) (by decide) (by decide) (by decide)) v3))))) ?_
            have g_28 := h_clwhere v3
            refine j_aload_n 0 dX1_pick_155 rfl rfl ?_
            refine j_getr f_X1_24 r_16_5 dX1_pick_156 ?_
            refine j_iload_n 3 dX1_pick_159 rfl rfl ?_
            refine j_iald a_21 dX1_pick_160 (by omega) (by omega) ?_
            refine j_eq (Eq.trans (congrFun ((congrFun eM_27 21).trans (jup_cell (by decide))) v3) (Eq.trans (congrFun ((congrFun eM_21 21).trans (jup_cell (by decide))) v3) (Eq.trans (congrFun ((congrFun eM_15 21).trans (jup_cell (by decide))) v3) (Eq.trans (congrFun ((congrFun eM_9 21).trans (jup_cell (by decide))) v3) (congrFun (hk 21 (by decide) (by decide) (by decide) (by decide) (by decide) (by decide)) v3))))) ?_
            have g_29 := h_clout v3
            refine j_iconst dX1_pick_161 (by decide) ?_
            refine j_callVi l_X1_56 ⟨Nat.le_of_ble_eq_true rfl, Nat.le_of_ble_eq_true rfl⟩ ⟨rfl, rfl⟩ dX1_pick_162 ob_1 (c_X4_inTruth M_27 ((M 19 v3)) ((M 21 v3)) 1 (by rw [(Eq.trans ((congrFun eM_27 6).trans (jup_cell (by decide))) (Eq.trans ((congrFun eM_21 6).trans (jup_cell (by decide))) (Eq.trans ((congrFun eM_15 6).trans (jup_cell (by decide))) (Eq.trans ((congrFun eM_9 6).trans (jup_cell (by decide))) (hk 6 (by decide) (by decide) (by decide) (by decide) (by decide) (by decide))))))]; exact h_cchecks) (by rw [(Eq.trans ((congrFun eM_27 8).trans (jup_cell (by decide))) (Eq.trans ((congrFun eM_21 8).trans (jup_cell (by decide))) (Eq.trans ((congrFun eM_15 8).trans (jup_cell (by decide))) (Eq.trans ((congrFun eM_9 8).trans (jup_cell (by decide))) (hk 8 (by decide) (by decide) (by decide) (by decide) (by decide) (by decide))))))]; exact h_ccerr) (by first | assumption | omega) (by first | assumption | omega)) rfl rfl (Nat.le_of_ble_eq_true rfl) (fun r_30 M_31 h_32 => ?_)
            obtain ⟨er_30, nh_32⟩ := h_32
            refine j_eqM nh_32 ?_
            clear nh_32
            simp only [(Eq.trans ((congrFun eM_27 6).trans (jup_cell (by decide))) (Eq.trans ((congrFun eM_21 6).trans (jup_cell (by decide))) (Eq.trans ((congrFun eM_15 6).trans (jup_cell (by decide))) (Eq.trans ((congrFun eM_9 6).trans (jup_cell (by decide))) (hk 6 (by decide) (by decide) (by decide) (by decide) (by decide) (by decide)))))), (Eq.trans ((congrFun eM_27 7).trans (jup_cell (by decide))) (Eq.trans ((congrFun eM_21 7).trans (jup_cell (by decide))) (Eq.trans ((congrFun eM_15 7).trans (jup_cell (by decide))) (Eq.trans ((congrFun eM_9 7).trans (jup_cell (by decide))) (hk 7 (by decide) (by decide) (by decide) (by decide) (by decide) (by decide)))))), (Eq.trans ((congrFun eM_27 8).trans (jup_cell (by decide))) (Eq.trans ((congrFun eM_21 8).trans (jup_cell (by decide))) (Eq.trans ((congrFun eM_15 8).trans (jup_cell (by decide))) (Eq.trans ((congrFun eM_9 8).trans (jup_cell (by decide))) (hk 8 (by decide) (by decide) (by decide) (by decide) (by decide) (by decide))))))] at er_30
            refine j_iast a_26 dX1_pick_165 (by omega) (by omega) ?_
            refine j_nmM (fun M_33 eM_33 => ?_)
            refine j_aload_n 0 dX1_pick_166 rfl rfl ?_
            refine j_dup dX1_pick_167 rfl ?_
            refine j_geti (k' := 6) f_X1_53 o_16_6 dX1_pick_168 rfl ?_
            refine j_eq (Eq.trans (congrFun ((congrFun eM_33 16).trans (jup_cell (by decide))) 6) (Eq.trans (congrFun ((congrFun eM_27 16).trans (jup_cell (by decide))) 6) (Eq.trans (congrFun ((congrFun eM_21 16).trans (jup_cell (by decide))) 6) (Eq.trans (congrFun ((congrFun eM_15 16).trans (jup_cell (by decide))) 6) (congrFun ((congrFun eM_9 16).trans (jup_cell (by decide))) 6))))) ?_
            refine j_iconst dX1_pick_171 (by decide) ?_
            refine j_iadd dX1_pick_172 (by omega) ?_
            refine j_puti (k' := 6) f_X1_53 o_16_6 dX1_pick_173 rfl ?_
            refine j_nmM (fun M_34 eM_34 => ?_)
            obtain ⟨v3_35, ev3_35⟩ : ∃ y : Int, y = v3 + 1 := ⟨_, rfl⟩
            refine j_iinc (y := v3_35) (ls' := [(0, jR 16), (1, jI h), (2, jI d), (3, jI v3_35)]) 3 dX1_pick_176 rfl ev3_35 (by omega) (by decide) rfl ?_
            refine j_goto (tgt := 7) dX1_pick_179 (by decide) ?_
            exact ih7 v3_35 M_34 ⟨by omega, by rw [ev3_35, toNat_s h1.1]; first | (rw [sCnt_yes (by rw [e8]; omega), ← hc, eM_34, eM_33, eM_27, eM_21, eM_15, eM_9, jup_self]) | (rw [sCnt_no (by rw [e8]; omega)]; exact hc), by rw [ev3_35, toNat_s h1.1]; first | exact sSel_skip (F := fun z => M 19 z) hc p22 | (have ea : M_34 16 6 = N7 16 6 + 1 := (by rw [eM_34, eM_33, eM_27, eM_21, eM_15, eM_9, jup_self]); intro j j0 j1; rw [ea] at j1; rw [eM_34, jup_cellk (by decide), eM_33, jup_cellk (by decide), eM_27, jup_cellk (by decide), eM_21, jup_cellk (by decide), eM_15, jup_cellk (by decide), eM_9, jup_at]; refine sSel_put (F := fun z => M 19 z) hc ?_ ?_ p22 j j0 j1 <;> rw [e8] <;> first | omega | rfl | assumption | (simp only [pT]; assumption)), by rw [ev3_35, toNat_s h1.1]; first | exact sSel_skip (F := fun z => pT M z (M 20 z) 0) hc p23 | (have ea : M_34 16 6 = N7 16 6 + 1 := (by rw [eM_34, eM_33, eM_27, eM_21, eM_15, eM_9, jup_self]); intro j j0 j1; rw [ea] at j1; rw [eM_34, jup_cellk (by decide), eM_33, jup_cellk (by decide), eM_27, jup_cellk (by decide), eM_21, jup_cellk (by decide), eM_15, jup_at, eM_9, jup_cellk (by decide)]; refine sSel_put (F := fun z => pT M z (M 20 z) 0) hc ?_ ?_ p23 j j0 j1 <;> rw [e8] <;> first | omega | rfl | assumption | (simp only [pT]; assumption)), by rw [ev3_35, toNat_s h1.1]; first | exact sSel_skip (F := fun z => pT M z (M 20 z) 1) hc p24 | (have ea : M_34 16 6 = N7 16 6 + 1 := (by rw [eM_34, eM_33, eM_27, eM_21, eM_15, eM_9, jup_self]); intro j j0 j1; rw [ea] at j1; rw [eM_34, jup_cellk (by decide), eM_33, jup_cellk (by decide), eM_27, jup_cellk (by decide), eM_21, jup_at, eM_15, jup_cellk (by decide), eM_9, jup_cellk (by decide)]; refine sSel_put (F := fun z => pT M z (M 20 z) 1) hc ?_ ?_ p24 j j0 j1 <;> rw [e8] <;> first | omega | rfl | assumption | (simp only [pT]; assumption)), by rw [ev3_35, toNat_s h1.1]; first | exact sSel_skip (F := fun z => pT M z (M 21 z) 0) hc p25 | (have ea : M_34 16 6 = N7 16 6 + 1 := (by rw [eM_34, eM_33, eM_27, eM_21, eM_15, eM_9, jup_self]); intro j j0 j1; rw [ea] at j1; rw [eM_34, jup_cellk (by decide), eM_33, jup_cellk (by decide), eM_27, jup_at, eM_21, jup_cellk (by decide), eM_15, jup_cellk (by decide), eM_9, jup_cellk (by decide)]; refine sSel_put (F := fun z => pT M z (M 21 z) 0) hc ?_ ?_ p25 j j0 j1 <;> rw [e8] <;> first | omega | rfl | assumption | (simp only [pT]; assumption)), by rw [ev3_35, toNat_s h1.1]; first | exact sSel_skip (F := fun z => pT M z (M 21 z) 1) hc p26 | (have ea : M_34 16 6 = N7 16 6 + 1 := (by rw [eM_34, eM_33, eM_27, eM_21, eM_15, eM_9, jup_self]); intro j j0 j1; rw [ea] at j1; rw [eM_34, jup_cellk (by decide), eM_33, jup_at, eM_27, jup_cellk (by decide), eM_21, jup_cellk (by decide), eM_15, jup_cellk (by decide), eM_9, jup_cellk (by decide)]; refine sSel_put (F := fun z => pT M z (M 21 z) 1) hc ?_ ?_ p26 j j0 j1 <;> rw [e8] <;> first | omega | rfl | assumption | (simp only [pT]; assumption)), by first | exact hk | (intro c z1 z2 z3 z4 z5 z6; rw [eM_34, eM_33, eM_27, eM_21, eM_15, eM_9, jup_cell z1, jup_cell z6, jup_cell z5, jup_cell z4, jup_cell z3, jup_cell z2]; exact hk c z1 z2 z3 z4 z5 z6), by first | exact hk2 | (intro k z; rw [eM_34, eM_33, eM_27, eM_21, eM_15, eM_9, jup_ne (fun y => z y.2), jup_cellk (by decide), jup_cellk (by decide), jup_cellk (by decide), jup_cellk (by decide), jup_cellk (by decide)]; exact hk2 k z)⟩ (by omega)
  exact lp7_2 _ 0 M_1 ⟨by omega, by rw [eM_1, jup_self]; rfl, by intro j a b; rw [eM_1, jup_self] at b; omega, by intro j a b; rw [eM_1, jup_self] at b; omega, by intro j a b; rw [eM_1, jup_self] at b; omega, by intro j a b; rw [eM_1, jup_self] at b; omega, by intro j a b; rw [eM_1, jup_self] at b; omega, by intro c z1 z2 z3 z4 z5 z6; rw [eM_1, jup_cell z1], by intro k z; rw [eM_1, jup_ne (fun y => z y.2)]⟩ (Nat.lt_succ_self _)
