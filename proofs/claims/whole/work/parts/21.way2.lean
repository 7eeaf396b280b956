abbrev q_X6_fewestTo (M : jM)  (s l : Int) : Int → jM → Prop := fun r N => r = wCost (M 45) (M 4) (M 1 0).toNat s l ∧ N = M
set_option maxHeartbeats 4000000 in
set_option maxRecDepth 20000 in
theorem c_X6_fewestTo {X : jX} (M : jM)  (s l : Int) (h_cmills : 0 ≤ M 1 0 ∧ M 1 0 ≤ 6) (h_ctown : ∀ i, 0 ≤ M 4 i ∧ M 4 i ≤ 8) (h_chours : ∀ i, 0 ≤ M 45 i ∧ M 45 i ≤ 30) (hs : 0 < s ∧ s < 64) (hl : 0 ≤ l ∧ l < M 1 0) (hb : tb s l = true) (hd : ∀ k, 0 ≤ k → k < M 1 0 → tb (wRest s l) k = true → M 46 (wRest s l * 6 + k) = wCost (M 45) (M 4) (M 1 0).toNat (wRest s l) k) (h2n : s < 2 ^ (M 1 0).toNat) : jC yX6_fewestTo D_X6_fewestTo X FJ shJ [jR 44, jR 1, jI s, jI l] M (jqI (q_X6_fewestTo M s l)) := by
  refine jC_of (by decide) rfl (fun ad => Nat.le_of_ble_eq_true rfl) (by decide) ?_
  show jG D_X6_fewestTo X FJ shJ 0 0 (jqI (q_X6_fewestTo M s l)) 0 [(0, jR 44), (1, jR 1), (2, jI s), (3, jI l)] [] M
  have hjn : jn s := ⟨by omega, by omega⟩
  have hr1 : 0 ≤ wRest s l ∧ wRest s l < 2147483648 := (wRest_in hjn (l := l) (by omega)).1
  have hr2 := wRest_lt hjn (l := l) (by omega) hb
  have hW := wCost_eq (M 45) (M 4) (M 1 0).toNat hjn (l := l) (by omega) hb
  refine j_iload_n 2 dX6_fewestTo_0 rfl rfl ?_
  refine j_iconst dX6_fewestTo_1 (by decide) ?_
  refine j_iload_n 3 dX6_fewestTo_2 rfl rfl ?_
  refine j_ishl dX6_fewestTo_3 ?_
  refine j_iconst dX6_fewestTo_4 (by decide) ?_
  refine j_ixor dX6_fewestTo_5 ?_
  refine j_iand dX6_fewestTo_6 ?_
  refine j_nm (fun v4_1 ev4_1 => ?_)
  refine j_istore (ls' := [(0, jR 44), (1, jR 1), (2, jI s), (3, jI l), (4, jI v4_1)]) dX6_fewestTo_7 (by decide) rfl ?_
  change v4_1 = wRest s l at ev4_1
  refine j_iload 4 dX6_fewestTo_9 rfl ?_
  refine j_if_ne (tgt := 28) dX6_fewestTo_11 (by decide) (fun c11_2 => ?_) (fun c11_2 => ?_)
  · skip
    refine j_ldc (n := 1000000) dX6_fewestTo_28 c_X6_31 (by decide) ?_
    refine j_istore (ls' := [(0, jR 44), (1, jR 1), (2, jI s), (3, jI l), (4, jI v4_1), (5, jI 1000000)]) dX6_fewestTo_30 (by decide) rfl ?_
    refine j_iconst dX6_fewestTo_32 (by decide) ?_
    refine j_istore (ls' := [(0, jR 44), (1, jR 1), (2, jI s), (3, jI l), (4, jI v4_1), (5, jI 1000000), (6, jI 0)]) dX6_fewestTo_33 (by decide) rfl ?_
    have lp35_3 : ∀ n35 : Nat, ∀ (v5 v6 : Int), (0 ≤ v6 ∧ v6 ≤ M 1 0) ∧ ((wAcc (M 45) (M 4) (fun k => wCost (M 45) (M 4) (M 1 0).toNat (wRest s l) k) (wRest s l) l v6.toNat = -1 ∧ v5 = 1000000) ∨ (¬ wAcc (M 45) (M 4) (fun k => wCost (M 45) (M 4) (M 1 0).toNat (wRest s l) k) (wRest s l) l v6.toNat = -1 ∧ v5 = wAcc (M 45) (M 4) (fun k => wCost (M 45) (M 4) (M 1 0).toNat (wRest s l) k) (wRest s l) l v6.toNat)) → (M 1 0 - v6).toNat < n35 → jG D_X6_fewestTo X FJ shJ 0 0 (jqI (q_X6_fewestTo M s l)) 35 [(0, jR 44), (1, jR 1), (2, jI s), (3, jI l), (4, jI v4_1), (5, jI v5), (6, jI v6)] ([]) M := by
      intro n35
      induction n35 with
      | zero => intro v5 v6  _ hz; exact absurd hz (Nat.not_lt_zero _)
      | succ n35 ih35 =>
        intro v5 v6  hinv hm
        obtain ⟨h1, h5⟩ := hinv
        have q5 := wAcc_in (tw := M 4) (l := l) (r := wRest s l) (c := fun k => wCost (M 45) (M 4) (M 1 0).toNat (wRest s l) k) (B := 992) h_chours (fun k _ _ => wCost_b h_chours _ _ k) v6.toNat
        refine j_iload 6 dX6_fewestTo_35 rfl ?_
        refine j_aload_n 1 dX6_fewestTo_37 rfl rfl ?_
        refine j_geti (k' := 0) f_X6_28 o_1_0 dX6_fewestTo_38 rfl ?_
        refine j_icmp_ge (tgt := 110) dX6_fewestTo_41 (by decide) (fun c41_4 => ?_) (fun c41_4 => ?_)
        · skip
          refine j_iload 5 dX6_fewestTo_110 rfl ?_
          refine j_iret rfl rfl rfl rfl dX6_fewestTo_112 ?_
          have e6 : v6 = M 1 0 := by omega
          rw [e6] at h5 q5
          obtain ⟨k, hk, hkb⟩ := w_member (s := wRest s l) (by omega) (n := (M 1 0).toNat) (by omega)
          have q2 := wAcc_some (tw := M 4) (l := l) (r := wRest s l) (c := fun k => wCost (M 45) (M 4) (M 1 0).toNat (wRest s l) k) (B := 992) h_chours (fun k _ _ => wCost_b h_chours _ _ k) (M 1 0).toNat k hk hkb
          exact ⟨by rw [hW, if_neg (by omega)]; omega, rfl⟩
        · skip
          refine j_iload 4 dX6_fewestTo_44 rfl ?_
          refine j_iload 6 dX6_fewestTo_46 rfl ?_
          refine j_ishr dX6_fewestTo_48 ?_
          refine j_iconst dX6_fewestTo_49 (by decide) ?_
          refine j_iand dX6_fewestTo_50 ?_
          refine j_iconst dX6_fewestTo_51 (by decide) ?_
          refine j_icmp_ne (tgt := 104) dX6_fewestTo_52 (by decide) (fun c52_5 => ?_) (fun c52_5 => ?_)
          · skip
            have hbit := bit_no (x := v4_1) (k := v6) (by omega) (by omega) c52_5
            rw [ev4_1] at hbit
            obtain ⟨v6_6, ev6_6⟩ : ∃ y : Int, y = v6 + 1 := ⟨_, rfl⟩
            refine j_iinc (y := v6_6) (ls' := [(0, jR 44), (1, jR 1), (2, jI s), (3, jI l), (4, jI v4_1), (5, jI v5), (6, jI v6_6)]) 6 dX6_fewestTo_104 rfl ev6_6 (by omega) (by decide) rfl ?_
            refine j_goto (tgt := 35) dX6_fewestTo_107 (by decide) ?_
            exact ih35 v5 v6_6 ⟨by omega, by rw [ev6_6, toNat_s h1.1]; unfold wAcc; rw [toNat_c h1.1]; first | (rw [if_neg hbit]; exact h5) | (rw [if_pos hbit]; unfold wMin; rw [Int.mul_comm 9 (M 4 v6)]; rw [ev5]; rcases h5 with ⟨ha, hv⟩ | ⟨ha, hv⟩; (· rw [if_pos ha]; omega); (· rw [if_neg ha]; omega))⟩ (by omega)
          · skip
            have hbit := bit_yes (x := v4_1) (k := v6) (by omega) (by omega) c52_5
            rw [ev4_1] at hbit
            refine j_aload_n 0 dX6_fewestTo_55 rfl rfl ?_
            refine j_getr f_X6_9 r_44_3 dX6_fewestTo_56 ?_
            refine j_aload_n 1 dX6_fewestTo_59 rfl rfl ?_
            refine j_getr f_X6_45 r_1_3 dX6_fewestTo_60 ?_
            refine j_iload 6 dX6_fewestTo_63 rfl ?_
            refine j_iald a_4 dX6_fewestTo_65 (by omega) (by omega) ?_
            have g_7 := h_ctown v6
            refine j_bipush dX6_fewestTo_66 (by decide) ?_
            refine j_imul dX6_fewestTo_68 (by omega) ?_
            refine j_aload_n 1 dX6_fewestTo_69 rfl rfl ?_
            refine j_getr f_X6_45 r_1_3 dX6_fewestTo_70 ?_
            refine j_iload_n 3 dX6_fewestTo_73 rfl rfl ?_
            refine j_iald a_4 dX6_fewestTo_74 (by omega) (by omega) ?_
            have g_8 := h_ctown l
            refine j_iadd dX6_fewestTo_75 (by omega) ?_
            refine j_iald a_45 dX6_fewestTo_76 (by omega) (by omega) ?_
            have g_9 := h_chours (((M 4 v6) * 9) + (M 4 l))
            refine j_nm (fun v7_10 ev7_10 => ?_)
            refine j_istore (ls' := [(0, jR 44), (1, jR 1), (2, jI s), (3, jI l), (4, jI v4_1), (5, jI v5), (6, jI v6), (7, jI v7_10)]) dX6_fewestTo_77 (by decide) rfl ?_
            have hx : M 46 (v4_1 * 6 + v6) = wCost (M 45) (M 4) (M 1 0).toNat (wRest s l) v6 := by rw [ev4_1]; exact hd v6 h1.1 (by omega) hbit
            have hy := wCost_b (tw := M 4) h_chours (M 1 0).toNat (wRest s l) v6
            refine j_iload 5 dX6_fewestTo_79 rfl ?_
            refine j_aload_n 0 dX6_fewestTo_81 rfl rfl ?_
            refine j_getr f_X6_15 r_44_4 dX6_fewestTo_82 ?_
            refine j_iload 4 dX6_fewestTo_85 rfl ?_
            refine j_bipush dX6_fewestTo_87 (by decide) ?_
            refine j_imul dX6_fewestTo_89 (by omega) ?_
            refine j_iload 6 dX6_fewestTo_90 rfl ?_
            refine j_iadd dX6_fewestTo_92 (by omega) ?_
            refine j_iald a_46 dX6_fewestTo_93 (by omega) (by omega) ?_
            refine j_iload 7 dX6_fewestTo_94 rfl ?_
            refine j_iadd dX6_fewestTo_96 (by omega) ?_
            refine j_iconst dX6_fewestTo_97 (by decide) ?_
            refine j_iadd dX6_fewestTo_98 (by omega) ?_
            refine j_mmin lm_X6_39 lm_min ⟨Nat.le_of_ble_eq_true rfl, Nat.le_of_ble_eq_true rfl⟩ ⟨Nat.le_of_ble_eq_true rfl, Nat.le_of_ble_eq_true rfl⟩ dX6_fewestTo_99 ?_
            refine j_nm (fun v5_11 ev5_11 => ?_)
            refine j_istore (ls' := [(0, jR 44), (1, jR 1), (2, jI s), (3, jI l), (4, jI v4_1), (5, jI v5_11), (6, jI v6), (7, jI v7_10)]) dX6_fewestTo_102 (by decide) rfl ?_
            obtain ⟨v6_12, ev6_12⟩ : ∃ y : Int, y = v6 + 1 := ⟨_, rfl⟩
            refine j_iinc (y := v6_12) (ls' := [(0, jR 44), (1, jR 1), (2, jI s), (3, jI l), (4, jI v4_1), (5, jI v5_11), (6, jI v6_12), (7, jI v7_10)]) 6 dX6_fewestTo_104 rfl ev6_12 (by omega) (by decide) rfl ?_
            refine j_goto (tgt := 35) dX6_fewestTo_107 (by decide) ?_
            refine j_sub (ls' := [(0, jR 44), (1, jR 1), (2, jI s), (3, jI l), (4, jI v4_1), (5, jI v5_11), (6, jI v6_12)]) [0, 1, 2, 3, 4, 5, 6] rfl ?_
            exact ih35 v5_11 v6_12 ⟨by omega, by rw [ev6_12, toNat_s h1.1]; unfold wAcc; rw [toNat_c h1.1]; first | (rw [if_neg hbit]; exact h5) | (rw [if_pos hbit]; unfold wMin; rw [Int.mul_comm 9 (M 4 v6)]; rw [ev5_11]; rcases h5 with ⟨ha, hv⟩ | ⟨ha, hv⟩; (· rw [if_pos ha]; omega); (· rw [if_neg ha]; omega))⟩ (by omega)
    exact lp35_3 _ 1000000 0 ⟨by omega, by left; exact ⟨rfl, rfl⟩⟩ (Nat.lt_succ_self _)
  · skip
    refine j_aload_n 0 dX6_fewestTo_14 rfl rfl ?_
    refine j_getr f_X6_9 r_44_3 dX6_fewestTo_15 ?_
    refine j_aload_n 1 dX6_fewestTo_18 rfl rfl ?_
    refine j_getr f_X6_45 r_1_3 dX6_fewestTo_19 ?_
    refine j_iload_n 3 dX6_fewestTo_22 rfl rfl ?_
    refine j_iald a_4 dX6_fewestTo_23 (by omega) (by omega) ?_
    have g_13 := h_ctown l
    refine j_iald a_45 dX6_fewestTo_24 (by omega) (by omega) ?_
    have g_14 := h_chours (M 4 l)
    refine j_iconst dX6_fewestTo_25 (by decide) ?_
    refine j_iadd dX6_fewestTo_26 (by omega) ?_
    refine j_iret rfl rfl rfl rfl dX6_fewestTo_27 ?_
    exact ⟨by rw [hW, if_pos (by omega)], rfl⟩
abbrev q_X6_seek (M : jM)  (H : Int) : jM → Prop := fun N => N 44 0 = (wBst (M 45) (M 4) (M 5) (M 1 0).toNat H (2 ^ (M 1 0).toNat - 1)).2.1 ∧ N 44 1 = (wBst (M 45) (M 4) (M 5) (M 1 0).toNat H (2 ^ (M 1 0).toNat - 1)).1 ∧ N 44 2 = (wBst (M 45) (M 4) (M 5) (M 1 0).toNat H (2 ^ (M 1 0).toNat - 1)).2.2 ∧ (∀ c, c ≠ 44 → c ≠ 46 → N c = M c)
set_option maxHeartbeats 4000000 in
set_option maxRecDepth 20000 in
theorem c_X6_seek {X : jX} (M : jM)  (H : Int) (h_cmills : 0 ≤ M 1 0 ∧ M 1 0 ≤ 6) (h_ctown : ∀ i, 0 ≤ M 4 i ∧ M 4 i ≤ 8) (h_chours : ∀ i, 0 ≤ M 45 i ∧ M 45 i ≤ 30) (h_cdoubt : ∀ i, 0 ≤ M 5 i ∧ M 5 i ≤ 99) : jC yX6_seek D_X6_seek X FJ shJ [jR 44, jR 1, jI H] M (jqV (q_X6_seek M H)) := by
  refine jC_of (by decide) rfl (fun ad => Nat.le_of_ble_eq_true rfl) (by decide) ?_
  show jG D_X6_seek X FJ shJ 0 0 (jqV (q_X6_seek M H)) 0 [(0, jR 44), (1, jR 1), (2, jI H)] [] M
  have hp2 := p2n h_cmills
  have hp1 : (0 : Int) < 2 ^ (M 1 0).toNat := Int.pow_pos (by decide)
  refine j_aload_n 0 dX6_seek_0 rfl rfl ?_
  refine j_iconst dX6_seek_1 (by decide) ?_
  refine j_puti (k' := 0) f_X6_18 o_44_0 dX6_seek_2 rfl ?_
  refine j_nmM (fun M_1 eM_1 => ?_)
  refine j_aload_n 0 dX6_seek_5 rfl rfl ?_
  refine j_iconst dX6_seek_6 (by decide) ?_
  refine j_puti (k' := 1) f_X6_22 o_44_1 dX6_seek_7 rfl ?_
  refine j_nmM (fun M_2 eM_2 => ?_)
  refine j_aload_n 0 dX6_seek_10 rfl rfl ?_
  refine j_iconst dX6_seek_11 (by decide) ?_
  refine j_puti (k' := 2) f_X6_25 o_44_2 dX6_seek_12 rfl ?_
  refine j_nmM (fun M_3 eM_3 => ?_)
  refine j_iconst dX6_seek_15 (by decide) ?_
  refine j_istore_n (ls' := [(0, jR 44), (1, jR 1), (2, jI H), (3, jI 1)]) dX6_seek_16 rfl (by decide) rfl ?_
  have lp17_4 : ∀ n17 : Nat, ∀ (v3 : Int), ∀ N17 : jM, (1 ≤ v3 ∧ v3 ≤ 2 ^ (M 1 0).toNat) ∧ (N17 44 0 = (wBst (M 45) (M 4) (M 5) (M 1 0).toNat H (v3 - 1).toNat).2.1) ∧ (N17 44 1 = (wBst (M 45) (M 4) (M 5) (M 1 0).toNat H (v3 - 1).toNat).1) ∧ (N17 44 2 = (wBst (M 45) (M 4) (M 5) (M 1 0).toNat H (v3 - 1).toNat).2.2) ∧ (∀ s l, 0 < s → s < v3 → 0 ≤ l → l < M 1 0 → tb s l = true → N17 46 (s * 6 + l) = wCost (M 45) (M 4) (M 1 0).toNat s l) ∧ (∀ c, c ≠ 44 → c ≠ 46 → N17 c = M c) → (2 ^ (M 1 0).toNat - v3).toNat < n17 → jG D_X6_seek X FJ shJ 0 0 (jqV (q_X6_seek M H)) 17 [(0, jR 44), (1, jR 1), (2, jI H), (3, jI v3)] ([]) N17 := by
    intro n17
    induction n17 with
    | zero => intro v3 N17 _ hz; exact absurd hz (Nat.not_lt_zero _)
    | succ n17 ih17 =>
      intro v3 N17 hinv hm
      obtain ⟨h1, b0, b1, b2, hf, hk⟩ := hinv
      have hjn : 0 ≤ v3 ∧ v3 < 2147483648 := by omega
      refine j_iload_n 3 dX6_seek_17 rfl rfl ?_
      refine j_iconst dX6_seek_18 (by decide) ?_
      refine j_aload_n 1 dX6_seek_19 rfl rfl ?_
      refine j_geti (k' := 0) f_X6_28 o_1_0 dX6_seek_20 rfl ?_
      refine j_eq (congrFun (hk 1 (by decide) (by decide)) 0) ?_
      refine j_ishl dX6_seek_23 ?_
      refine j_icmp_ge (tgt := 163) dX6_seek_24 (by decide) (fun c24_5 => ?_) (fun c24_5 => ?_)
      · skip
        refine j_vret rfl rfl rfl rfl dX6_seek_163 ?_
        have e9 : (v3 - 1).toNat = 2 ^ (M 1 0).toNat - 1 := by (have : v3 = 2 ^ (M 1 0).toNat := by omega); rw [this]; exact p2m
        rw [e9] at b0 b1 b2
        exact ⟨b0, b1, b2, hk⟩
      · skip
        refine j_iconst dX6_seek_27 (by decide) ?_
        refine j_istore (ls' := [(0, jR 44), (1, jR 1), (2, jI H), (3, jI v3), (4, jI 0)]) dX6_seek_28 (by decide) rfl ?_
        refine j_ldc (n := 1000000) dX6_seek_30 c_X6_31 (by decide) ?_
        refine j_istore (ls' := [(0, jR 44), (1, jR 1), (2, jI H), (3, jI v3), (4, jI 0), (5, jI 1000000)]) dX6_seek_32 (by decide) rfl ?_
        refine j_iconst dX6_seek_34 (by decide) ?_
        refine j_istore (ls' := [(0, jR 44), (1, jR 1), (2, jI H), (3, jI v3), (4, jI 0), (5, jI 1000000), (6, jI 0)]) dX6_seek_35 (by decide) rfl ?_
        have lp37_6 : ∀ n37 : Nat, ∀ (v4 v5 v6 : Int), ∀ N37 : jM, (0 ≤ v6 ∧ v6 ≤ M 1 0) ∧ (v4 = wSum (M 5) v3 v6.toNat) ∧ ((wTake (fun l => wCost (M 45) (M 4) (M 1 0).toNat v3 l) v3 v6.toNat = -1 ∧ v5 = 1000000) ∨ (¬ wTake (fun l => wCost (M 45) (M 4) (M 1 0).toNat v3 l) v3 v6.toNat = -1 ∧ v5 = wTake (fun l => wCost (M 45) (M 4) (M 1 0).toNat v3 l) v3 v6.toNat)) ∧ (∀ l, 0 ≤ l → l < v6 → tb v3 l = true → N37 46 (v3 * 6 + l) = wCost (M 45) (M 4) (M 1 0).toNat v3 l) ∧ (∀ s l, 0 < s → s < v3 → 0 ≤ l → l < M 1 0 → tb s l = true → N37 46 (s * 6 + l) = wCost (M 45) (M 4) (M 1 0).toNat s l) ∧ (∀ c, c ≠ 46 → N37 c = N17 c) → (M 1 0 - v6).toNat < n37 → jG D_X6_seek X FJ shJ 0 0 (jqV (q_X6_seek M H)) 37 [(0, jR 44), (1, jR 1), (2, jI H), (3, jI v3), (4, jI v4), (5, jI v5), (6, jI v6)] ([]) N37 := by
          intro n37
          induction n37 with
          | zero => intro v4 v5 v6 N37 _ hz; exact absurd hz (Nat.not_lt_zero _)
          | succ n37 ih37 =>
            intro v4 v5 v6 N37 hinv hm
            obtain ⟨g1, g4, g5, gf, gf2, gk⟩ := hinv
            have e8 := toNat_c g1.1
            have q4 := wSum_in h_cdoubt v3 v6.toNat
            rw [← g4] at q4
            have q5 := wTake_in (s := v3) (c := fun l => wCost (M 45) (M 4) (M 1 0).toNat v3 l) (B := 992) (fun k k0 kb => ⟨wCost_pos h_chours (by omega) (by omega) (by omega) ⟨k0, by apply Classical.byContradiction; intro z; rw [tb_hi ⟨by omega, by omega⟩ (by omega)] at kb; cases kb⟩ kb, (wCost_b h_chours _ _ k).2⟩) v6.toNat
            have e10 : N37 1 0 = M 1 0 := (congrFun (gk 1 (by decide)) 0).trans (congrFun (hk 1 (by decide) (by decide)) 0)
            have e45 : N37 45 = M 45 := (gk 45 (by decide)).trans (hk 45 (by decide) (by decide))
            have e4 : N37 4 = M 4 := (gk 4 (by decide)).trans (hk 4 (by decide) (by decide))
            refine j_iload 6 dX6_seek_37 rfl ?_
            refine j_aload_n 1 dX6_seek_39 rfl rfl ?_
            refine j_geti (k' := 0) f_X6_28 o_1_0 dX6_seek_40 rfl ?_
            refine j_eq (Eq.trans (congrFun (gk 1 (by decide)) 0) (congrFun (hk 1 (by decide) (by decide)) 0)) ?_
            refine j_icmp_ge (tgt := 107) dX6_seek_43 (by decide) (fun c43_7 => ?_) (fun c43_7 => ?_)
            · skip
              have e6 : v6 = M 1 0 := by omega
              rw [e6] at g4 g5 gf
              obtain ⟨km, hkm, hkb⟩ := w_member (s := v3) (by omega) (n := (M 1 0).toNat) (by omega)
              have q2 := wTake_some (s := v3) (c := fun l => wCost (M 45) (M 4) (M 1 0).toNat v3 l) (B := 992) (fun k k0 kb => ⟨wCost_pos h_chours (by omega) (by omega) (by omega) ⟨k0, by apply Classical.byContradiction; intro z; rw [tb_hi ⟨by omega, by omega⟩ (by omega)] at kb; cases kb⟩ kb, (wCost_b h_chours _ _ k).2⟩) (M 1 0).toNat km hkm hkb
              have ht : v5 = wTake (fun l => wCost (M 45) (M 4) (M 1 0).toNat v3 l) v3 (M 1 0).toNat := by omega
              refine j_iload 5 dX6_seek_107 rfl ?_
              refine j_iload_n 2 dX6_seek_109 rfl rfl ?_
              refine j_icmp_gt (tgt := 157) dX6_seek_110 (by decide) (fun c110_8 => ?_) (fun c110_8 => ?_)
              · skip
                obtain ⟨v3_9, ev3_9⟩ : ∃ y : Int, y = v3 + 1 := ⟨_, rfl⟩
                refine j_iinc (y := v3_9) (ls' := [(0, jR 44), (1, jR 1), (2, jI H), (3, jI v3_9), (4, jI v4), (5, jI v5), (6, jI v6)]) 3 dX6_seek_157 rfl ev3_9 (by omega) (by decide) rfl ?_
                refine j_goto (tgt := 17) dX6_seek_160 (by decide) ?_
                refine j_sub (ls' := [(0, jR 44), (1, jR 1), (2, jI H), (3, jI v3_9)]) [0, 1, 2, 3] rfl ?_
                exact ih17 v3_9 N37 ⟨by omega, by rw [ev3_9]; rw [show v3 + 1 - 1 = v3 by omega, wBst_step (v := v3) (sm := v4) (tk := v5) (by omega) g4 ht]; first | (rw [if_pos (by omega), jup_zz]; done) | (rw [if_neg (by omega), gk 44 (by decide)]; exact b0), by rw [ev3_9]; rw [show v3 + 1 - 1 = v3 by omega, wBst_step (v := v3) (sm := v4) (tk := v5) (by omega) g4 ht]; first | (rw [if_pos (by omega), jup_zz]; done) | (rw [if_neg (by omega), gk 44 (by decide)]; exact b1), by rw [ev3_9]; rw [show v3 + 1 - 1 = v3 by omega, wBst_step (v := v3) (sm := v4) (tk := v5) (by omega) g4 ht]; first | (rw [if_pos (by omega), jup_zz]; done) | (rw [if_neg (by omega), gk 44 (by decide)]; exact b2), by intro s l s0 s1 l0 l1 lb; have e46 : N37 46 = N37 46 := (by first | rfl | (rw [jup_zz, jup_cell (by decide), jup_cell (by decide), jup_cell (by decide)])); rw [e46]; by_cases hs : s = v3; (· rw [hs] at lb ⊢; exact gf l l0 l1 lb); (· exact gf2 s l s0 (by omega) l0 l1 lb), by intro c z1 z2; first | (rw [gk c z2]; exact hk c z1 z2) | (rw [jup_zz, jup_cell z1, jup_cell z1, jup_cell z1, gk c z2]; exact hk c z1 z2)⟩ (by omega)
              · skip
                refine j_iload 4 dX6_seek_113 rfl ?_
                refine j_aload_n 0 dX6_seek_115 rfl rfl ?_
                refine j_geti (k' := 0) f_X6_18 o_44_0 dX6_seek_116 rfl ?_
                refine j_eq (congrFun (gk 44 (by decide)) 0) ?_
                refine j_icmp_gt (tgt := 140) dX6_seek_119 (by decide) (fun c119_10 => ?_) (fun c119_10 => ?_)
                · skip
                  refine j_aload_n 0 dX6_seek_140 rfl rfl ?_
                  refine j_iload 4 dX6_seek_141 rfl ?_
                  refine j_puti (k' := 0) f_X6_18 o_44_0 dX6_seek_143 rfl ?_
                  refine j_nmM (fun M_11 eM_11 => ?_)
                  refine j_aload_n 0 dX6_seek_146 rfl rfl ?_
                  refine j_iload_n 3 dX6_seek_147 rfl rfl ?_
                  refine j_puti (k' := 1) f_X6_22 o_44_1 dX6_seek_148 rfl ?_
                  refine j_nmM (fun M_12 eM_12 => ?_)
                  refine j_aload_n 0 dX6_seek_151 rfl rfl ?_
                  refine j_iload 5 dX6_seek_152 rfl ?_
                  refine j_puti (k' := 2) f_X6_25 o_44_2 dX6_seek_154 rfl ?_
                  refine j_nmM (fun M_13 eM_13 => ?_)
                  obtain ⟨v3_14, ev3_14⟩ : ∃ y : Int, y = v3 + 1 := ⟨_, rfl⟩
                  refine j_iinc (y := v3_14) (ls' := [(0, jR 44), (1, jR 1), (2, jI H), (3, jI v3_14), (4, jI v4), (5, jI v5), (6, jI v6)]) 3 dX6_seek_157 rfl ev3_14 (by omega) (by decide) rfl ?_
                  refine j_goto (tgt := 17) dX6_seek_160 (by decide) ?_
                  refine j_sub (ls' := [(0, jR 44), (1, jR 1), (2, jI H), (3, jI v3_14)]) [0, 1, 2, 3] rfl ?_
                  exact ih17 v3_14 M_13 ⟨by omega, by rw [ev3_14]; rw [show v3 + 1 - 1 = v3 by omega, wBst_step (v := v3) (sm := v4) (tk := v5) (by omega) g4 ht]; first | (rw [if_pos (by omega), eM_13, jup_ne (by simp), eM_12, jup_ne (by simp), eM_11, jup_self]; done) | (rw [if_neg (by omega), gk 44 (by decide)]; exact b0), by rw [ev3_14]; rw [show v3 + 1 - 1 = v3 by omega, wBst_step (v := v3) (sm := v4) (tk := v5) (by omega) g4 ht]; first | (rw [if_pos (by omega), eM_13, jup_ne (by simp), eM_12, jup_self]; done) | (rw [if_neg (by omega), gk 44 (by decide)]; exact b1), by rw [ev3_14]; rw [show v3 + 1 - 1 = v3 by omega, wBst_step (v := v3) (sm := v4) (tk := v5) (by omega) g4 ht]; first | (rw [if_pos (by omega), eM_13, jup_self]; done) | (rw [if_neg (by omega), gk 44 (by decide)]; exact b2), by intro s l s0 s1 l0 l1 lb; have e46 : M_13 46 = N37 46 := (by first | rfl | (rw [eM_13, eM_12, eM_11, jup_cell (by decide), jup_cell (by decide), jup_cell (by decide)])); rw [e46]; by_cases hs : s = v3; (· rw [hs] at lb ⊢; exact gf l l0 l1 lb); (· exact gf2 s l s0 (by omega) l0 l1 lb), by intro c z1 z2; first | (rw [gk c z2]; exact hk c z1 z2) | (rw [eM_13, eM_12, eM_11, jup_cell z1, jup_cell z1, jup_cell z1, gk c z2]; exact hk c z1 z2)⟩ (by omega)
                · skip
                  refine j_iload 4 dX6_seek_122 rfl ?_
                  refine j_aload_n 0 dX6_seek_124 rfl rfl ?_
                  refine j_geti (k' := 0) f_X6_18 o_44_0 dX6_seek_125 rfl ?_
                  refine j_eq (congrFun (gk 44 (by decide)) 0) ?_
                  refine j_icmp_ne (tgt := 157) dX6_seek_128 (by decide) (fun c128_15 => ?_) (fun c128_15 => ?_)
                  · skip
                    obtain ⟨v3_16, ev3_16⟩ : ∃ y : Int, y = v3 + 1 := ⟨_, rfl⟩
                    refine j_iinc (y := v3_16) (ls' := [(0, jR 44), (1, jR 1), (2, jI H), (3, jI v3_16), (4, jI v4), (5, jI v5), (6, jI v6)]) 3 dX6_seek_157 rfl ev3_16 (by omega) (by decide) rfl ?_
                    refine j_goto (tgt := 17) dX6_seek_160 (by decide) ?_
                    refine j_sub (ls' := [(0, jR 44), (1, jR 1), (2, jI H), (3, jI v3_16)]) [0, 1, 2, 3] rfl ?_
                    exact ih17 v3_16 N37 ⟨by omega, by rw [ev3_16]; rw [show v3 + 1 - 1 = v3 by omega, wBst_step (v := v3) (sm := v4) (tk := v5) (by omega) g4 ht]; first | (rw [if_pos (by omega), jup_zz]; done) | (rw [if_neg (by omega), gk 44 (by decide)]; exact b0), by rw [ev3_16]; rw [show v3 + 1 - 1 = v3 by omega, wBst_step (v := v3) (sm := v4) (tk := v5) (by omega) g4 ht]; first | (rw [if_pos (by omega), jup_zz]; done) | (rw [if_neg (by omega), gk 44 (by decide)]; exact b1), by rw [ev3_16]; rw [show v3 + 1 - 1 = v3 by omega, wBst_step (v := v3) (sm := v4) (tk := v5) (by omega) g4 ht]; first | (rw [if_pos (by omega), jup_zz]; done) | (rw [if_neg (by omega), gk 44 (by decide)]; exact b2), by intro s l s0 s1 l0 l1 lb; have e46 : N37 46 = N37 46 := (by first | rfl | (rw [jup_zz, jup_cell (by decide), jup_cell (by decide), jup_cell (by decide)])); rw [e46]; by_cases hs : s = v3; (· rw [hs] at lb ⊢; exact gf l l0 l1 lb); (· exact gf2 s l s0 (by omega) l0 l1 lb), by intro c z1 z2; first | (rw [gk c z2]; exact hk c z1 z2) | (rw [jup_zz, jup_cell z1, jup_cell z1, jup_cell z1, gk c z2]; exact hk c z1 z2)⟩ (by omega)
                  · skip
                    refine j_iload 5 dX6_seek_131 rfl ?_
                    refine j_aload_n 0 dX6_seek_133 rfl rfl ?_
                    refine j_geti (k' := 2) f_X6_25 o_44_2 dX6_seek_134 rfl ?_
                    refine j_eq (congrFun (gk 44 (by decide)) 2) ?_
                    refine j_icmp_ge (tgt := 157) dX6_seek_137 (by decide) (fun c137_17 => ?_) (fun c137_17 => ?_)
                    · skip
                      obtain ⟨v3_18, ev3_18⟩ : ∃ y : Int, y = v3 + 1 := ⟨_, rfl⟩
                      refine j_iinc (y := v3_18) (ls' := [(0, jR 44), (1, jR 1), (2, jI H), (3, jI v3_18), (4, jI v4), (5, jI v5), (6, jI v6)]) 3 dX6_seek_157 rfl ev3_18 (by omega) (by decide) rfl ?_
                      refine j_goto (tgt := 17) dX6_seek_160 (by decide) ?_
                      refine j_sub (ls' := [(0, jR 44), (1, jR 1), (2, jI H), (3, jI v3_18)]) [0, 1, 2, 3] rfl ?_
                      exact ih17 v3_18 N37 ⟨by omega, by rw [ev3_18]; rw [show v3 + 1 - 1 = v3 by omega, wBst_step (v := v3) (sm := v4) (tk := v5) (by omega) g4 ht]; first | (rw [if_pos (by omega), jup_zz]; done) | (rw [if_neg (by omega), gk 44 (by decide)]; exact b0), by rw [ev3_18]; rw [show v3 + 1 - 1 = v3 by omega, wBst_step (v := v3) (sm := v4) (tk := v5) (by omega) g4 ht]; first | (rw [if_pos (by omega), jup_zz]; done) | (rw [if_neg (by omega), gk 44 (by decide)]; exact b1), by rw [ev3_18]; rw [show v3 + 1 - 1 = v3 by omega, wBst_step (v := v3) (sm := v4) (tk := v5) (by omega) g4 ht]; first | (rw [if_pos (by omega), jup_zz]; done) | (rw [if_neg (by omega), gk 44 (by decide)]; exact b2), by intro s l s0 s1 l0 l1 lb; have e46 : N37 46 = N37 46 := (by first | rfl | (rw [jup_zz, jup_cell (by decide), jup_cell (by decide), jup_cell (by decide)])); rw [e46]; by_cases hs : s = v3; (· rw [hs] at lb ⊢; exact gf l l0 l1 lb); (· exact gf2 s l s0 (by omega) l0 l1 lb), by intro c z1 z2; first | (rw [gk c z2]; exact hk c z1 z2) | (rw [jup_zz, jup_cell z1, jup_cell z1, jup_cell z1, gk c z2]; exact hk c z1 z2)⟩ (by omega)
                    · skip
                      refine j_aload_n 0 dX6_seek_140 rfl rfl ?_
                      refine j_iload 4 dX6_seek_141 rfl ?_
                      refine j_puti (k' := 0) f_X6_18 o_44_0 dX6_seek_143 rfl ?_
                      refine j_nmM (fun M_19 eM_19 => ?_)
                      refine j_aload_n 0 dX6_seek_146 rfl rfl ?_
                      refine j_iload_n 3 dX6_seek_147 rfl rfl ?_
                      refine j_puti (k' := 1) f_X6_22 o_44_1 dX6_seek_148 rfl ?_
                      refine j_nmM (fun M_20 eM_20 => ?_)
                      refine j_aload_n 0 dX6_seek_151 rfl rfl ?_
                      refine j_iload 5 dX6_seek_152 rfl ?_
                      refine j_puti (k' := 2) f_X6_25 o_44_2 dX6_seek_154 rfl ?_
                      refine j_nmM (fun M_21 eM_21 => ?_)
                      obtain ⟨v3_22, ev3_22⟩ : ∃ y : Int, y = v3 + 1 := ⟨_, rfl⟩
                      refine j_iinc (y := v3_22) (ls' := [(0, jR 44), (1, jR 1), (2, jI H), (3, jI v3_22), (4, jI v4), (5, jI v5), (6, jI v6)]) 3 dX6_seek_157 rfl ev3_22 (by omega) (by decide) rfl ?_
                      refine j_goto (tgt := 17) dX6_seek_160 (by decide) ?_
                      refine j_sub (ls' := [(0, jR 44), (1, jR 1), (2, jI H), (3, jI v3_22)]) [0, 1, 2, 3] rfl ?_
                      exact ih17 v3_22 M_21 ⟨by omega, by rw [ev3_22]; rw [show v3 + 1 - 1 = v3 by omega, wBst_step (v := v3) (sm := v4) (tk := v5) (by omega) g4 ht]; first | (rw [if_pos (by omega), eM_21, jup_ne (by simp), eM_20, jup_ne (by simp), eM_19, jup_self]; done) | (rw [if_neg (by omega), gk 44 (by decide)]; exact b0), by rw [ev3_22]; rw [show v3 + 1 - 1 = v3 by omega, wBst_step (v := v3) (sm := v4) (tk := v5) (by omega) g4 ht]; first | (rw [if_pos (by omega), eM_21, jup_ne (by simp), eM_20, jup_self]; done) | (rw [if_neg (by omega), gk 44 (by decide)]; exact b1), by rw [ev3_22]; rw [show v3 + 1 - 1 = v3 by omega, wBst_step (v := v3) (sm := v4) (tk := v5) (by omega) g4 ht]; first | (rw [if_pos (by omega), eM_21, jup_self]; done) | (rw [if_neg (by omega), gk 44 (by decide)]; exact b2), by intro s l s0 s1 l0 l1 lb; have e46 : M_21 46 = N37 46 := (by first | rfl | (rw [eM_21, eM_20, eM_19, jup_cell (by decide), jup_cell (by decide), jup_cell (by decide)])); rw [e46]; by_cases hs : s = v3; (· rw [hs] at lb ⊢; exact gf l l0 l1 lb); (· exact gf2 s l s0 (by omega) l0 l1 lb), by intro c z1 z2; first | (rw [gk c z2]; exact hk c z1 z2) | (rw [eM_21, eM_20, eM_19, jup_cell z1, jup_cell z1, jup_cell z1, gk c z2]; exact hk c z1 z2)⟩ (by omega)
            · skip
              refine j_iload_n 3 dX6_seek_46 rfl rfl ?_
              refine j_iload 6 dX6_seek_47 rfl ?_
              refine j_ishr dX6_seek_49 ?_
              refine j_iconst dX6_seek_50 (by decide) ?_
              refine j_iand dX6_seek_51 ?_
              refine j_iconst dX6_seek_52 (by decide) ?_
              refine j_icmp_ne (tgt := 101) dX6_seek_53 (by decide) (fun c53_23 => ?_) (fun c53_23 => ?_)
              · skip
                have hbit := bit_no (x := v3) (k := v6) (by omega) (by omega) c53_23
                obtain ⟨v6_24, ev6_24⟩ : ∃ y : Int, y = v6 + 1 := ⟨_, rfl⟩
                refine j_iinc (y := v6_24) (ls' := [(0, jR 44), (1, jR 1), (2, jI H), (3, jI v3), (4, jI v4), (5, jI v5), (6, jI v6_24)]) 6 dX6_seek_101 rfl ev6_24 (by omega) (by decide) rfl ?_
                refine j_goto (tgt := 37) dX6_seek_104 (by decide) ?_
                exact ih37 v4 v5 v6_24 N37 ⟨by omega, by rw [ev6_24, toNat_s g1.1]; first | (rw [wSum_skip (by rw [e8]; exact hbit)]; exact g4) | (rw [wSum_step (by rw [e8]; exact hbit), e8]; omega), by rw [ev6_24, toNat_s g1.1]; first | exact wTake_skip (by rw [e8]; exact hbit) g5 | exact wTake_step (r := jup_zz) (by rw [e8]; exact hbit) (by rw [e8]; assumption) (by omega) g5 (by omega) ev5 (by omega), by intro l l0 l1 lb; first | (exact gf l l0 (by rcases Int.lt_or_eq_of_le (show l ≤ v6 by omega) with z | z; (· exact z); (· rw [z] at lb; exact absurd lb hbit)) lb) | (rw [jup_zz, jup_at]; by_cases hl : l = v6; (· rw [hl, if_pos rfl]; assumption); (· rw [if_neg (by omega)]; exact gf l l0 (by omega) lb)), by first | exact gf2 | (intro s l s0 s1 l0 l1 lb; rw [jup_zz, jup_at, if_neg (by omega)]; exact gf2 s l s0 s1 l0 l1 lb), by intro c hc; first | exact gk c hc | (rw [jup_zz, jup_cell hc]; exact gk c hc)⟩ (by omega)
              · skip
                have hbit := bit_yes (x := v3) (k := v6) (by omega) (by omega) c53_23
                refine j_iload 4 dX6_seek_56 rfl ?_
                refine j_aload_n 1 dX6_seek_58 rfl rfl ?_
                refine j_getr f_X6_32 r_1_4 dX6_seek_59 ?_
                refine j_iload 6 dX6_seek_62 rfl ?_
                refine j_iald a_5 dX6_seek_64 (by omega) (by omega) ?_
                refine j_eq (Eq.trans (congrFun (gk 5 (by decide)) v6) (congrFun (hk 5 (by decide) (by decide)) v6)) ?_
                have g_25 := h_cdoubt v6
                refine j_iadd dX6_seek_65 (by omega) ?_
                refine j_nm (fun v4_26 ev4_26 => ?_)
                refine j_istore (ls' := [(0, jR 44), (1, jR 1), (2, jI H), (3, jI v3), (4, jI v4_26), (5, jI v5), (6, jI v6)]) dX6_seek_66 (by decide) rfl ?_
                refine j_aload_n 0 dX6_seek_68 rfl rfl ?_
                refine j_aload_n 1 dX6_seek_69 rfl rfl ?_
                refine j_iload_n 3 dX6_seek_70 rfl rfl ?_
                refine j_iload 6 dX6_seek_71 rfl ?_
                refine j_callVi l_X6_35 ⟨Nat.le_of_ble_eq_true rfl, Nat.le_of_ble_eq_true rfl⟩ ⟨rfl, rfl⟩ dX6_seek_73 ob_44 (c_X6_fewestTo N37 v3 v6 (by rw [(Eq.trans (congrFun (gk 1 (by decide)) 0) (congrFun (hk 1 (by decide) (by decide)) 0))]; exact h_cmills) (by rw [(Eq.trans (gk 4 (by decide)) (hk 4 (by decide) (by decide)))]; exact h_ctown) (by rw [(Eq.trans (gk 45 (by decide)) (hk 45 (by decide) (by decide)))]; exact h_chours) (by omega) (by rw [e10]; omega) hbit (fun k a b c => by rw [e45, e4, e10]; rw [e10] at b; exact gf2 _ k (tb_pos (wRest_in ⟨by omega, by omega⟩ (l := v6) (by omega)).1.1 c) (wRest_lt ⟨by omega, by omega⟩ (by omega) hbit) a b c) (by rw [e10]; omega)) rfl rfl (Nat.le_of_ble_eq_true rfl) (fun r_27 M_28 h_29 => ?_)
                obtain ⟨er_27, nh_29⟩ := h_29
                refine j_eqM nh_29 ?_
                clear nh_29
                simp only [(Eq.trans (gk 45 (by decide)) (hk 45 (by decide) (by decide))), (Eq.trans (gk 4 (by decide)) (hk 4 (by decide) (by decide))), (Eq.trans (congrFun (gk 1 (by decide)) 0) (congrFun (hk 1 (by decide) (by decide)) 0))] at er_27
                have hpos := wCost_pos (tw := M 4) h_chours (n := (M 1 0).toNat) (by omega) (s := v3) (l := v6) (by omega) (by omega) (by omega) hbit
                have hbb := wCost_b (tw := M 4) h_chours (M 1 0).toNat v3 v6
                refine j_istore (ls' := [(0, jR 44), (1, jR 1), (2, jI H), (3, jI v3), (4, jI v4_26), (5, jI v5), (6, jI v6), (7, jI r_27)]) dX6_seek_76 (by decide) rfl ?_
                refine j_aload_n 0 dX6_seek_78 rfl rfl ?_
                refine j_getr f_X6_15 r_44_4 dX6_seek_79 ?_
                refine j_iload_n 3 dX6_seek_82 rfl rfl ?_
                refine j_bipush dX6_seek_83 (by decide) ?_
                refine j_imul dX6_seek_85 (by omega) ?_
                refine j_iload 6 dX6_seek_86 rfl ?_
                refine j_iadd dX6_seek_88 (by omega) ?_
                refine j_iload 7 dX6_seek_89 rfl ?_
                refine j_iast a_46 dX6_seek_91 (by omega) (by omega) ?_
                refine j_nmM (fun M_30 eM_30 => ?_)
                refine j_iload 5 dX6_seek_92 rfl ?_
                refine j_iload 7 dX6_seek_94 rfl ?_
                refine j_mmin lm_X6_39 lm_min ⟨Nat.le_of_ble_eq_true rfl, Nat.le_of_ble_eq_true rfl⟩ ⟨Nat.le_of_ble_eq_true rfl, Nat.le_of_ble_eq_true rfl⟩ dX6_seek_96 ?_
                refine j_nm (fun v5_31 ev5_31 => ?_)
                refine j_istore (ls' := [(0, jR 44), (1, jR 1), (2, jI H), (3, jI v3), (4, jI v4_26), (5, jI v5_31), (6, jI v6), (7, jI r_27)]) dX6_seek_99 (by decide) rfl ?_
                obtain ⟨v6_32, ev6_32⟩ : ∃ y : Int, y = v6 + 1 := ⟨_, rfl⟩
                refine j_iinc (y := v6_32) (ls' := [(0, jR 44), (1, jR 1), (2, jI H), (3, jI v3), (4, jI v4_26), (5, jI v5_31), (6, jI v6_32), (7, jI r_27)]) 6 dX6_seek_101 rfl ev6_32 (by omega) (by decide) rfl ?_
                refine j_goto (tgt := 37) dX6_seek_104 (by decide) ?_
                refine j_sub (ls' := [(0, jR 44), (1, jR 1), (2, jI H), (3, jI v3), (4, jI v4_26), (5, jI v5_31), (6, jI v6_32)]) [0, 1, 2, 3, 4, 5, 6] rfl ?_
                exact ih37 v4_26 v5_31 v6_32 M_30 ⟨by omega, by rw [ev6_32, toNat_s g1.1]; first | (rw [wSum_skip (by rw [e8]; exact hbit)]; exact g4) | (rw [wSum_step (by rw [e8]; exact hbit), e8]; omega), by rw [ev6_32, toNat_s g1.1]; first | exact wTake_skip (by rw [e8]; exact hbit) g5 | exact wTake_step (r := r_27) (by rw [e8]; exact hbit) (by rw [e8]; assumption) (by omega) g5 (by omega) ev5_31 (by omega), by intro l l0 l1 lb; first | (exact gf l l0 (by rcases Int.lt_or_eq_of_le (show l ≤ v6 by omega) with z | z; (· exact z); (· rw [z] at lb; exact absurd lb hbit)) lb) | (rw [eM_30, jup_at]; by_cases hl : l = v6; (· rw [hl, if_pos rfl]; assumption); (· rw [if_neg (by omega)]; exact gf l l0 (by omega) lb)), by first | exact gf2 | (intro s l s0 s1 l0 l1 lb; rw [eM_30, jup_at, if_neg (by omega)]; exact gf2 s l s0 s1 l0 l1 lb), by intro c hc; first | exact gk c hc | (rw [eM_30, jup_cell hc]; exact gk c hc)⟩ (by omega)
        exact lp37_6 _ 0 1000000 0 N17 ⟨by omega, by rfl, by left; exact ⟨rfl, rfl⟩, by intro l l0 l1; omega, by exact hf, by intro c _; rfl⟩ (Nat.lt_succ_self _)
  exact lp17_4 _ 1 M_3 ⟨by omega, by rw [eM_3, jup_ne (by simp), eM_2, jup_ne (by simp), eM_1, jup_self]; rfl, by rw [eM_3, jup_ne (by simp), eM_2, jup_self]; rfl, by rw [eM_3, jup_self]; rfl, by intro s l s0 s1; omega, by intro c z1 z2; rw [eM_3, eM_2, eM_1, jup_cell z1, jup_cell z1, jup_cell z1]⟩ (Nat.lt_succ_self _)
abbrev q_X8_way (M : jM)  (H w : Int) : Int → jM → Prop := fun r N => r = (if (1 ≤ H ∧ H ≤ 200 ∧ 0 ≤ w ∧ w ≤ 2) then (if w = 0 then (wBst (M 45) (M 4) (M 5) (M 1 0).toNat H (2 ^ (M 1 0).toNat - 1)).2.1 else if w = 1 then (wBst (M 45) (M 4) (M 5) (M 1 0).toNat H (2 ^ (M 1 0).toNat - 1)).1 else (wBst (M 45) (M 4) (M 5) (M 1 0).toNat H (2 ^ (M 1 0).toNat - 1)).2.2) else -1) ∧ (∀ c, c ≠ 44 → c ≠ 46 → N c = M c)
set_option maxHeartbeats 4000000 in
set_option maxRecDepth 20000 in
theorem c_X8_way {X : jX} (M : jM)  (H w : Int) (h_cmills : 0 ≤ M 1 0 ∧ M 1 0 ≤ 6) (h_ctown : ∀ i, 0 ≤ M 4 i ∧ M 4 i ≤ 8) (h_chours : ∀ i, 0 ≤ M 45 i ∧ M 45 i ≤ 30) (h_cdoubt : ∀ i, 0 ≤ M 5 i ∧ M 5 i ≤ 99) : jC yX8_way D_X8_way X FJ shJ [jR 0, jI H, jI w] M (jqI (q_X8_way M H w)) := by
  refine jC_of (by decide) rfl (fun ad => Nat.le_of_ble_eq_true rfl) (by decide) ?_
  show jG D_X8_way X FJ shJ 0 0 (jqI (q_X8_way M H w)) 0 [(0, jR 0), (1, jI H), (2, jI w)] [] M
  refine j_iload_n 1 dX8_way_0 rfl rfl ?_
  refine j_iconst dX8_way_1 (by decide) ?_
  refine j_sipush dX8_way_2 (by decide) ?_
  refine j_callSi l_X8_74 ⟨Nat.le_of_ble_eq_true rfl, Nat.le_of_ble_eq_true rfl⟩ ⟨rfl, rfl⟩ dX8_way_5 (c_X8_within M H 1 200) rfl rfl (Nat.le_of_ble_eq_true rfl) (fun r_1 M_2 h_3 => ?_)
  obtain ⟨er_1, nh_3⟩ := h_3
  refine j_eqM nh_3 ?_
  clear nh_3
  refine j_if_eq (tgt := 20) dX8_way_8 (by decide) (fun c8_4 => ?_) (fun c8_4 => ?_)
  · skip
    refine j_iconst dX8_way_20 (by decide) ?_
    refine j_iret rfl rfl rfl rfl dX8_way_21 ?_
    first | (exact ⟨by rw [if_neg (by omega)], fun _ _ _ => rfl⟩) | (refine ⟨?_, jup_zz⟩; rw [if_pos (by omega)]; first | (rw [if_pos (by omega)]; assumption) | (rw [if_neg (by omega), if_pos (by omega)]; assumption) | (rw [if_neg (by omega), if_neg (by omega)]; assumption))
  · skip
    refine j_iload_n 2 dX8_way_11 rfl rfl ?_
    refine j_iconst dX8_way_12 (by decide) ?_
    refine j_iconst dX8_way_13 (by decide) ?_
    refine j_callSi l_X8_74 ⟨Nat.le_of_ble_eq_true rfl, Nat.le_of_ble_eq_true rfl⟩ ⟨rfl, rfl⟩ dX8_way_14 (c_X8_within M w 0 2) rfl rfl (Nat.le_of_ble_eq_true rfl) (fun r_5 M_6 h_7 => ?_)
    obtain ⟨er_5, nh_7⟩ := h_7
    refine j_eqM nh_7 ?_
    clear nh_7
    refine j_if_ne (tgt := 22) dX8_way_17 (by decide) (fun c17_8 => ?_) (fun c17_8 => ?_)
    · skip
      refine j_aload_n 0 dX8_way_22 rfl rfl ?_
      refine j_getr f_X8_49 r_0_6 dX8_way_23 ?_
      refine j_aload_n 0 dX8_way_26 rfl rfl ?_
      refine j_getr f_X8_10 r_0_0 dX8_way_27 ?_
      refine j_iload_n 1 dX8_way_30 rfl rfl ?_
      refine j_callVv l_X8_280 ⟨Nat.le_of_ble_eq_true rfl, Nat.le_of_ble_eq_true rfl⟩ ⟨rfl, rfl⟩ dX8_way_31 ob_44 (c_X6_seek M H h_cmills h_ctown h_chours h_cdoubt) rfl rfl (Nat.le_of_ble_eq_true rfl) (fun M_10 h_11 => ?_)
      obtain ⟨s0h_11, s1h_11, s2h_11, frh_11⟩ := h_11
      refine j_iload_n 2 dX8_way_34 rfl rfl ?_
      by_cases s_12_0 : w = 0
      · refine j_lsw (tgt := 60) dX8_way_35 (by decide) (by rw [s_12_0] <;> rfl) (by decide) ?_
        refine j_aload_n 0 dX8_way_60 rfl rfl ?_
        refine j_getr f_X8_49 r_0_6 dX8_way_61 ?_
        refine j_geti (k' := 0) f_X8_284 o_44_0 dX8_way_64 rfl ?_
        refine j_iret rfl rfl rfl rfl dX8_way_67 ?_
        first | (exact ⟨by rw [if_neg (by omega)], fun _ _ _ => rfl⟩) | (refine ⟨?_, frh_11⟩; rw [if_pos (by omega)]; first | (rw [if_pos (by omega)]; assumption) | (rw [if_neg (by omega), if_pos (by omega)]; assumption) | (rw [if_neg (by omega), if_neg (by omega)]; assumption))
      by_cases s_12_1 : w = 1
      · refine j_lsw (tgt := 68) dX8_way_35 (by decide) (by rw [s_12_1] <;> rfl) (by decide) ?_
        refine j_aload_n 0 dX8_way_68 rfl rfl ?_
        refine j_getr f_X8_49 r_0_6 dX8_way_69 ?_
        refine j_geti (k' := 1) f_X8_287 o_44_1 dX8_way_72 rfl ?_
        refine j_iret rfl rfl rfl rfl dX8_way_75 ?_
        first | (exact ⟨by rw [if_neg (by omega)], fun _ _ _ => rfl⟩) | (refine ⟨?_, frh_11⟩; rw [if_pos (by omega)]; first | (rw [if_pos (by omega)]; assumption) | (rw [if_neg (by omega), if_pos (by omega)]; assumption) | (rw [if_neg (by omega), if_neg (by omega)]; assumption))
      refine j_lsw (tgt := 76) dX8_way_35 (by decide) (j_lswD (by simp; omega)) (by decide) ?_
      refine j_aload_n 0 dX8_way_76 rfl rfl ?_
      refine j_getr f_X8_49 r_0_6 dX8_way_77 ?_
      refine j_geti (k' := 2) f_X8_290 o_44_2 dX8_way_80 rfl ?_
      refine j_iret rfl rfl rfl rfl dX8_way_83 ?_
      first | (exact ⟨by rw [if_neg (by omega)], fun _ _ _ => rfl⟩) | (refine ⟨?_, frh_11⟩; rw [if_pos (by omega)]; first | (rw [if_pos (by omega)]; assumption) | (rw [if_neg (by omega), if_pos (by omega)]; assumption) | (rw [if_neg (by omega), if_neg (by omega)]; assumption))
    · skip
      refine j_iconst dX8_way_20 (by decide) ?_
      refine j_iret rfl rfl rfl rfl dX8_way_21 ?_
      first | (exact ⟨by rw [if_neg (by omega)], fun _ _ _ => rfl⟩) | (refine ⟨?_, frh_11⟩; rw [if_pos (by omega)]; first | (rw [if_pos (by omega)]; assumption) | (rw [if_neg (by omega), if_pos (by omega)]; assumption) | (rw [if_neg (by omega), if_neg (by omega)]; assumption))
abbrev q_X9_way (M : jM)  (H w : Int) : Int → jM → Prop := fun r N => r = (if (1 ≤ H ∧ H ≤ 200 ∧ 0 ≤ w ∧ w ≤ 2) then (if w = 0 then (wBst (M 106) (M 78) (M 79) (M 74 3).toNat H (2 ^ (M 74 3).toNat - 1)).2.1 else if w = 1 then (wBst (M 106) (M 78) (M 79) (M 74 3).toNat H (2 ^ (M 74 3).toNat - 1)).1 else (wBst (M 106) (M 78) (M 79) (M 74 3).toNat H (2 ^ (M 74 3).toNat - 1)).2.2) else -1) ∧ (∀ c, c ≠ 108 → N c = jup M 74 0 0 c)
set_option maxHeartbeats 4000000 in
set_option maxRecDepth 20000 in
theorem c_X9_way {X : jX} (M : jM)  (H w : Int) (h_rmills : 0 ≤ M 74 3 ∧ M 74 3 ≤ 6) (h_rtown : ∀ i, 0 ≤ M 78 i ∧ M 78 i ≤ 8) (h_rroad : ∀ i, 0 ≤ M 106 i ∧ M 106 i ≤ 30) (h_rdoubt : ∀ i, 0 ≤ M 79 i ∧ M 79 i ≤ 99) : jC yX9_way D_X9_way X FJ shJ [jR 74, jI H, jI w] M (jqI (q_X9_way M H w)) := by
  refine jC_of (by decide) rfl (fun ad => Nat.le_of_ble_eq_true rfl) (by decide) ?_
  show jG D_X9_way X FJ shJ 0 0 (jqI (q_X9_way M H w)) 0 [(0, jR 74), (1, jI H), (2, jI w)] [] M
  have hp2 := p2n h_rmills
  have hp1 : (0 : Int) < 2 ^ (M 74 3).toNat := Int.pow_pos (by decide)
  refine j_aload_n 0 dX9_way_0 rfl rfl ?_
  refine j_iconst dX9_way_1 (by decide) ?_
  refine j_puti (k' := 0) f_X9_124 o_74_0 dX9_way_2 rfl ?_
  refine j_nmM (fun M_1 eM_1 => ?_)
  refine j_iload_n 1 dX9_way_5 rfl rfl ?_
  refine j_iconst dX9_way_6 (by decide) ?_
  refine j_sipush dX9_way_7 (by decide) ?_
  refine j_callSi l_X9_137 ⟨Nat.le_of_ble_eq_true rfl, Nat.le_of_ble_eq_true rfl⟩ ⟨rfl, rfl⟩ dX9_way_10 (c_X9_in M_1 H 1 200) rfl rfl (Nat.le_of_ble_eq_true rfl) (fun r_2 M_3 h_4 => ?_)
  obtain ⟨er_2, nh_4⟩ := h_4
  refine j_eqM nh_4 ?_
  clear nh_4
  refine j_if_eq (tgt := 25) dX9_way_13 (by decide) (fun c13_5 => ?_) (fun c13_5 => ?_)
  · skip
    refine j_iconst dX9_way_25 (by decide) ?_
    refine j_iret rfl rfl rfl rfl dX9_way_26 ?_
    exact ⟨by rw [if_neg (by omega)], fun c _ => by rw [eM_1]⟩
  · skip
    refine j_iload_n 2 dX9_way_16 rfl rfl ?_
    refine j_iconst dX9_way_17 (by decide) ?_
    refine j_iconst dX9_way_18 (by decide) ?_
    refine j_callSi l_X9_137 ⟨Nat.le_of_ble_eq_true rfl, Nat.le_of_ble_eq_true rfl⟩ ⟨rfl, rfl⟩ dX9_way_19 (c_X9_in M_1 w 0 2) rfl rfl (Nat.le_of_ble_eq_true rfl) (fun r_6 M_7 h_8 => ?_)
    obtain ⟨er_6, nh_8⟩ := h_8
    refine j_eqM nh_8 ?_
    clear nh_8
    refine j_if_ne (tgt := 27) dX9_way_22 (by decide) (fun c22_9 => ?_) (fun c22_9 => ?_)
    · skip
      refine j_iconst dX9_way_27 (by decide) ?_
      refine j_istore_n (ls' := [(0, jR 74), (1, jI H), (2, jI w), (3, jI 0)]) dX9_way_28 rfl (by decide) rfl ?_
      refine j_iconst dX9_way_29 (by decide) ?_
      refine j_istore (ls' := [(0, jR 74), (1, jI H), (2, jI w), (3, jI 0), (4, jI 0)]) dX9_way_30 (by decide) rfl ?_
      refine j_iconst dX9_way_32 (by decide) ?_
      refine j_istore (ls' := [(0, jR 74), (1, jI H), (2, jI w), (3, jI 0), (4, jI 0), (5, jI 0)]) dX9_way_33 (by decide) rfl ?_
      refine j_iconst dX9_way_35 (by decide) ?_
      refine j_istore (ls' := [(0, jR 74), (1, jI H), (2, jI w), (3, jI 0), (4, jI 0), (5, jI 0), (6, jI 1)]) dX9_way_36 (by decide) rfl ?_
      have lp38_10 : ∀ n38 : Nat, ∀ (v3 v4 v5 v6 : Int), ∀ N38 : jM, (1 ≤ v6 ∧ v6 ≤ 2 ^ (M 74 3).toNat) ∧ (v4 = (wBst (M 106) (M 78) (M 79) (M 74 3).toNat H (v6 - 1).toNat).2.1) ∧ (v3 = (wBst (M 106) (M 78) (M 79) (M 74 3).toNat H (v6 - 1).toNat).1) ∧ (v5 = (wBst (M 106) (M 78) (M 79) (M 74 3).toNat H (v6 - 1).toNat).2.2) ∧ (∀ s l, 0 < s → s < v6 → 0 ≤ l → l < M 74 3 → tb s l = true → N38 108 (6 * s + l) = wCost (M 106) (M 78) (M 74 3).toNat s l) ∧ (∀ c, c ≠ 108 → N38 c = M_1 c) → (2 ^ (M 74 3).toNat - v6).toNat < n38 → jG D_X9_way X FJ shJ 0 0 (jqI (q_X9_way M H w)) 38 [(0, jR 74), (1, jI H), (2, jI w), (3, jI v3), (4, jI v4), (5, jI v5), (6, jI v6)] ([]) N38 := by
        intro n38
        induction n38 with
        | zero => intro v3 v4 v5 v6 N38 _ hz; exact absurd hz (Nat.not_lt_zero _)
        | succ n38 ih38 =>
          intro v3 v4 v5 v6 N38 hinv hm
          obtain ⟨h1, b0, b1, b2, hf, hk⟩ := hinv
          refine j_iload 6 dX9_way_38 rfl ?_
          refine j_iconst dX9_way_40 (by decide) ?_
          refine j_aload_n 0 dX9_way_41 rfl rfl ?_
          refine j_geti (k' := 3) f_X9_134 o_74_3 dX9_way_42 rfl ?_
          refine j_eq (Eq.trans (congrFun (hk 74 (by decide)) 3) ((congrFun (congrFun eM_1 74) 3).trans (jup_ne (by decide)))) ?_
          refine j_ishl dX9_way_45 ?_
          refine j_icmp_ge (tgt := 295) dX9_way_46 (by decide) (fun c46_11 => ?_) (fun c46_11 => ?_)
          · skip
            refine j_iload_n 2 dX9_way_295 rfl rfl ?_
            have hJ_12 : ∀ zz : Int, (¬ w = 0 ∧ ¬ w = 1 ∧ zz = v5) ∨ (¬ w = 0 ∧ w = 1 ∧ zz = v3) ∨ (w = 0 ∧ zz = v4) → jG D_X9_way X FJ shJ 0 0 (jqI (q_X9_way M H w)) 315 [(0, jR 74), (1, jI H), (2, jI w), (3, jI v3), (4, jI v4), (5, jI v5), (6, jI v6)] (jI zz :: []) N38 := by
              intro t_13 et_13
              refine j_iret rfl rfl rfl rfl dX9_way_315 ?_
              have e9 : (v6 - 1).toNat = 2 ^ (M 74 3).toNat - 1 := by (have : v6 = 2 ^ (M 74 3).toNat := by omega); rw [this]; exact p2m
              rw [e9] at b0 b1 b2
              refine ⟨?_, fun c hc => by rw [hk c hc, eM_1]⟩
              rw [if_pos (by omega)]
              (repeat' split) <;> omega
            refine j_if_ne (tgt := 304) dX9_way_296 (by decide) (fun c296_14 => ?_) (fun c296_14 => ?_)
            · skip
              refine j_iload_n 2 dX9_way_304 rfl rfl ?_
              refine j_iconst dX9_way_305 (by decide) ?_
              refine j_icmp_ne (tgt := 313) dX9_way_306 (by decide) (fun c306_15 => ?_) (fun c306_15 => ?_)
              · skip
                refine j_iload 5 dX9_way_313 rfl ?_
                exact hJ_12 _ (Or.inl ⟨c296_14, c306_15, rfl⟩)
              · skip
                refine j_iload_n 3 dX9_way_309 rfl rfl ?_
                refine j_goto (tgt := 315) dX9_way_310 (by decide) ?_
                exact hJ_12 _ (Or.inr (Or.inl ⟨c296_14, c306_15, rfl⟩))
            · skip
              refine j_iload 4 dX9_way_299 rfl ?_
              refine j_goto (tgt := 315) dX9_way_301 (by decide) ?_
              exact hJ_12 _ (Or.inr (Or.inr (⟨c296_14, rfl⟩)))
          · skip
            refine j_iconst dX9_way_49 (by decide) ?_
            refine j_istore (ls' := [(0, jR 74), (1, jI H), (2, jI w), (3, jI v3), (4, jI v4), (5, jI v5), (6, jI v6), (7, jI 0)]) dX9_way_50 (by decide) rfl ?_
            refine j_ldc_w (n := 100000) dX9_way_52 c_X9_333 (by decide) ?_
            refine j_istore (ls' := [(0, jR 74), (1, jI H), (2, jI w), (3, jI v3), (4, jI v4), (5, jI v5), (6, jI v6), (7, jI 0), (8, jI 100000)]) dX9_way_55 (by decide) rfl ?_
            refine j_iconst dX9_way_57 (by decide) ?_
            refine j_istore (ls' := [(0, jR 74), (1, jI H), (2, jI w), (3, jI v3), (4, jI v4), (5, jI v5), (6, jI v6), (7, jI 0), (8, jI 100000), (9, jI 0)]) dX9_way_58 (by decide) rfl ?_
            have lp60_16 : ∀ n60 : Nat, ∀ (v7 v8 v9 : Int), ∀ N60 : jM, (0 ≤ v9 ∧ v9 ≤ M 74 3) ∧ (v7 = wSum (M 79) v6 v9.toNat) ∧ ((wTake (fun l => wCost (M 106) (M 78) (M 74 3).toNat v6 l) v6 v9.toNat = -1 ∧ v8 = 100000) ∨ (¬ wTake (fun l => wCost (M 106) (M 78) (M 74 3).toNat v6 l) v6 v9.toNat = -1 ∧ v8 = wTake (fun l => wCost (M 106) (M 78) (M 74 3).toNat v6 l) v6 v9.toNat)) ∧ (∀ l, 0 ≤ l → l < v9 → tb v6 l = true → N60 108 (6 * v6 + l) = wCost (M 106) (M 78) (M 74 3).toNat v6 l) ∧ (∀ s l, 0 < s → s < v6 → 0 ≤ l → l < M 74 3 → tb s l = true → N60 108 (6 * s + l) = wCost (M 106) (M 78) (M 74 3).toNat s l) ∧ (∀ c, c ≠ 108 → N60 c = N38 c) → (M 74 3 - v9).toNat < n60 → jG D_X9_way X FJ shJ 0 0 (jqI (q_X9_way M H w)) 60 [(0, jR 74), (1, jI H), (2, jI w), (3, jI v3), (4, jI v4), (5, jI v5), (6, jI v6), (7, jI v7), (8, jI v8), (9, jI v9)] ([]) N60 := by
              intro n60
              induction n60 with
              | zero => intro v7 v8 v9 N60 _ hz; exact absurd hz (Nat.not_lt_zero _)
              | succ n60 ih60 =>
                intro v7 v8 v9 N60 hinv hm
                obtain ⟨g1, g7, g8, gf, gf2, gk⟩ := hinv
                have e8 := toNat_c g1.1
                have q4 := wSum_in h_rdoubt v6 v9.toNat
                rw [← g7] at q4
                have q5 := wTake_in (s := v6) (c := fun l => wCost (M 106) (M 78) (M 74 3).toNat v6 l) (B := 992) (fun k k0 kb => ⟨wCost_pos h_rroad (by omega) (by omega) (by omega) ⟨k0, by apply Classical.byContradiction; intro z; rw [tb_hi ⟨by omega, by omega⟩ (by omega)] at kb; cases kb⟩ kb, (wCost_b h_rroad _ _ k).2⟩) v9.toNat
                refine j_iload 9 dX9_way_60 rfl ?_
                refine j_aload_n 0 dX9_way_62 rfl rfl ?_
                refine j_geti (k' := 3) f_X9_134 o_74_3 dX9_way_63 rfl ?_
                refine j_eq (Eq.trans (congrFun (gk 74 (by decide)) 3) (Eq.trans (congrFun (hk 74 (by decide)) 3) ((congrFun (congrFun eM_1 74) 3).trans (jup_ne (by decide))))) ?_
                refine j_icmp_ge (tgt := 251) dX9_way_66 (by decide) (fun c66_17 => ?_) (fun c66_17 => ?_)
                · skip
                  have e6 : v9 = M 74 3 := by omega
                  rw [e6] at g7 g8 gf
                  obtain ⟨km, hkm, hkb⟩ := w_member (s := v6) (by omega) (n := (M 74 3).toNat) (by omega)
                  have q2 := wTake_some (s := v6) (c := fun l => wCost (M 106) (M 78) (M 74 3).toNat v6 l) (B := 992) (fun k k0 kb => ⟨wCost_pos h_rroad (by omega) (by omega) (by omega) ⟨k0, by apply Classical.byContradiction; intro z; rw [tb_hi ⟨by omega, by omega⟩ (by omega)] at kb; cases kb⟩ kb, (wCost_b h_rroad _ _ k).2⟩) (M 74 3).toNat km hkm hkb
                  have ht : v8 = wTake (fun l => wCost (M 106) (M 78) (M 74 3).toNat v6 l) v6 (M 74 3).toNat := by omega
                  refine j_iload 8 dX9_way_251 rfl ?_
                  refine j_iload_n 1 dX9_way_253 rfl rfl ?_
                  refine j_icmp_gt (tgt := 289) dX9_way_254 (by decide) (fun c254_18 => ?_) (fun c254_18 => ?_)
                  · skip
                    obtain ⟨v6_19, ev6_19⟩ : ∃ y : Int, y = v6 + 1 := ⟨_, rfl⟩
                    refine j_iinc (y := v6_19) (ls' := [(0, jR 74), (1, jI H), (2, jI w), (3, jI v3), (4, jI v4), (5, jI v5), (6, jI v6_19), (7, jI v7), (8, jI v8), (9, jI v9)]) 6 dX9_way_289 rfl ev6_19 (by omega) (by decide) rfl ?_
                    refine j_goto (tgt := 38) dX9_way_292 (by decide) ?_
                    refine j_sub (ls' := [(0, jR 74), (1, jI H), (2, jI w), (3, jI v3), (4, jI v4), (5, jI v5), (6, jI v6_19)]) [0, 1, 2, 3, 4, 5, 6] rfl ?_
                    exact ih38 v3 v4 v5 v6_19 N60 ⟨by omega, by rw [ev6_19]; rw [show v6 + 1 - 1 = v6 by omega, wBst_step (v := v6) (sm := v7) (tk := v8) (by omega) g7 ht]; first | (rw [if_pos (by omega)]; done) | (rw [if_neg (by omega)]; assumption), by rw [ev6_19]; rw [show v6 + 1 - 1 = v6 by omega, wBst_step (v := v6) (sm := v7) (tk := v8) (by omega) g7 ht]; first | (rw [if_pos (by omega)]; done) | (rw [if_neg (by omega)]; assumption), by rw [ev6_19]; rw [show v6 + 1 - 1 = v6 by omega, wBst_step (v := v6) (sm := v7) (tk := v8) (by omega) g7 ht]; first | (rw [if_pos (by omega)]; done) | (rw [if_neg (by omega)]; assumption), by intro s l s0 s1 l0 l1 lb; by_cases hs : s = v6; (· rw [hs] at lb ⊢; exact gf l l0 l1 lb); (· exact gf2 s l s0 (by omega) l0 l1 lb), by intro c z1; rw [gk c z1]; exact hk c z1⟩ (by omega)
                  · skip
                    refine j_iload 7 dX9_way_257 rfl ?_
                    refine j_iload 4 dX9_way_259 rfl ?_
                    refine j_icmp_gt (tgt := 278) dX9_way_261 (by decide) (fun c261_20 => ?_) (fun c261_20 => ?_)
                    · skip
                      refine j_iload 6 dX9_way_278 rfl ?_
                      refine j_istore_n (ls' := [(0, jR 74), (1, jI H), (2, jI w), (3, jI v6), (4, jI v4), (5, jI v5), (6, jI v6), (7, jI v7), (8, jI v8), (9, jI v9)]) dX9_way_280 rfl (by decide) rfl ?_
                      refine j_iload 7 dX9_way_281 rfl ?_
                      refine j_istore (ls' := [(0, jR 74), (1, jI H), (2, jI w), (3, jI v6), (4, jI v7), (5, jI v5), (6, jI v6), (7, jI v7), (8, jI v8), (9, jI v9)]) dX9_way_283 (by decide) rfl ?_
                      refine j_iload 8 dX9_way_285 rfl ?_
                      refine j_istore (ls' := [(0, jR 74), (1, jI H), (2, jI w), (3, jI v6), (4, jI v7), (5, jI v8), (6, jI v6), (7, jI v7), (8, jI v8), (9, jI v9)]) dX9_way_287 (by decide) rfl ?_
                      obtain ⟨v6_21, ev6_21⟩ : ∃ y : Int, y = v6 + 1 := ⟨_, rfl⟩
                      refine j_iinc (y := v6_21) (ls' := [(0, jR 74), (1, jI H), (2, jI w), (3, jI v6), (4, jI v7), (5, jI v8), (6, jI v6_21), (7, jI v7), (8, jI v8), (9, jI v9)]) 6 dX9_way_289 rfl ev6_21 (by omega) (by decide) rfl ?_
                      refine j_goto (tgt := 38) dX9_way_292 (by decide) ?_
                      refine j_sub (ls' := [(0, jR 74), (1, jI H), (2, jI w), (3, jI v6), (4, jI v7), (5, jI v8), (6, jI v6_21)]) [0, 1, 2, 3, 4, 5, 6] rfl ?_
                      exact ih38 v6 v7 v8 v6_21 N60 ⟨by omega, by rw [ev6_21]; rw [show v6 + 1 - 1 = v6 by omega, wBst_step (v := v6) (sm := v7) (tk := v8) (by omega) g7 ht]; first | (rw [if_pos (by omega)]; done) | (rw [if_neg (by omega)]; assumption), by rw [ev6_21]; rw [show v6 + 1 - 1 = v6 by omega, wBst_step (v := v6) (sm := v7) (tk := v8) (by omega) g7 ht]; first | (rw [if_pos (by omega)]; done) | (rw [if_neg (by omega)]; assumption), by rw [ev6_21]; rw [show v6 + 1 - 1 = v6 by omega, wBst_step (v := v6) (sm := v7) (tk := v8) (by omega) g7 ht]; first | (rw [if_pos (by omega)]; done) | (rw [if_neg (by omega)]; assumption), by intro s l s0 s1 l0 l1 lb; by_cases hs : s = v6; (· rw [hs] at lb ⊢; exact gf l l0 l1 lb); (· exact gf2 s l s0 (by omega) l0 l1 lb), by intro c z1; rw [gk c z1]; exact hk c z1⟩ (by omega)
                    · skip
                      refine j_iload 7 dX9_way_264 rfl ?_
                      refine j_iload 4 dX9_way_266 rfl ?_
                      refine j_icmp_ne (tgt := 289) dX9_way_268 (by decide) (fun c268_22 => ?_) (fun c268_22 => ?_)
                      · skip
                        obtain ⟨v6_23, ev6_23⟩ : ∃ y : Int, y = v6 + 1 := ⟨_, rfl⟩
                        refine j_iinc (y := v6_23) (ls' := [(0, jR 74), (1, jI H), (2, jI w), (3, jI v3), (4, jI v4), (5, jI v5), (6, jI v6_23), (7, jI v7), (8, jI v8), (9, jI v9)]) 6 dX9_way_289 rfl ev6_23 (by omega) (by decide) rfl ?_
                        refine j_goto (tgt := 38) dX9_way_292 (by decide) ?_
                        refine j_sub (ls' := [(0, jR 74), (1, jI H), (2, jI w), (3, jI v3), (4, jI v4), (5, jI v5), (6, jI v6_23)]) [0, 1, 2, 3, 4, 5, 6] rfl ?_
                        exact ih38 v3 v4 v5 v6_23 N60 ⟨by omega, by rw [ev6_23]; rw [show v6 + 1 - 1 = v6 by omega, wBst_step (v := v6) (sm := v7) (tk := v8) (by omega) g7 ht]; first | (rw [if_pos (by omega)]; done) | (rw [if_neg (by omega)]; assumption), by rw [ev6_23]; rw [show v6 + 1 - 1 = v6 by omega, wBst_step (v := v6) (sm := v7) (tk := v8) (by omega) g7 ht]; first | (rw [if_pos (by omega)]; done) | (rw [if_neg (by omega)]; assumption), by rw [ev6_23]; rw [show v6 + 1 - 1 = v6 by omega, wBst_step (v := v6) (sm := v7) (tk := v8) (by omega) g7 ht]; first | (rw [if_pos (by omega)]; done) | (rw [if_neg (by omega)]; assumption), by intro s l s0 s1 l0 l1 lb; by_cases hs : s = v6; (· rw [hs] at lb ⊢; exact gf l l0 l1 lb); (· exact gf2 s l s0 (by omega) l0 l1 lb), by intro c z1; rw [gk c z1]; exact hk c z1⟩ (by omega)
                      · skip
                        refine j_iload 8 dX9_way_271 rfl ?_
                        refine j_iload 5 dX9_way_273 rfl ?_
                        refine j_icmp_ge (tgt := 289) dX9_way_275 (by decide) (fun c275_24 => ?_) (fun c275_24 => ?_)
                        · skip
                          obtain ⟨v6_25, ev6_25⟩ : ∃ y : Int, y = v6 + 1 := ⟨_, rfl⟩
                          refine j_iinc (y := v6_25) (ls' := [(0, jR 74), (1, jI H), (2, jI w), (3, jI v3), (4, jI v4), (5, jI v5), (6, jI v6_25), (7, jI v7), (8, jI v8), (9, jI v9)]) 6 dX9_way_289 rfl ev6_25 (by omega) (by decide) rfl ?_
                          refine j_goto (tgt := 38) dX9_way_292 (by decide) ?_
                          refine j_sub (ls' := [(0, jR 74), (1, jI H), (2, jI w), (3, jI v3), (4, jI v4), (5, jI v5), (6, jI v6_25)]) [0, 1, 2, 3, 4, 5, 6] rfl ?_
                          exact ih38 v3 v4 v5 v6_25 N60 ⟨by omega, by rw [ev6_25]; rw [show v6 + 1 - 1 = v6 by omega, wBst_step (v := v6) (sm := v7) (tk := v8) (by omega) g7 ht]; first | (rw [if_pos (by omega)]; done) | (rw [if_neg (by omega)]; assumption), by rw [ev6_25]; rw [show v6 + 1 - 1 = v6 by omega, wBst_step (v := v6) (sm := v7) (tk := v8) (by omega) g7 ht]; first | (rw [if_pos (by omega)]; done) | (rw [if_neg (by omega)]; assumption), by rw [ev6_25]; rw [show v6 + 1 - 1 = v6 by omega, wBst_step (v := v6) (sm := v7) (tk := v8) (by omega) g7 ht]; first | (rw [if_pos (by omega)]; done) | (rw [if_neg (by omega)]; assumption), by intro s l s0 s1 l0 l1 lb; by_cases hs : s = v6; (· rw [hs] at lb ⊢; exact gf l l0 l1 lb); (· exact gf2 s l s0 (by omega) l0 l1 lb), by intro c z1; rw [gk c z1]; exact hk c z1⟩ (by omega)
                        · skip
                          refine j_iload 6 dX9_way_278 rfl ?_
                          refine j_istore_n (ls' := [(0, jR 74), (1, jI H), (2, jI w), (3, jI v6), (4, jI v4), (5, jI v5), (6, jI v6), (7, jI v7), (8, jI v8), (9, jI v9)]) dX9_way_280 rfl (by decide) rfl ?_
                          refine j_iload 7 dX9_way_281 rfl ?_
                          refine j_istore (ls' := [(0, jR 74), (1, jI H), (2, jI w), (3, jI v6), (4, jI v7), (5, jI v5), (6, jI v6), (7, jI v7), (8, jI v8), (9, jI v9)]) dX9_way_283 (by decide) rfl ?_
                          refine j_iload 8 dX9_way_285 rfl ?_
                          refine j_istore (ls' := [(0, jR 74), (1, jI H), (2, jI w), (3, jI v6), (4, jI v7), (5, jI v8), (6, jI v6), (7, jI v7), (8, jI v8), (9, jI v9)]) dX9_way_287 (by decide) rfl ?_
                          obtain ⟨v6_26, ev6_26⟩ : ∃ y : Int, y = v6 + 1 := ⟨_, rfl⟩
                          refine j_iinc (y := v6_26) (ls' := [(0, jR 74), (1, jI H), (2, jI w), (3, jI v6), (4, jI v7), (5, jI v8), (6, jI v6_26), (7, jI v7), (8, jI v8), (9, jI v9)]) 6 dX9_way_289 rfl ev6_26 (by omega) (by decide) rfl ?_
                          refine j_goto (tgt := 38) dX9_way_292 (by decide) ?_
                          refine j_sub (ls' := [(0, jR 74), (1, jI H), (2, jI w), (3, jI v6), (4, jI v7), (5, jI v8), (6, jI v6_26)]) [0, 1, 2, 3, 4, 5, 6] rfl ?_
                          exact ih38 v6 v7 v8 v6_26 N60 ⟨by omega, by rw [ev6_26]; rw [show v6 + 1 - 1 = v6 by omega, wBst_step (v := v6) (sm := v7) (tk := v8) (by omega) g7 ht]; first | (rw [if_pos (by omega)]; done) | (rw [if_neg (by omega)]; assumption), by rw [ev6_26]; rw [show v6 + 1 - 1 = v6 by omega, wBst_step (v := v6) (sm := v7) (tk := v8) (by omega) g7 ht]; first | (rw [if_pos (by omega)]; done) | (rw [if_neg (by omega)]; assumption), by rw [ev6_26]; rw [show v6 + 1 - 1 = v6 by omega, wBst_step (v := v6) (sm := v7) (tk := v8) (by omega) g7 ht]; first | (rw [if_pos (by omega)]; done) | (rw [if_neg (by omega)]; assumption), by intro s l s0 s1 l0 l1 lb; by_cases hs : s = v6; (· rw [hs] at lb ⊢; exact gf l l0 l1 lb); (· exact gf2 s l s0 (by omega) l0 l1 lb), by intro c z1; rw [gk c z1]; exact hk c z1⟩ (by omega)
                · skip
                  refine j_aload_n 0 dX9_way_69 rfl rfl ?_
                  refine j_getr f_X9_111 r_74_49 dX9_way_70 ?_
                  refine j_bipush dX9_way_73 (by decide) ?_
                  refine j_iload 6 dX9_way_75 rfl ?_
                  refine j_imul dX9_way_77 (by omega) ?_
                  refine j_iload 9 dX9_way_78 rfl ?_
                  refine j_iadd dX9_way_80 (by omega) ?_
                  refine j_ldc_w (n := 100000) dX9_way_81 c_X9_333 (by decide) ?_
                  refine j_iast a_108 dX9_way_84 (by omega) (by omega) ?_
                  refine j_nmM (fun M_27 eM_27 => ?_)
                  refine j_iload 6 dX9_way_85 rfl ?_
                  refine j_iload 9 dX9_way_87 rfl ?_
                  refine j_ishr dX9_way_89 ?_
                  refine j_iconst dX9_way_90 (by decide) ?_
                  refine j_iand dX9_way_91 ?_
                  refine j_iconst dX9_way_92 (by decide) ?_
                  refine j_icmp_ne (tgt := 245) dX9_way_93 (by decide) (fun c93_28 => ?_) (fun c93_28 => ?_)
                  · skip
                    have hbit := bit_no (x := v6) (k := v9) (by omega) (by omega) c93_28
                    obtain ⟨v9_29, ev9_29⟩ : ∃ y : Int, y = v9 + 1 := ⟨_, rfl⟩
                    refine j_iinc (y := v9_29) (ls' := [(0, jR 74), (1, jI H), (2, jI w), (3, jI v3), (4, jI v4), (5, jI v5), (6, jI v6), (7, jI v7), (8, jI v8), (9, jI v9_29)]) 9 dX9_way_245 rfl ev9_29 (by omega) (by decide) rfl ?_
                    refine j_goto (tgt := 60) dX9_way_248 (by decide) ?_
                    exact ih60 v7 v8 v9_29 M_27 ⟨by omega, by rw [ev9_29, toNat_s g1.1]; first | (rw [wSum_skip (by rw [e8]; exact hbit)]; exact g7) | (rw [wSum_step (by rw [e8]; exact hbit), e8]; omega), by rw [ev9_29, toNat_s g1.1]; first | exact wTake_skip (by rw [e8]; exact hbit) g8 | exact wTake_step (r := v11) (by rw [e8]; exact hbit) (by rw [e8]; exact hv) (by omega) g8 (by omega) (by omega) (by omega), by intro l l0 l1 lb; first | (rw [eM_27, jup_at, if_neg (by intro z; have : l = v9 := (by omega); rw [this] at lb; exact hbit lb)]; exact gf l l0 (by have : ¬ l = v9 := (fun z => hbit (z ▸ lb)); omega) lb) | (rw [eM_27, jup_at, jup_at]; by_cases hl : l = v9; (· rw [hl, if_pos rfl]; exact hv); (· rw [if_neg (by omega), if_neg (by omega)]; exact gf l l0 (by omega) lb)), by intro s l s0 s1 l0 l1 lb; first | (rw [eM_27, jup_at, jup_at, if_neg (by omega), if_neg (by omega)]; exact gf2 s l s0 s1 l0 l1 lb) | (rw [eM_27, jup_at, if_neg (by omega)]; exact gf2 s l s0 s1 l0 l1 lb), by intro c hc; first | (rw [eM_27, jup_cell hc, jup_cell hc]; exact gk c hc) | (rw [eM_27, jup_cell hc]; exact gk c hc)⟩ (by omega)
                  · skip
                    have hbit := bit_yes (x := v6) (k := v9) (by omega) (by omega) c93_28
                    refine j_iload 6 dX9_way_96 rfl ?_
                    refine j_iconst dX9_way_98 (by decide) ?_
                    refine j_iload 9 dX9_way_99 rfl ?_
                    refine j_ishl dX9_way_101 ?_
                    refine j_iconst dX9_way_102 (by decide) ?_
                    refine j_ixor dX9_way_103 ?_
                    refine j_iand dX9_way_104 ?_
                    refine j_nm (fun v10_30 ev10_30 => ?_)
                    refine j_istore (ls' := [(0, jR 74), (1, jI H), (2, jI w), (3, jI v3), (4, jI v4), (5, jI v5), (6, jI v6), (7, jI v7), (8, jI v8), (9, jI v9), (10, jI v10_30)]) dX9_way_105 (by decide) rfl ?_
                    change v10_30 = wRest v6 v9 at ev10_30
                    have hr1 : 0 ≤ wRest v6 v9 ∧ wRest v6 v9 < 2147483648 := (wRest_in ⟨by omega, by omega⟩ (l := v9) (by omega)).1
                    have hr2 := wRest_lt (s := v6) ⟨by omega, by omega⟩ (l := v9) (by omega) hbit
                    have hW := wCost_eq (M 106) (M 78) (M 74 3).toNat (s := v6) (l := v9) ⟨by omega, by omega⟩ (by omega) hbit
                    refine j_iload 10 dX9_way_107 rfl ?_
                    refine j_if_ne (tgt := 129) dX9_way_109 (by decide) (fun c109_31 => ?_) (fun c109_31 => ?_)
                    · skip
                      refine j_ldc_w (n := 100000) dX9_way_129 c_X9_333 (by decide) ?_
                      refine j_istore (ls' := [(0, jR 74), (1, jI H), (2, jI w), (3, jI v3), (4, jI v4), (5, jI v5), (6, jI v6), (7, jI v7), (8, jI v8), (9, jI v9), (10, jI v10_30), (11, jI 100000)]) dX9_way_132 (by decide) rfl ?_
                      refine j_iconst dX9_way_134 (by decide) ?_
                      refine j_istore (ls' := [(0, jR 74), (1, jI H), (2, jI w), (3, jI v3), (4, jI v4), (5, jI v5), (6, jI v6), (7, jI v7), (8, jI v8), (9, jI v9), (10, jI v10_30), (11, jI 100000), (12, jI 0)]) dX9_way_135 (by decide) rfl ?_
                      have lp137_32 : ∀ n137 : Nat, ∀ (v11 v12 : Int), (0 ≤ v12 ∧ v12 ≤ M 74 3) ∧ ((wRest v6 v9 = 0 ∧ v11 = M 106 (M 78 v9) + 2) ∨ (¬ wRest v6 v9 = 0 ∧ ((wAcc (M 106) (M 78) (fun k => wCost (M 106) (M 78) (M 74 3).toNat (wRest v6 v9) k) (wRest v6 v9) v9 v12.toNat = -1 ∧ v11 = 100000) ∨ (¬ wAcc (M 106) (M 78) (fun k => wCost (M 106) (M 78) (M 74 3).toNat (wRest v6 v9) k) (wRest v6 v9) v9 v12.toNat = -1 ∧ v11 = wAcc (M 106) (M 78) (fun k => wCost (M 106) (M 78) (M 74 3).toNat (wRest v6 v9) k) (wRest v6 v9) v9 v12.toNat)))) → (M 74 3 - v12).toNat < n137 → jG D_X9_way X FJ shJ 0 0 (jqI (q_X9_way M H w)) 137 [(0, jR 74), (1, jI H), (2, jI w), (3, jI v3), (4, jI v4), (5, jI v5), (6, jI v6), (7, jI v7), (8, jI v8), (9, jI v9), (10, jI v10_30), (11, jI v11), (12, jI v12)] ([]) M_27 := by
                        intro n137
                        induction n137 with
                        | zero => intro v11 v12  _ hz; exact absurd hz (Nat.not_lt_zero _)
                        | succ n137 ih137 =>
                          intro v11 v12  hinv hm
                          obtain ⟨kk1, kk2⟩ := hinv
                          have x1 := h_rtown v9
                          have x2 := h_rroad (M 78 v9)
                          have q6 := wAcc_in (tw := M 78) (l := v9) (r := wRest v6 v9) (c := fun k => wCost (M 106) (M 78) (M 74 3).toNat (wRest v6 v9) k) (B := 992) h_rroad (fun k _ _ => wCost_b h_rroad _ _ k) v12.toNat
                          refine j_iload 12 dX9_way_137 rfl ?_
                          refine j_aload_n 0 dX9_way_139 rfl rfl ?_
                          refine j_geti (k' := 3) f_X9_134 o_74_3 dX9_way_140 rfl ?_
                          refine j_eq (Eq.trans (congrFun ((congrFun eM_27 74).trans (jup_cell (by decide))) 3) (Eq.trans (congrFun (gk 74 (by decide)) 3) (Eq.trans (congrFun (hk 74 (by decide)) 3) ((congrFun (congrFun eM_1 74) 3).trans (jup_ne (by decide)))))) ?_
                          refine j_icmp_ge (tgt := 209) dX9_way_143 (by decide) (fun c143_33 => ?_) (fun c143_33 => ?_)
                          · skip
                            have hv : v11 = wCost (M 106) (M 78) (M 74 3).toNat v6 v9 := by rw [hW]; rcases kk2 with ⟨z0, z1⟩ | ⟨z0, z1⟩; (· rw [if_pos z0]; exact z1); (· rw [if_neg z0]; rw [show v12.toNat = (M 74 3).toNat by rw [show v12 = M 74 3 by omega]] at z1; obtain ⟨km, hkm, hkb⟩ := w_member (s := wRest v6 v9) (by omega) (n := (M 74 3).toNat) (by omega); have q2 := wAcc_some (tw := M 78) (l := v9) (r := wRest v6 v9) (c := fun k => wCost (M 106) (M 78) (M 74 3).toNat (wRest v6 v9) k) (B := 992) h_rroad (fun k _ _ => wCost_b h_rroad _ _ k) (M 74 3).toNat km hkm hkb; omega)
                            have hpos := wCost_pos (tw := M 78) h_rroad (n := (M 74 3).toNat) (by omega) (s := v6) (l := v9) (by omega) (by omega) (by omega) hbit
                            have hbb := wCost_b (tw := M 78) h_rroad (M 74 3).toNat v6 v9
                            refine j_aload_n 0 dX9_way_209 rfl rfl ?_
                            refine j_getr f_X9_111 r_74_49 dX9_way_210 ?_
                            refine j_bipush dX9_way_213 (by decide) ?_
                            refine j_iload 6 dX9_way_215 rfl ?_
                            refine j_imul dX9_way_217 (by omega) ?_
                            refine j_iload 9 dX9_way_218 rfl ?_
                            refine j_iadd dX9_way_220 (by omega) ?_
                            refine j_iload 11 dX9_way_221 rfl ?_
                            refine j_iast a_108 dX9_way_223 (by omega) (by omega) ?_
                            refine j_nmM (fun M_34 eM_34 => ?_)
                            refine j_iload 8 dX9_way_224 rfl ?_
                            refine j_iload 11 dX9_way_226 rfl ?_
                            refine j_callSi l_X9_305 ⟨Nat.le_of_ble_eq_true rfl, Nat.le_of_ble_eq_true rfl⟩ ⟨rfl, rfl⟩ dX9_way_228 (c_X9_least M_34 v8 v11) rfl rfl (Nat.le_of_ble_eq_true rfl) (fun r_35 M_36 h_37 => ?_)
                            obtain ⟨er_35, nh_37⟩ := h_37
                            refine j_eqM nh_37 ?_
                            clear nh_37
                            refine j_istore (ls' := [(0, jR 74), (1, jI H), (2, jI w), (3, jI v3), (4, jI v4), (5, jI v5), (6, jI v6), (7, jI v7), (8, jI r_35), (9, jI v9), (10, jI v10_30), (11, jI v11), (12, jI v12)]) dX9_way_231 (by decide) rfl ?_
                            refine j_iload 7 dX9_way_233 rfl ?_
                            refine j_aload_n 0 dX9_way_235 rfl rfl ?_
                            refine j_getr f_X9_23 r_74_7 dX9_way_236 ?_
                            refine j_iload 9 dX9_way_239 rfl ?_
                            refine j_iald a_79 dX9_way_241 (by omega) (by omega) ?_
                            refine j_eq (Eq.trans (congrFun ((congrFun eM_34 79).trans (jup_cell (by decide))) v9) (Eq.trans (congrFun ((congrFun eM_27 79).trans (jup_cell (by decide))) v9) (Eq.trans (congrFun (gk 79 (by decide)) v9) (Eq.trans (congrFun (hk 79 (by decide)) v9) (congrFun ((congrFun eM_1 79).trans (jup_cell (by decide))) v9))))) ?_
                            have g_38 := h_rdoubt v9
                            refine j_iadd dX9_way_242 (by omega) ?_
                            refine j_nm (fun v7_39 ev7_39 => ?_)
                            refine j_istore (ls' := [(0, jR 74), (1, jI H), (2, jI w), (3, jI v3), (4, jI v4), (5, jI v5), (6, jI v6), (7, jI v7_39), (8, jI r_35), (9, jI v9), (10, jI v10_30), (11, jI v11), (12, jI v12)]) dX9_way_243 (by decide) rfl ?_
                            obtain ⟨v9_40, ev9_40⟩ : ∃ y : Int, y = v9 + 1 := ⟨_, rfl⟩
                            refine j_iinc (y := v9_40) (ls' := [(0, jR 74), (1, jI H), (2, jI w), (3, jI v3), (4, jI v4), (5, jI v5), (6, jI v6), (7, jI v7_39), (8, jI r_35), (9, jI v9_40), (10, jI v10_30), (11, jI v11), (12, jI v12)]) 9 dX9_way_245 rfl ev9_40 (by omega) (by decide) rfl ?_
                            refine j_goto (tgt := 60) dX9_way_248 (by decide) ?_
                            refine j_sub (ls' := [(0, jR 74), (1, jI H), (2, jI w), (3, jI v3), (4, jI v4), (5, jI v5), (6, jI v6), (7, jI v7_39), (8, jI r_35), (9, jI v9_40)]) [0, 1, 2, 3, 4, 5, 6, 7, 8, 9] rfl ?_
                            exact ih60 v7_39 r_35 v9_40 M_34 ⟨by omega, by rw [ev9_40, toNat_s g1.1]; first | (rw [wSum_skip (by rw [e8]; exact hbit)]; exact g7) | (rw [wSum_step (by rw [e8]; exact hbit), e8]; omega), by rw [ev9_40, toNat_s g1.1]; first | exact wTake_skip (by rw [e8]; exact hbit) g8 | exact wTake_step (r := v11) (by rw [e8]; exact hbit) (by rw [e8]; exact hv) (by omega) g8 (by omega) (by omega) (by omega), by intro l l0 l1 lb; first | (rw [eM_34, eM_27, jup_at, if_neg (by intro z; have : l = v9 := (by omega); rw [this] at lb; exact hbit lb)]; exact gf l l0 (by have : ¬ l = v9 := (fun z => hbit (z ▸ lb)); omega) lb) | (rw [eM_34, eM_27, jup_at, jup_at]; by_cases hl : l = v9; (· rw [hl, if_pos rfl]; exact hv); (· rw [if_neg (by omega), if_neg (by omega)]; exact gf l l0 (by omega) lb)), by intro s l s0 s1 l0 l1 lb; first | (rw [eM_34, eM_27, jup_at, jup_at, if_neg (by omega), if_neg (by omega)]; exact gf2 s l s0 s1 l0 l1 lb) | (rw [eM_34, eM_27, jup_at, if_neg (by omega)]; exact gf2 s l s0 s1 l0 l1 lb), by intro c hc; first | (rw [eM_34, eM_27, jup_cell hc, jup_cell hc]; exact gk c hc) | (rw [eM_34, eM_27, jup_cell hc]; exact gk c hc)⟩ (by omega)
                          · skip
                            refine j_iload 10 dX9_way_146 rfl ?_
                            refine j_iload 12 dX9_way_148 rfl ?_
                            refine j_ishr dX9_way_150 ?_
                            refine j_iconst dX9_way_151 (by decide) ?_
                            refine j_iand dX9_way_152 ?_
                            refine j_iconst dX9_way_153 (by decide) ?_
                            refine j_icmp_ne (tgt := 203) dX9_way_154 (by decide) (fun c154_41 => ?_) (fun c154_41 => ?_)
                            · skip
                              have hbit2 := bit_no (x := v10_30) (k := v12) (by omega) (by omega) c154_41
                              rw [ev10_30] at hbit2
                              obtain ⟨v12_42, ev12_42⟩ : ∃ y : Int, y = v12 + 1 := ⟨_, rfl⟩
                              refine j_iinc (y := v12_42) (ls' := [(0, jR 74), (1, jI H), (2, jI w), (3, jI v3), (4, jI v4), (5, jI v5), (6, jI v6), (7, jI v7), (8, jI v8), (9, jI v9), (10, jI v10_30), (11, jI v11), (12, jI v12_42)]) 12 dX9_way_203 rfl ev12_42 (by omega) (by decide) rfl ?_
                              refine j_goto (tgt := 137) dX9_way_206 (by decide) ?_
                              exact ih137 v11 v12_42 ⟨by omega, by rw [ev12_42, toNat_s kk1.1]; unfold wAcc; rw [toNat_c kk1.1]; first | (rw [if_neg hbit2]; exact kk2) | (rw [if_pos hbit2]; unfold wMin; right; have hz := tb_pos hr1.1 hbit2; refine ⟨by omega, ?_⟩; rw [ev11]; rcases kk2 with ⟨ha, hv⟩ | ⟨hc, ⟨ha, hv⟩ | ⟨ha, hv⟩⟩; (· omega); (· rw [if_pos ha]; omega); (· rw [if_neg ha]; omega))⟩ (by omega)
                            · skip
                              have hbit2 := bit_yes (x := v10_30) (k := v12) (by omega) (by omega) c154_41
                              rw [ev10_30] at hbit2
                              have hx : M_27 108 (6 * v10_30 + v12) = wCost (M 106) (M 78) (M 74 3).toNat (wRest v6 v9) v12 := by rw [eM_27, jup_at, if_neg (by omega), ev10_30]; exact gf2 _ _ (tb_pos hr1.1 hbit2) hr2 kk1.1 (by omega) hbit2
                              have hy := wCost_b (tw := M 78) h_rroad (M 74 3).toNat (wRest v6 v9) v12
                              refine j_iload 11 dX9_way_157 rfl ?_
                              refine j_aload_n 0 dX9_way_159 rfl rfl ?_
                              refine j_getr f_X9_111 r_74_49 dX9_way_160 ?_
                              refine j_bipush dX9_way_163 (by decide) ?_
                              refine j_iload 10 dX9_way_165 rfl ?_
                              refine j_imul dX9_way_167 (by omega) ?_
                              refine j_iload 12 dX9_way_168 rfl ?_
                              refine j_iadd dX9_way_170 (by omega) ?_
                              refine j_iald a_108 dX9_way_171 (by omega) (by omega) ?_
                              refine j_aload_n 0 dX9_way_172 rfl rfl ?_
                              refine j_getr f_X9_105 r_74_47 dX9_way_173 ?_
                              refine j_bipush dX9_way_176 (by decide) ?_
                              refine j_aload_n 0 dX9_way_178 rfl rfl ?_
                              refine j_getr f_X9_20 r_74_6 dX9_way_179 ?_
                              refine j_iload 12 dX9_way_182 rfl ?_
                              refine j_iald a_78 dX9_way_184 (by omega) (by omega) ?_
                              refine j_eq (Eq.trans (congrFun ((congrFun eM_27 78).trans (jup_cell (by decide))) v12) (Eq.trans (congrFun (gk 78 (by decide)) v12) (Eq.trans (congrFun (hk 78 (by decide)) v12) (congrFun ((congrFun eM_1 78).trans (jup_cell (by decide))) v12)))) ?_
                              have g_43 := h_rtown v12
                              refine j_imul dX9_way_185 (by omega) ?_
                              refine j_aload_n 0 dX9_way_186 rfl rfl ?_
                              refine j_getr f_X9_20 r_74_6 dX9_way_187 ?_
                              refine j_iload 9 dX9_way_190 rfl ?_
                              refine j_iald a_78 dX9_way_192 (by omega) (by omega) ?_
                              refine j_eq (Eq.trans (congrFun ((congrFun eM_27 78).trans (jup_cell (by decide))) v9) (Eq.trans (congrFun (gk 78 (by decide)) v9) (Eq.trans (congrFun (hk 78 (by decide)) v9) (congrFun ((congrFun eM_1 78).trans (jup_cell (by decide))) v9)))) ?_
                              have g_44 := h_rtown v9
                              refine j_iadd dX9_way_193 (by omega) ?_
                              refine j_iald a_106 dX9_way_194 (by omega) (by omega) ?_
                              refine j_eq (Eq.trans (congrFun ((congrFun eM_27 106).trans (jup_cell (by decide))) ((9 * (M 78 v12)) + (M 78 v9))) (Eq.trans (congrFun (gk 106 (by decide)) ((9 * (M 78 v12)) + (M 78 v9))) (Eq.trans (congrFun (hk 106 (by decide)) ((9 * (M 78 v12)) + (M 78 v9))) (congrFun ((congrFun eM_1 106).trans (jup_cell (by decide))) ((9 * (M 78 v12)) + (M 78 v9)))))) ?_
                              have g_45 := h_rroad ((9 * (M 78 v12)) + (M 78 v9))
                              refine j_iadd dX9_way_195 (by omega) ?_
                              refine j_iconst dX9_way_196 (by decide) ?_
                              refine j_iadd dX9_way_197 (by omega) ?_
                              refine j_callSi l_X9_305 ⟨Nat.le_of_ble_eq_true rfl, Nat.le_of_ble_eq_true rfl⟩ ⟨rfl, rfl⟩ dX9_way_198 (c_X9_least M_27 v11 ((((M_27 108 ((6 * v10_30) + v12)) + (M 106 ((9 * (M 78 v12)) + (M 78 v9)))) + 2))) rfl rfl (Nat.le_of_ble_eq_true rfl) (fun r_46 M_47 h_48 => ?_)
                              obtain ⟨er_46, nh_48⟩ := h_48
                              refine j_eqM nh_48 ?_
                              clear nh_48
                              refine j_istore (ls' := [(0, jR 74), (1, jI H), (2, jI w), (3, jI v3), (4, jI v4), (5, jI v5), (6, jI v6), (7, jI v7), (8, jI v8), (9, jI v9), (10, jI v10_30), (11, jI r_46), (12, jI v12)]) dX9_way_201 (by decide) rfl ?_
                              obtain ⟨v12_49, ev12_49⟩ : ∃ y : Int, y = v12 + 1 := ⟨_, rfl⟩
                              refine j_iinc (y := v12_49) (ls' := [(0, jR 74), (1, jI H), (2, jI w), (3, jI v3), (4, jI v4), (5, jI v5), (6, jI v6), (7, jI v7), (8, jI v8), (9, jI v9), (10, jI v10_30), (11, jI r_46), (12, jI v12_49)]) 12 dX9_way_203 rfl ev12_49 (by omega) (by decide) rfl ?_
                              refine j_goto (tgt := 137) dX9_way_206 (by decide) ?_
                              exact ih137 r_46 v12_49 ⟨by omega, by rw [ev12_49, toNat_s kk1.1]; unfold wAcc; rw [toNat_c kk1.1]; first | (rw [if_neg hbit2]; exact kk2) | (rw [if_pos hbit2]; unfold wMin; right; have hz := tb_pos hr1.1 hbit2; refine ⟨by omega, ?_⟩; rw [er_46]; rcases kk2 with ⟨ha, hv⟩ | ⟨hc, ⟨ha, hv⟩ | ⟨ha, hv⟩⟩; (· omega); (· rw [if_pos ha]; omega); (· rw [if_neg ha]; omega))⟩ (by omega)
                      exact lp137_32 _ 100000 0 ⟨by omega, by have x1 := h_rtown v9; have x3 : wAcc (M 106) (M 78) (fun k => wCost (M 106) (M 78) (M 74 3).toNat (wRest v6 v9) k) (wRest v6 v9) v9 (0 : Int).toNat = -1 := rfl; rw [x3]; omega⟩ (Nat.lt_succ_self _)
                    · skip
                      refine j_aload_n 0 dX9_way_112 rfl rfl ?_
                      refine j_getr f_X9_105 r_74_47 dX9_way_113 ?_
                      refine j_aload_n 0 dX9_way_116 rfl rfl ?_
                      refine j_getr f_X9_20 r_74_6 dX9_way_117 ?_
                      refine j_iload 9 dX9_way_120 rfl ?_
                      refine j_iald a_78 dX9_way_122 (by omega) (by omega) ?_
                      refine j_eq (Eq.trans (congrFun ((congrFun eM_27 78).trans (jup_cell (by decide))) v9) (Eq.trans (congrFun (gk 78 (by decide)) v9) (Eq.trans (congrFun (hk 78 (by decide)) v9) (congrFun ((congrFun eM_1 78).trans (jup_cell (by decide))) v9)))) ?_
                      have g_50 := h_rtown v9
                      refine j_iald a_106 dX9_way_123 (by omega) (by omega) ?_
                      refine j_eq (Eq.trans (congrFun ((congrFun eM_27 106).trans (jup_cell (by decide))) (M 78 v9)) (Eq.trans (congrFun (gk 106 (by decide)) (M 78 v9)) (Eq.trans (congrFun (hk 106 (by decide)) (M 78 v9)) (congrFun ((congrFun eM_1 106).trans (jup_cell (by decide))) (M 78 v9))))) ?_
                      have g_51 := h_rroad (M 78 v9)
                      refine j_iconst dX9_way_124 (by decide) ?_
                      refine j_iadd dX9_way_125 (by omega) ?_
                      refine j_goto (tgt := 132) dX9_way_126 (by decide) ?_
                      refine j_nm (fun v11_52 ev11_52 => ?_)
                      refine j_istore (ls' := [(0, jR 74), (1, jI H), (2, jI w), (3, jI v3), (4, jI v4), (5, jI v5), (6, jI v6), (7, jI v7), (8, jI v8), (9, jI v9), (10, jI v10_30), (11, jI v11_52)]) dX9_way_132 (by decide) rfl ?_
                      refine j_iconst dX9_way_134 (by decide) ?_
                      refine j_istore (ls' := [(0, jR 74), (1, jI H), (2, jI w), (3, jI v3), (4, jI v4), (5, jI v5), (6, jI v6), (7, jI v7), (8, jI v8), (9, jI v9), (10, jI v10_30), (11, jI v11_52), (12, jI 0)]) dX9_way_135 (by decide) rfl ?_
                      have lp137_53 : ∀ n137 : Nat, ∀ (v11 v12 : Int), (0 ≤ v12 ∧ v12 ≤ M 74 3) ∧ ((wRest v6 v9 = 0 ∧ v11 = M 106 (M 78 v9) + 2) ∨ (¬ wRest v6 v9 = 0 ∧ ((wAcc (M 106) (M 78) (fun k => wCost (M 106) (M 78) (M 74 3).toNat (wRest v6 v9) k) (wRest v6 v9) v9 v12.toNat = -1 ∧ v11 = 100000) ∨ (¬ wAcc (M 106) (M 78) (fun k => wCost (M 106) (M 78) (M 74 3).toNat (wRest v6 v9) k) (wRest v6 v9) v9 v12.toNat = -1 ∧ v11 = wAcc (M 106) (M 78) (fun k => wCost (M 106) (M 78) (M 74 3).toNat (wRest v6 v9) k) (wRest v6 v9) v9 v12.toNat)))) → (M 74 3 - v12).toNat < n137 → jG D_X9_way X FJ shJ 0 0 (jqI (q_X9_way M H w)) 137 [(0, jR 74), (1, jI H), (2, jI w), (3, jI v3), (4, jI v4), (5, jI v5), (6, jI v6), (7, jI v7), (8, jI v8), (9, jI v9), (10, jI v10_30), (11, jI v11), (12, jI v12)] ([]) M_27 := by
                        intro n137
                        induction n137 with
                        | zero => intro v11 v12  _ hz; exact absurd hz (Nat.not_lt_zero _)
                        | succ n137 ih137 =>
                          intro v11 v12  hinv hm
                          obtain ⟨kk1, kk2⟩ := hinv
                          have x1 := h_rtown v9
                          have x2 := h_rroad (M 78 v9)
                          have q6 := wAcc_in (tw := M 78) (l := v9) (r := wRest v6 v9) (c := fun k => wCost (M 106) (M 78) (M 74 3).toNat (wRest v6 v9) k) (B := 992) h_rroad (fun k _ _ => wCost_b h_rroad _ _ k) v12.toNat
                          refine j_iload 12 dX9_way_137 rfl ?_
                          refine j_aload_n 0 dX9_way_139 rfl rfl ?_
                          refine j_geti (k' := 3) f_X9_134 o_74_3 dX9_way_140 rfl ?_
                          refine j_eq (Eq.trans (congrFun ((congrFun eM_27 74).trans (jup_cell (by decide))) 3) (Eq.trans (congrFun (gk 74 (by decide)) 3) (Eq.trans (congrFun (hk 74 (by decide)) 3) ((congrFun (congrFun eM_1 74) 3).trans (jup_ne (by decide)))))) ?_
                          refine j_icmp_ge (tgt := 209) dX9_way_143 (by decide) (fun c143_54 => ?_) (fun c143_54 => ?_)
                          · skip
                            have hv : v11 = wCost (M 106) (M 78) (M 74 3).toNat v6 v9 := by rw [hW]; rcases kk2 with ⟨z0, z1⟩ | ⟨z0, z1⟩; (· rw [if_pos z0]; exact z1); (· rw [if_neg z0]; rw [show v12.toNat = (M 74 3).toNat by rw [show v12 = M 74 3 by omega]] at z1; obtain ⟨km, hkm, hkb⟩ := w_member (s := wRest v6 v9) (by omega) (n := (M 74 3).toNat) (by omega); have q2 := wAcc_some (tw := M 78) (l := v9) (r := wRest v6 v9) (c := fun k => wCost (M 106) (M 78) (M 74 3).toNat (wRest v6 v9) k) (B := 992) h_rroad (fun k _ _ => wCost_b h_rroad _ _ k) (M 74 3).toNat km hkm hkb; omega)
                            have hpos := wCost_pos (tw := M 78) h_rroad (n := (M 74 3).toNat) (by omega) (s := v6) (l := v9) (by omega) (by omega) (by omega) hbit
                            have hbb := wCost_b (tw := M 78) h_rroad (M 74 3).toNat v6 v9
                            refine j_aload_n 0 dX9_way_209 rfl rfl ?_
                            refine j_getr f_X9_111 r_74_49 dX9_way_210 ?_
                            refine j_bipush dX9_way_213 (by decide) ?_
                            refine j_iload 6 dX9_way_215 rfl ?_
                            refine j_imul dX9_way_217 (by omega) ?_
                            refine j_iload 9 dX9_way_218 rfl ?_
                            refine j_iadd dX9_way_220 (by omega) ?_
                            refine j_iload 11 dX9_way_221 rfl ?_
                            refine j_iast a_108 dX9_way_223 (by omega) (by omega) ?_
                            refine j_nmM (fun M_55 eM_55 => ?_)
                            refine j_iload 8 dX9_way_224 rfl ?_
                            refine j_iload 11 dX9_way_226 rfl ?_
                            refine j_callSi l_X9_305 ⟨Nat.le_of_ble_eq_true rfl, Nat.le_of_ble_eq_true rfl⟩ ⟨rfl, rfl⟩ dX9_way_228 (c_X9_least M_55 v8 v11) rfl rfl (Nat.le_of_ble_eq_true rfl) (fun r_56 M_57 h_58 => ?_)
                            obtain ⟨er_56, nh_58⟩ := h_58
                            refine j_eqM nh_58 ?_
                            clear nh_58
                            refine j_istore (ls' := [(0, jR 74), (1, jI H), (2, jI w), (3, jI v3), (4, jI v4), (5, jI v5), (6, jI v6), (7, jI v7), (8, jI r_56), (9, jI v9), (10, jI v10_30), (11, jI v11), (12, jI v12)]) dX9_way_231 (by decide) rfl ?_
                            refine j_iload 7 dX9_way_233 rfl ?_
                            refine j_aload_n 0 dX9_way_235 rfl rfl ?_
                            refine j_getr f_X9_23 r_74_7 dX9_way_236 ?_
                            refine j_iload 9 dX9_way_239 rfl ?_
                            refine j_iald a_79 dX9_way_241 (by omega) (by omega) ?_
                            refine j_eq (Eq.trans (congrFun ((congrFun eM_55 79).trans (jup_cell (by decide))) v9) (Eq.trans (congrFun ((congrFun eM_27 79).trans (jup_cell (by decide))) v9) (Eq.trans (congrFun (gk 79 (by decide)) v9) (Eq.trans (congrFun (hk 79 (by decide)) v9) (congrFun ((congrFun eM_1 79).trans (jup_cell (by decide))) v9))))) ?_
                            have g_59 := h_rdoubt v9
                            refine j_iadd dX9_way_242 (by omega) ?_
                            refine j_nm (fun v7_60 ev7_60 => ?_)
                            refine j_istore (ls' := [(0, jR 74), (1, jI H), (2, jI w), (3, jI v3), (4, jI v4), (5, jI v5), (6, jI v6), (7, jI v7_60), (8, jI r_56), (9, jI v9), (10, jI v10_30), (11, jI v11), (12, jI v12)]) dX9_way_243 (by decide) rfl ?_
                            obtain ⟨v9_61, ev9_61⟩ : ∃ y : Int, y = v9 + 1 := ⟨_, rfl⟩
                            refine j_iinc (y := v9_61) (ls' := [(0, jR 74), (1, jI H), (2, jI w), (3, jI v3), (4, jI v4), (5, jI v5), (6, jI v6), (7, jI v7_60), (8, jI r_56), (9, jI v9_61), (10, jI v10_30), (11, jI v11), (12, jI v12)]) 9 dX9_way_245 rfl ev9_61 (by omega) (by decide) rfl ?_
                            refine j_goto (tgt := 60) dX9_way_248 (by decide) ?_
                            refine j_sub (ls' := [(0, jR 74), (1, jI H), (2, jI w), (3, jI v3), (4, jI v4), (5, jI v5), (6, jI v6), (7, jI v7_60), (8, jI r_56), (9, jI v9_61)]) [0, 1, 2, 3, 4, 5, 6, 7, 8, 9] rfl ?_
                            exact ih60 v7_60 r_56 v9_61 M_55 ⟨by omega, by rw [ev9_61, toNat_s g1.1]; first | (rw [wSum_skip (by rw [e8]; exact hbit)]; exact g7) | (rw [wSum_step (by rw [e8]; exact hbit), e8]; omega), by rw [ev9_61, toNat_s g1.1]; first | exact wTake_skip (by rw [e8]; exact hbit) g8 | exact wTake_step (r := v11) (by rw [e8]; exact hbit) (by rw [e8]; exact hv) (by omega) g8 (by omega) (by omega) (by omega), by intro l l0 l1 lb; first | (rw [eM_55, eM_27, jup_at, if_neg (by intro z; have : l = v9 := (by omega); rw [this] at lb; exact hbit lb)]; exact gf l l0 (by have : ¬ l = v9 := (fun z => hbit (z ▸ lb)); omega) lb) | (rw [eM_55, eM_27, jup_at, jup_at]; by_cases hl : l = v9; (· rw [hl, if_pos rfl]; exact hv); (· rw [if_neg (by omega), if_neg (by omega)]; exact gf l l0 (by omega) lb)), by intro s l s0 s1 l0 l1 lb; first | (rw [eM_55, eM_27, jup_at, jup_at, if_neg (by omega), if_neg (by omega)]; exact gf2 s l s0 s1 l0 l1 lb) | (rw [eM_55, eM_27, jup_at, if_neg (by omega)]; exact gf2 s l s0 s1 l0 l1 lb), by intro c hc; first | (rw [eM_55, eM_27, jup_cell hc, jup_cell hc]; exact gk c hc) | (rw [eM_55, eM_27, jup_cell hc]; exact gk c hc)⟩ (by omega)
                          · skip
                            refine j_iload 10 dX9_way_146 rfl ?_
                            refine j_iload 12 dX9_way_148 rfl ?_
                            refine j_ishr dX9_way_150 ?_
                            refine j_iconst dX9_way_151 (by decide) ?_
                            refine j_iand dX9_way_152 ?_
                            refine j_iconst dX9_way_153 (by decide) ?_
                            refine j_icmp_ne (tgt := 203) dX9_way_154 (by decide) (fun c154_62 => ?_) (fun c154_62 => ?_)
                            · skip
                              have hbit2 := bit_no (x := v10_30) (k := v12) (by omega) (by omega) c154_62
                              rw [ev10_30] at hbit2
                              obtain ⟨v12_63, ev12_63⟩ : ∃ y : Int, y = v12 + 1 := ⟨_, rfl⟩
                              refine j_iinc (y := v12_63) (ls' := [(0, jR 74), (1, jI H), (2, jI w), (3, jI v3), (4, jI v4), (5, jI v5), (6, jI v6), (7, jI v7), (8, jI v8), (9, jI v9), (10, jI v10_30), (11, jI v11), (12, jI v12_63)]) 12 dX9_way_203 rfl ev12_63 (by omega) (by decide) rfl ?_
                              refine j_goto (tgt := 137) dX9_way_206 (by decide) ?_
                              exact ih137 v11 v12_63 ⟨by omega, by rw [ev12_63, toNat_s kk1.1]; unfold wAcc; rw [toNat_c kk1.1]; first | (rw [if_neg hbit2]; exact kk2) | (rw [if_pos hbit2]; unfold wMin; right; have hz := tb_pos hr1.1 hbit2; refine ⟨by omega, ?_⟩; rw [ev11]; rcases kk2 with ⟨ha, hv⟩ | ⟨hc, ⟨ha, hv⟩ | ⟨ha, hv⟩⟩; (· omega); (· rw [if_pos ha]; omega); (· rw [if_neg ha]; omega))⟩ (by omega)
                            · skip
                              have hbit2 := bit_yes (x := v10_30) (k := v12) (by omega) (by omega) c154_62
                              rw [ev10_30] at hbit2
                              have hx : M_27 108 (6 * v10_30 + v12) = wCost (M 106) (M 78) (M 74 3).toNat (wRest v6 v9) v12 := by rw [eM_27, jup_at, if_neg (by omega), ev10_30]; exact gf2 _ _ (tb_pos hr1.1 hbit2) hr2 kk1.1 (by omega) hbit2
                              have hy := wCost_b (tw := M 78) h_rroad (M 74 3).toNat (wRest v6 v9) v12
                              refine j_iload 11 dX9_way_157 rfl ?_
                              refine j_aload_n 0 dX9_way_159 rfl rfl ?_
                              refine j_getr f_X9_111 r_74_49 dX9_way_160 ?_
                              refine j_bipush dX9_way_163 (by decide) ?_
                              refine j_iload 10 dX9_way_165 rfl ?_
                              refine j_imul dX9_way_167 (by omega) ?_
                              refine j_iload 12 dX9_way_168 rfl ?_
                              refine j_iadd dX9_way_170 (by omega) ?_
                              refine j_iald a_108 dX9_way_171 (by omega) (by omega) ?_
                              refine j_aload_n 0 dX9_way_172 rfl rfl ?_
                              refine j_getr f_X9_105 r_74_47 dX9_way_173 ?_
                              refine j_bipush dX9_way_176 (by decide) ?_
                              refine j_aload_n 0 dX9_way_178 rfl rfl ?_
                              refine j_getr f_X9_20 r_74_6 dX9_way_179 ?_
                              refine j_iload 12 dX9_way_182 rfl ?_
                              refine j_iald a_78 dX9_way_184 (by omega) (by omega) ?_
                              refine j_eq (Eq.trans (congrFun ((congrFun eM_27 78).trans (jup_cell (by decide))) v12) (Eq.trans (congrFun (gk 78 (by decide)) v12) (Eq.trans (congrFun (hk 78 (by decide)) v12) (congrFun ((congrFun eM_1 78).trans (jup_cell (by decide))) v12)))) ?_
                              have g_64 := h_rtown v12
                              refine j_imul dX9_way_185 (by omega) ?_
                              refine j_aload_n 0 dX9_way_186 rfl rfl ?_
                              refine j_getr f_X9_20 r_74_6 dX9_way_187 ?_
                              refine j_iload 9 dX9_way_190 rfl ?_
                              refine j_iald a_78 dX9_way_192 (by omega) (by omega) ?_
                              refine j_eq (Eq.trans (congrFun ((congrFun eM_27 78).trans (jup_cell (by decide))) v9) (Eq.trans (congrFun (gk 78 (by decide)) v9) (Eq.trans (congrFun (hk 78 (by decide)) v9) (congrFun ((congrFun eM_1 78).trans (jup_cell (by decide))) v9)))) ?_
                              have g_65 := h_rtown v9
                              refine j_iadd dX9_way_193 (by omega) ?_
                              refine j_iald a_106 dX9_way_194 (by omega) (by omega) ?_
                              refine j_eq (Eq.trans (congrFun ((congrFun eM_27 106).trans (jup_cell (by decide))) ((9 * (M 78 v12)) + (M 78 v9))) (Eq.trans (congrFun (gk 106 (by decide)) ((9 * (M 78 v12)) + (M 78 v9))) (Eq.trans (congrFun (hk 106 (by decide)) ((9 * (M 78 v12)) + (M 78 v9))) (congrFun ((congrFun eM_1 106).trans (jup_cell (by decide))) ((9 * (M 78 v12)) + (M 78 v9)))))) ?_
                              have g_66 := h_rroad ((9 * (M 78 v12)) + (M 78 v9))
                              refine j_iadd dX9_way_195 (by omega) ?_
                              refine j_iconst dX9_way_196 (by decide) ?_
                              refine j_iadd dX9_way_197 (by omega) ?_
                              refine j_callSi l_X9_305 ⟨Nat.le_of_ble_eq_true rfl, Nat.le_of_ble_eq_true rfl⟩ ⟨rfl, rfl⟩ dX9_way_198 (c_X9_least M_27 v11 ((((M_27 108 ((6 * v10_30) + v12)) + (M 106 ((9 * (M 78 v12)) + (M 78 v9)))) + 2))) rfl rfl (Nat.le_of_ble_eq_true rfl) (fun r_67 M_68 h_69 => ?_)
                              obtain ⟨er_67, nh_69⟩ := h_69
                              refine j_eqM nh_69 ?_
                              clear nh_69
                              refine j_istore (ls' := [(0, jR 74), (1, jI H), (2, jI w), (3, jI v3), (4, jI v4), (5, jI v5), (6, jI v6), (7, jI v7), (8, jI v8), (9, jI v9), (10, jI v10_30), (11, jI r_67), (12, jI v12)]) dX9_way_201 (by decide) rfl ?_
                              obtain ⟨v12_70, ev12_70⟩ : ∃ y : Int, y = v12 + 1 := ⟨_, rfl⟩
                              refine j_iinc (y := v12_70) (ls' := [(0, jR 74), (1, jI H), (2, jI w), (3, jI v3), (4, jI v4), (5, jI v5), (6, jI v6), (7, jI v7), (8, jI v8), (9, jI v9), (10, jI v10_30), (11, jI r_67), (12, jI v12_70)]) 12 dX9_way_203 rfl ev12_70 (by omega) (by decide) rfl ?_
                              refine j_goto (tgt := 137) dX9_way_206 (by decide) ?_
                              exact ih137 r_67 v12_70 ⟨by omega, by rw [ev12_70, toNat_s kk1.1]; unfold wAcc; rw [toNat_c kk1.1]; first | (rw [if_neg hbit2]; exact kk2) | (rw [if_pos hbit2]; unfold wMin; right; have hz := tb_pos hr1.1 hbit2; refine ⟨by omega, ?_⟩; rw [er_67]; rcases kk2 with ⟨ha, hv⟩ | ⟨hc, ⟨ha, hv⟩ | ⟨ha, hv⟩⟩; (· omega); (· rw [if_pos ha]; omega); (· rw [if_neg ha]; omega))⟩ (by omega)
                      exact lp137_53 _ v11_52 0 ⟨by omega, by have x1 := h_rtown v9; have x3 : wAcc (M 106) (M 78) (fun k => wCost (M 106) (M 78) (M 74 3).toNat (wRest v6 v9) k) (wRest v6 v9) v9 (0 : Int).toNat = -1 := rfl; rw [x3]; omega⟩ (Nat.lt_succ_self _)
            exact lp60_16 _ 0 100000 0 N38 ⟨by omega, by rfl, by left; exact ⟨rfl, rfl⟩, by intro l l0 l1; omega, by exact hf, by intro c _; rfl⟩ (Nat.lt_succ_self _)
      exact lp38_10 _ 0 0 0 1 M_1 ⟨by omega, by rfl, by rfl, by rfl, by intro s l s0 s1; omega, by intro c z1; rfl⟩ (Nat.lt_succ_self _)
    · skip
      refine j_iconst dX9_way_25 (by decide) ?_
      refine j_iret rfl rfl rfl rfl dX9_way_26 ?_
      exact ⟨by rw [if_neg (by omega)], fun c _ => by rw [eM_1]⟩
