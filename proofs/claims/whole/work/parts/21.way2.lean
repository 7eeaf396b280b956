abbrev q_X6_fewestTo (M : jM)  (s l : Int) : Int → jM → Prop := fun r N => r = wCost (M 45) (M 4) (M 1 0).toNat s l ∧ N = M
set_option maxHeartbeats 4000000 in
set_option maxRecDepth 20000 in
theorem c_X6_fewestTo {X : jX} (M : jM)  (s l : Int) (h_cmills : 0 ≤ M 1 0 ∧ M 1 0 ≤ 6) (h_ctown : ∀ i, 0 ≤ M 4 i ∧ M 4 i ≤ 8) (h_chours : ∀ i, 0 ≤ M 45 i ∧ M 45 i ≤ 30) (hs : 0 < s ∧ s < 64) (hl : 0 ≤ l ∧ l < M 1 0) (hb : tb s l = true) (hd : ∀ k, 0 ≤ k → k < M 1 0 → tb (wRest s l) k = true → M 46 (wRest s l * 6 + k) = wCost (M 45) (M 4) (M 1 0).toNat (wRest s l) k) (h2n : s < 2 ^ (M 1 0).toNat) : jC yX6_fewestTo D_X6_fewestTo X FJ shJ [jR 44, jR 1, jI s, jI l] M (jqI (q_X6_fewestTo M s l)) := by
  refine jC_of (by decide) rfl (fun ad => Nat.le_of_ble_eq_true rfl) (by decide) ?_
  show jG D_X6_fewestTo X FJ shJ 0 0 (jqI (q_X6_fewestTo M s l)) 0 [(0, jR 44), (1, jR 1), (2, jI s), (3, jI l)] [] M
  have hjn : jn s := ⟨by omega, by omega⟩
  have hr1 : 0 ≤ wRest s l ∧ wRest s l < 2147483648 := (wRest_in hjn (l := l) (by omega)).1
  have hr2 := wRest_lt hjn (l := l) (by omega) hb
  have hW := wCost_eq (M 45) (M 4) (M 1 0).toNat hjn (l := l) (by omega) hb
  refine j_iload_n 2 dX6_fewestTo_0 rfl rfl ?_
  refine j_iconst dX6_fewestTo_1 (by decide) ?_
  refine j_iload_n 3 dX6_fewestTo_2 rfl rfl ?_
  refine j_ishl dX6_fewestTo_3 ?_
  refine j_iconst dX6_fewestTo_4 (by decide) ?_
  refine j_ixor dX6_fewestTo_5 ?_
  refine j_iand dX6_fewestTo_6 ?_
  refine j_nm (fun v4_1 ev4_1 => ?_)
  refine j_istore (ls' := [(0, jR 44), (1, jR 1), (2, jI s), (3, jI l), (4, jI v4_1)]) dX6_fewestTo_7 (by decide) rfl ?_
  change v4_1 = wRest s l at ev4_1
  refine j_iload 4 dX6_fewestTo_9 rfl ?_
  refine j_if_ne (tgt := 28) dX6_fewestTo_11 (by decide) (fun c11_2 => ?_) (fun c11_2 => ?_)
  · skip
    refine j_ldc (n := 1000000) dX6_fewestTo_28 c_X6_31 (by decide) ?_
    refine j_istore (ls' := [(0, jR 44), (1, jR 1), (2, jI s), (3, jI l), (4, jI v4_1), (5, jI 1000000)]) dX6_fewestTo_30 (by decide) rfl ?_
    refine j_iconst dX6_fewestTo_32 (by decide) ?_
    refine j_istore (ls' := [(0, jR 44), (1, jR 1), (2, jI s), (3, jI l), (4, jI v4_1), (5, jI 1000000), (6, jI 0)]) dX6_fewestTo_33 (by decide) rfl ?_
    have lp35_3 : ∀ n35 : Nat, ∀ (v5 v6 : Int), (0 ≤ v6 ∧ v6 ≤ M 1 0) ∧ ((wAcc (M 45) (M 4) (fun k => wCost (M 45) (M 4) (M 1 0).toNat (wRest s l) k) (wRest s l) l v6.toNat = -1 ∧ v5 = 1000000) ∨ (¬ wAcc (M 45) (M 4) (fun k => wCost (M 45) (M 4) (M 1 0).toNat (wRest s l) k) (wRest s l) l v6.toNat = -1 ∧ v5 = wAcc (M 45) (M 4) (fun k => wCost (M 45) (M 4) (M 1 0).toNat (wRest s l) k) (wRest s l) l v6.toNat)) → (M 1 0 - v6).toNat < n35 → jG D_X6_fewestTo X FJ shJ 0 0 (jqI (q_X6_fewestTo M s l)) 35 [(0, jR 44), (1, jR 1), (2, jI s), (3, jI l), (4, jI v4_1), (5, jI v5), (6, jI v6)] ([]) M := by
      intro n35
      induction n35 with
      | zero => intro v5 v6  _ hz; exact absurd hz (Nat.not_lt_zero _)
      | succ n35 ih35 =>
        intro v5 v6  hinv hm
        obtain ⟨h1, h5⟩ := hinv
        have q5 := wAcc_in (tw := M 4) (l := l) (r := wRest s l) (c := fun k => wCost (M 45) (M 4) (M 1 0).toNat (wRest s l) k) (B := 992) h_chours (fun k _ _ => wCost_b h_chours _ _ k) v6.toNat
        refine j_iload 6 dX6_fewestTo_35 rfl ?_
        refine j_aload_n 1 dX6_fewestTo_37 rfl rfl ?_
        refine j_geti (k' := 0) f_X6_28 o_1_0 dX6_fewestTo_38 rfl ?_
        refine j_icmp_ge (tgt := 110) dX6_fewestTo_41 (by decide) (fun c41_4 => ?_) (fun c41_4 => ?_)
        · skip
          refine j_iload 5 dX6_fewestTo_110 rfl ?_
          refine j_iret rfl rfl rfl rfl dX6_fewestTo_112 ?_
          have e6 : v6 = M 1 0 := by omega
          rw [e6] at h5 q5
          obtain ⟨k, hk, hkb⟩ := w_member (s := wRest s l) (by omega) (n := (M 1 0).toNat) (by omega)
          have q2 := wAcc_some (tw := M 4) (l := l) (r := wRest s l) (c := fun k => wCost (M 45) (M 4) (M 1 0).toNat (wRest s l) k) (B := 992) h_chours (fun k _ _ => wCost_b h_chours _ _ k) (M 1 0).toNat k hk hkb
          exact ⟨by rw [hW, if_neg (by omega)]; omega, rfl⟩
        · skip
          refine j_iload 4 dX6_fewestTo_44 rfl ?_
          refine j_iload 6 dX6_fewestTo_46 rfl ?_
          refine j_ishr dX6_fewestTo_48 ?_
          refine j_iconst dX6_fewestTo_49 (by decide) ?_
          refine j_iand dX6_fewestTo_50 ?_
          refine j_iconst dX6_fewestTo_51 (by decide) ?_
          refine j_icmp_ne (tgt := 104) dX6_fewestTo_52 (by decide) (fun c52_5 => ?_) (fun c52_5 => ?_)
          · skip
            have hbit := bit_no (x := v4_1) (k := v6) (by omega) (by omega) c52_5
            rw [ev4_1] at hbit
            obtain ⟨v6_6, ev6_6⟩ : ∃ y : Int, y = v6 + 1 := ⟨_, rfl⟩
            refine j_iinc (y := v6_6) (ls' := [(0, jR 44), (1, jR 1), (2, jI s), (3, jI l), (4, jI v4_1), (5, jI v5), (6, jI v6_6)]) 6 dX6_fewestTo_104 rfl ev6_6 (by omega) (by decide) rfl ?_
            refine j_goto (tgt := 35) dX6_fewestTo_107 (by decide) ?_
            exact ih35 v5 v6_6 ⟨by omega, by rw [ev6_6, toNat_s h1.1]; unfold wAcc; rw [toNat_c h1.1]; first | (rw [if_neg hbit]; exact h5) | (rw [if_pos hbit]; unfold wMin; rw [Int.mul_comm 9 (M 4 v6)]; rw [ev5]; rcases h5 with ⟨ha, hv⟩ | ⟨ha, hv⟩; (· rw [if_pos ha]; omega); (· rw [if_neg ha]; omega))⟩ (by omega)
          · skip
            have hbit := bit_yes (x := v4_1) (k := v6) (by omega) (by omega) c52_5
            rw [ev4_1] at hbit
            refine j_aload_n 0 dX6_fewestTo_55 rfl rfl ?_
            refine j_getr f_X6_9 r_44_3 dX6_fewestTo_56 ?_
            refine j_aload_n 1 dX6_fewestTo_59 rfl rfl ?_
            refine j_getr f_X6_45 r_1_3 dX6_fewestTo_60 ?_
            refine j_iload 6 dX6_fewestTo_63 rfl ?_
            refine j_iald a_4 dX6_fewestTo_65 (by omega) (by omega) ?_
            have g_7 := h_ctown v6
            refine j_bipush dX6_fewestTo_66 (by decide) ?_
            refine j_imul dX6_fewestTo_68 (by omega) ?_
            refine j_aload_n 1 dX6_fewestTo_69 rfl rfl ?_
            refine j_getr f_X6_45 r_1_3 dX6_fewestTo_70 ?_
            refine j_iload_n 3 dX6_fewestTo_73 rfl rfl ?_
            refine j_iald a_4 dX6_fewestTo_74 (by omega) (by omega) ?_
            have g_8 := h_ctown l
            refine j_iadd dX6_fewestTo_75 (by omega) ?_
            refine j_iald a_45 dX6_fewestTo_76 (by omega) (by omega) ?_
            have g_9 := h_chours (((M 4 v6) * 9) + (M 4 l))
            refine j_nm (fun v7_10 ev7_10 => ?_)
            refine j_istore (ls' := [(0, jR 44), (1, jR 1), (2, jI s), (3, jI l), (4, jI v4_1), (5, jI v5), (6, jI v6), (7, jI v7_10)]) dX6_fewestTo_77 (by decide) rfl ?_
            have hx := hd v6 h1.1 (by omega) hbit
            have hy := wCost_b (tw := M 4) h_chours (M 1 0).toNat (wRest s l) v6
            rw [← ev4_1] at hx
            refine j_iload 5 dX6_fewestTo_79 rfl ?_
            refine j_aload_n 0 dX6_fewestTo_81 rfl rfl ?_
            refine j_getr f_X6_15 r_44_4 dX6_fewestTo_82 ?_
            refine j_iload 4 dX6_fewestTo_85 rfl ?_
            refine j_bipush dX6_fewestTo_87 (by decide) ?_
            refine j_imul dX6_fewestTo_89 (by omega) ?_
            refine j_iload 6 dX6_fewestTo_90 rfl ?_
            refine j_iadd dX6_fewestTo_92 (by omega) ?_
            refine j_iald a_46 dX6_fewestTo_93 (by omega) (by omega) ?_
            refine j_iload 7 dX6_fewestTo_94 rfl ?_
            refine j_iadd dX6_fewestTo_96 (by omega) ?_
            refine j_iconst dX6_fewestTo_97 (by decide) ?_
            refine j_iadd dX6_fewestTo_98 (by omega) ?_
            refine j_mmin lm_X6_39 lm_min ⟨Nat.le_of_ble_eq_true rfl, Nat.le_of_ble_eq_true rfl⟩ ⟨Nat.le_of_ble_eq_true rfl, Nat.le_of_ble_eq_true rfl⟩ dX6_fewestTo_99 ?_
            refine j_nm (fun v5_11 ev5_11 => ?_)
            refine j_istore (ls' := [(0, jR 44), (1, jR 1), (2, jI s), (3, jI l), (4, jI v4_1), (5, jI v5_11), (6, jI v6), (7, jI v7_10)]) dX6_fewestTo_102 (by decide) rfl ?_
            obtain ⟨v6_12, ev6_12⟩ : ∃ y : Int, y = v6 + 1 := ⟨_, rfl⟩
            refine j_iinc (y := v6_12) (ls' := [(0, jR 44), (1, jR 1), (2, jI s), (3, jI l), (4, jI v4_1), (5, jI v5_11), (6, jI v6_12), (7, jI v7_10)]) 6 dX6_fewestTo_104 rfl ev6_12 (by omega) (by decide) rfl ?_
            refine j_goto (tgt := 35) dX6_fewestTo_107 (by decide) ?_
            refine j_sub (ls' := [(0, jR 44), (1, jR 1), (2, jI s), (3, jI l), (4, jI v4_1), (5, jI v5_11), (6, jI v6_12)]) [0, 1, 2, 3, 4, 5, 6] rfl ?_
            exact ih35 v5_11 v6_12 ⟨by omega, by rw [ev6_12, toNat_s h1.1]; unfold wAcc; rw [toNat_c h1.1]; first | (rw [if_neg hbit]; exact h5) | (rw [if_pos hbit]; unfold wMin; rw [Int.mul_comm 9 (M 4 v6)]; rw [ev5_11]; rcases h5 with ⟨ha, hv⟩ | ⟨ha, hv⟩; (· rw [if_pos ha]; omega); (· rw [if_neg ha]; omega))⟩ (by omega)
    exact lp35_3 _ 1000000 0 ⟨by omega, by left; exact ⟨rfl, rfl⟩⟩ (Nat.lt_succ_self _)
  · skip
    refine j_aload_n 0 dX6_fewestTo_14 rfl rfl ?_
    refine j_getr f_X6_9 r_44_3 dX6_fewestTo_15 ?_
    refine j_aload_n 1 dX6_fewestTo_18 rfl rfl ?_
    refine j_getr f_X6_45 r_1_3 dX6_fewestTo_19 ?_
    refine j_iload_n 3 dX6_fewestTo_22 rfl rfl ?_
    refine j_iald a_4 dX6_fewestTo_23 (by omega) (by omega) ?_
    have g_13 := h_ctown l
    refine j_iald a_45 dX6_fewestTo_24 (by omega) (by omega) ?_
    have g_14 := h_chours (M 4 l)
    refine j_iconst dX6_fewestTo_25 (by decide) ?_
    refine j_iadd dX6_fewestTo_26 (by omega) ?_
    refine j_iret rfl rfl rfl rfl dX6_fewestTo_27 ?_
    exact ⟨by rw [hW, if_pos (by omega)], rfl⟩
abbrev q_X6_seek (M : jM)  (H : Int) : jM → Prop := fun N => N 44 0 = (wBst (M 45) (M 4) (M 5) (M 1 0).toNat H (2 ^ (M 1 0).toNat - 1 : Nat)).2.1 ∧ N 44 1 = (wBst (M 45) (M 4) (M 5) (M 1 0).toNat H (2 ^ (M 1 0).toNat - 1 : Nat)).1 ∧ N 44 2 = (wBst (M 45) (M 4) (M 5) (M 1 0).toNat H (2 ^ (M 1 0).toNat - 1 : Nat)).2.2 ∧ (∀ c, c ≠ 44 → c ≠ 46 → N c = M c)
set_option maxHeartbeats 4000000 in
set_option maxRecDepth 20000 in
theorem c_X6_seek {X : jX} (M : jM)  (H : Int) (h_cmills : 0 ≤ M 1 0 ∧ M 1 0 ≤ 6) (h_ctown : ∀ i, 0 ≤ M 4 i ∧ M 4 i ≤ 8) (h_chours : ∀ i, 0 ≤ M 45 i ∧ M 45 i ≤ 30) (h_cdoubt : ∀ i, 0 ≤ M 5 i ∧ M 5 i ≤ 99) : jC yX6_seek D_X6_seek X FJ shJ [jR 44, jR 1, jI H] M (jqV (q_X6_seek M H)) := by
  refine jC_of (by decide) rfl (fun ad => Nat.le_of_ble_eq_true rfl) (by decide) ?_
  show jG D_X6_seek X FJ shJ 0 0 (jqV (q_X6_seek M H)) 0 [(0, jR 44), (1, jR 1), (2, jI H)] [] M
  have hp2 := p2n h_cmills
  refine j_aload_n 0 dX6_seek_0 rfl rfl ?_
  refine j_iconst dX6_seek_1 (by decide) ?_
  refine j_puti (k' := 0) f_X6_18 o_44_0 dX6_seek_2 rfl ?_
  refine j_nmM (fun M_1 eM_1 => ?_)
  refine j_aload_n 0 dX6_seek_5 rfl rfl ?_
  refine j_iconst dX6_seek_6 (by decide) ?_
  refine j_puti (k' := 1) f_X6_22 o_44_1 dX6_seek_7 rfl ?_
  refine j_nmM (fun M_2 eM_2 => ?_)
  refine j_aload_n 0 dX6_seek_10 rfl rfl ?_
  refine j_iconst dX6_seek_11 (by decide) ?_
  refine j_puti (k' := 2) f_X6_25 o_44_2 dX6_seek_12 rfl ?_
  refine j_nmM (fun M_3 eM_3 => ?_)
  refine j_iconst dX6_seek_15 (by decide) ?_
  refine j_istore_n (ls' := [(0, jR 44), (1, jR 1), (2, jI H), (3, jI 1)]) dX6_seek_16 rfl (by decide) rfl ?_
  have lp17_4 : ∀ n17 : Nat, ∀ (v3 : Int), ∀ N17 : jM, (1 ≤ v3 ∧ v3 ≤ 2 ^ (M 1 0).toNat) ∧ (N17 44 0 = (wBst (M 45) (M 4) (M 5) (M 1 0).toNat H (v3 - 1).toNat).2.1) ∧ (N17 44 1 = (wBst (M 45) (M 4) (M 5) (M 1 0).toNat H (v3 - 1).toNat).1) ∧ (N17 44 2 = (wBst (M 45) (M 4) (M 5) (M 1 0).toNat H (v3 - 1).toNat).2.2) ∧ (∀ s l, 0 < s → s < v3 → 0 ≤ l → l < M 1 0 → tb s l = true → N17 46 (s * 6 + l) = wCost (M 45) (M 4) (M 1 0).toNat s l) ∧ (∀ c, c ≠ 44 → c ≠ 46 → N17 c = M c) → (2 ^ (M 1 0).toNat - v3).toNat < n17 → jG D_X6_seek X FJ shJ 0 0 (jqV (q_X6_seek M H)) 17 [(0, jR 44), (1, jR 1), (2, jI H), (3, jI v3)] ([]) N17 := by
    intro n17
    induction n17 with
    | zero => intro v3 N17 _ hz; exact absurd hz (Nat.not_lt_zero _)
    | succ n17 ih17 =>
      intro v3 N17 hinv hm
      obtain ⟨h1, b0, b1, b2, hf, hk⟩ := hinv
      have hjn : 0 ≤ v3 ∧ v3 < 2147483648 := by omega
      refine j_iload_n 3 dX6_seek_17 rfl rfl ?_
      refine j_iconst dX6_seek_18 (by decide) ?_
      refine j_aload_n 1 dX6_seek_19 rfl rfl ?_
      refine j_geti (k' := 0) f_X6_28 o_1_0 dX6_seek_20 rfl ?_
      refine j_eq (congrFun (hk 1 (by decide) (by decide)) 0) ?_
      refine j_ishl dX6_seek_23 ?_
      refine j_icmp_ge (tgt := 163) dX6_seek_24 (by decide) (fun c24_5 => ?_) (fun c24_5 => ?_)
      · skip
        refine j_vret rfl rfl rfl rfl dX6_seek_163 ?_
        sorry
      · skip
        refine j_iconst dX6_seek_27 (by decide) ?_
        refine j_istore (ls' := [(0, jR 44), (1, jR 1), (2, jI H), (3, jI v3), (4, jI 0)]) dX6_seek_28 (by decide) rfl ?_
        refine j_ldc (n := 1000000) dX6_seek_30 c_X6_31 (by decide) ?_
        refine j_istore (ls' := [(0, jR 44), (1, jR 1), (2, jI H), (3, jI v3), (4, jI 0), (5, jI 1000000)]) dX6_seek_32 (by decide) rfl ?_
        refine j_iconst dX6_seek_34 (by decide) ?_
        refine j_istore (ls' := [(0, jR 44), (1, jR 1), (2, jI H), (3, jI v3), (4, jI 0), (5, jI 1000000), (6, jI 0)]) dX6_seek_35 (by decide) rfl ?_
        have lp37_6 : ∀ n37 : Nat, ∀ (v4 v5 v6 : Int), ∀ N37 : jM, (0 ≤ v6 ∧ v6 ≤ M 1 0) ∧ (v4 = wSum (M 5) v3 v6.toNat) ∧ ((wTake (fun l => wCost (M 45) (M 4) (M 1 0).toNat v3 l) v3 v6.toNat = -1 ∧ v5 = 1000000) ∨ (¬ wTake (fun l => wCost (M 45) (M 4) (M 1 0).toNat v3 l) v3 v6.toNat = -1 ∧ v5 = wTake (fun l => wCost (M 45) (M 4) (M 1 0).toNat v3 l) v3 v6.toNat)) ∧ (∀ l, 0 ≤ l → l < v6 → tb v3 l = true → N37 46 (v3 * 6 + l) = wCost (M 45) (M 4) (M 1 0).toNat v3 l) ∧ (∀ s l, 0 < s → s < v3 → 0 ≤ l → l < M 1 0 → tb s l = true → N37 46 (s * 6 + l) = wCost (M 45) (M 4) (M 1 0).toNat s l) ∧ (∀ c, c ≠ 46 → N37 c = N17 c) → (M 1 0 - v6).toNat < n37 → jG D_X6_seek X FJ shJ 0 0 (jqV (q_X6_seek M H)) 37 [(0, jR 44), (1, jR 1), (2, jI H), (3, jI v3), (4, jI v4), (5, jI v5), (6, jI v6)] ([]) N37 := by
          intro n37
          induction n37 with
          | zero => intro v4 v5 v6 N37 _ hz; exact absurd hz (Nat.not_lt_zero _)
          | succ n37 ih37 =>
            intro v4 v5 v6 N37 hinv hm
            obtain ⟨g1, g4, g5, gf, gf2, gk⟩ := hinv
            refine j_iload 6 dX6_seek_37 rfl ?_
            refine j_aload_n 1 dX6_seek_39 rfl rfl ?_
            refine j_geti (k' := 0) f_X6_28 o_1_0 dX6_seek_40 rfl ?_
            refine j_eq (Eq.trans (congrFun (gk 1 (by decide)) 0) (congrFun (hk 1 (by decide) (by decide)) 0)) ?_
            refine j_icmp_ge (tgt := 107) dX6_seek_43 (by decide) (fun c43_7 => ?_) (fun c43_7 => ?_)
            · skip
              refine j_iload 5 dX6_seek_107 rfl ?_
              refine j_iload_n 2 dX6_seek_109 rfl rfl ?_
              refine j_icmp_gt (tgt := 157) dX6_seek_110 (by decide) (fun c110_8 => ?_) (fun c110_8 => ?_)
              · skip
                obtain ⟨v3_9, ev3_9⟩ : ∃ y : Int, y = v3 + 1 := ⟨_, rfl⟩
                refine j_iinc (y := v3_9) (ls' := [(0, jR 44), (1, jR 1), (2, jI H), (3, jI v3_9), (4, jI v4), (5, jI v5), (6, jI v6)]) 3 dX6_seek_157 rfl ev3_9 (by omega) (by decide) rfl ?_
                refine j_goto (tgt := 17) dX6_seek_160 (by decide) ?_
                refine j_sub (ls' := [(0, jR 44), (1, jR 1), (2, jI H), (3, jI v3_9)]) [0, 1, 2, 3] rfl ?_
                exact ih17 v3_9 N37 ⟨by sorry, by sorry, by sorry, by sorry, by sorry, by sorry⟩ (by omega)
              · skip
                refine j_iload 4 dX6_seek_113 rfl ?_
                refine j_aload_n 0 dX6_seek_115 rfl rfl ?_
                refine j_geti (k' := 0) f_X6_18 o_44_0 dX6_seek_116 rfl ?_
                refine j_eq (congrFun (gk 44 (by decide)) 0) ?_
                refine j_icmp_gt (tgt := 140) dX6_seek_119 (by decide) (fun c119_10 => ?_) (fun c119_10 => ?_)
                · skip
                  refine j_aload_n 0 dX6_seek_140 rfl rfl ?_
                  refine j_iload 4 dX6_seek_141 rfl ?_
                  refine j_puti (k' := 0) f_X6_18 o_44_0 dX6_seek_143 rfl ?_
                  refine j_nmM (fun M_11 eM_11 => ?_)
                  refine j_aload_n 0 dX6_seek_146 rfl rfl ?_
                  refine j_iload_n 3 dX6_seek_147 rfl rfl ?_
                  refine j_puti (k' := 1) f_X6_22 o_44_1 dX6_seek_148 rfl ?_
                  refine j_nmM (fun M_12 eM_12 => ?_)
                  refine j_aload_n 0 dX6_seek_151 rfl rfl ?_
                  refine j_iload 5 dX6_seek_152 rfl ?_
                  refine j_puti (k' := 2) f_X6_25 o_44_2 dX6_seek_154 rfl ?_
                  refine j_nmM (fun M_13 eM_13 => ?_)
                  obtain ⟨v3_14, ev3_14⟩ : ∃ y : Int, y = v3 + 1 := ⟨_, rfl⟩
                  refine j_iinc (y := v3_14) (ls' := [(0, jR 44), (1, jR 1), (2, jI H), (3, jI v3_14), (4, jI v4), (5, jI v5), (6, jI v6)]) 3 dX6_seek_157 rfl ev3_14 (by omega) (by decide) rfl ?_
                  refine j_goto (tgt := 17) dX6_seek_160 (by decide) ?_
                  refine j_sub (ls' := [(0, jR 44), (1, jR 1), (2, jI H), (3, jI v3_14)]) [0, 1, 2, 3] rfl ?_
                  exact ih17 v3_14 M_13 ⟨by sorry, by sorry, by sorry, by sorry, by sorry, by sorry⟩ (by omega)
                · skip
                  refine j_iload 4 dX6_seek_122 rfl ?_
                  refine j_aload_n 0 dX6_seek_124 rfl rfl ?_
                  refine j_geti (k' := 0) f_X6_18 o_44_0 dX6_seek_125 rfl ?_
                  refine j_eq (congrFun (gk 44 (by decide)) 0) ?_
                  refine j_icmp_ne (tgt := 157) dX6_seek_128 (by decide) (fun c128_15 => ?_) (fun c128_15 => ?_)
                  · skip
                    obtain ⟨v3_16, ev3_16⟩ : ∃ y : Int, y = v3 + 1 := ⟨_, rfl⟩
                    refine j_iinc (y := v3_16) (ls' := [(0, jR 44), (1, jR 1), (2, jI H), (3, jI v3_16), (4, jI v4), (5, jI v5), (6, jI v6)]) 3 dX6_seek_157 rfl ev3_16 (by omega) (by decide) rfl ?_
                    refine j_goto (tgt := 17) dX6_seek_160 (by decide) ?_
                    refine j_sub (ls' := [(0, jR 44), (1, jR 1), (2, jI H), (3, jI v3_16)]) [0, 1, 2, 3] rfl ?_
                    exact ih17 v3_16 N37 ⟨by sorry, by sorry, by sorry, by sorry, by sorry, by sorry⟩ (by omega)
                  · skip
                    refine j_iload 5 dX6_seek_131 rfl ?_
                    refine j_aload_n 0 dX6_seek_133 rfl rfl ?_
                    refine j_geti (k' := 2) f_X6_25 o_44_2 dX6_seek_134 rfl ?_
                    refine j_eq (congrFun (gk 44 (by decide)) 2) ?_
                    refine j_icmp_ge (tgt := 157) dX6_seek_137 (by decide) (fun c137_17 => ?_) (fun c137_17 => ?_)
                    · skip
                      obtain ⟨v3_18, ev3_18⟩ : ∃ y : Int, y = v3 + 1 := ⟨_, rfl⟩
                      refine j_iinc (y := v3_18) (ls' := [(0, jR 44), (1, jR 1), (2, jI H), (3, jI v3_18), (4, jI v4), (5, jI v5), (6, jI v6)]) 3 dX6_seek_157 rfl ev3_18 (by omega) (by decide) rfl ?_
                      refine j_goto (tgt := 17) dX6_seek_160 (by decide) ?_
                      refine j_sub (ls' := [(0, jR 44), (1, jR 1), (2, jI H), (3, jI v3_18)]) [0, 1, 2, 3] rfl ?_
                      exact ih17 v3_18 N37 ⟨by sorry, by sorry, by sorry, by sorry, by sorry, by sorry⟩ (by omega)
                    · skip
                      refine j_aload_n 0 dX6_seek_140 rfl rfl ?_
                      refine j_iload 4 dX6_seek_141 rfl ?_
                      refine j_puti (k' := 0) f_X6_18 o_44_0 dX6_seek_143 rfl ?_
                      refine j_nmM (fun M_19 eM_19 => ?_)
                      refine j_aload_n 0 dX6_seek_146 rfl rfl ?_
                      refine j_iload_n 3 dX6_seek_147 rfl rfl ?_
                      refine j_puti (k' := 1) f_X6_22 o_44_1 dX6_seek_148 rfl ?_
                      refine j_nmM (fun M_20 eM_20 => ?_)
                      refine j_aload_n 0 dX6_seek_151 rfl rfl ?_
                      refine j_iload 5 dX6_seek_152 rfl ?_
                      refine j_puti (k' := 2) f_X6_25 o_44_2 dX6_seek_154 rfl ?_
                      refine j_nmM (fun M_21 eM_21 => ?_)
                      obtain ⟨v3_22, ev3_22⟩ : ∃ y : Int, y = v3 + 1 := ⟨_, rfl⟩
                      refine j_iinc (y := v3_22) (ls' := [(0, jR 44), (1, jR 1), (2, jI H), (3, jI v3_22), (4, jI v4), (5, jI v5), (6, jI v6)]) 3 dX6_seek_157 rfl ev3_22 (by omega) (by decide) rfl ?_
                      refine j_goto (tgt := 17) dX6_seek_160 (by decide) ?_
                      refine j_sub (ls' := [(0, jR 44), (1, jR 1), (2, jI H), (3, jI v3_22)]) [0, 1, 2, 3] rfl ?_
                      exact ih17 v3_22 M_21 ⟨by sorry, by sorry, by sorry, by sorry, by sorry, by sorry⟩ (by omega)
            · skip
              refine j_iload_n 3 dX6_seek_46 rfl rfl ?_
              refine j_iload 6 dX6_seek_47 rfl ?_
              refine j_ishr dX6_seek_49 ?_
              refine j_iconst dX6_seek_50 (by decide) ?_
              refine j_iand dX6_seek_51 ?_
              refine j_iconst dX6_seek_52 (by decide) ?_
              refine j_icmp_ne (tgt := 101) dX6_seek_53 (by decide) (fun c53_23 => ?_) (fun c53_23 => ?_)
              · skip
                obtain ⟨v6_24, ev6_24⟩ : ∃ y : Int, y = v6 + 1 := ⟨_, rfl⟩
                refine j_iinc (y := v6_24) (ls' := [(0, jR 44), (1, jR 1), (2, jI H), (3, jI v3), (4, jI v4), (5, jI v5), (6, jI v6_24)]) 6 dX6_seek_101 rfl ev6_24 (by omega) (by decide) rfl ?_
                refine j_goto (tgt := 37) dX6_seek_104 (by decide) ?_
                exact ih37 v4 v5 v6_24 N37 ⟨by sorry, by sorry, by sorry, by sorry, by sorry, by sorry⟩ (by omega)
              · skip
                refine j_iload 4 dX6_seek_56 rfl ?_
                refine j_aload_n 1 dX6_seek_58 rfl rfl ?_
                refine j_getr f_X6_32 r_1_4 dX6_seek_59 ?_
                refine j_iload 6 dX6_seek_62 rfl ?_
                refine j_iald a_5 dX6_seek_64 (by omega) (by omega) ?_
                refine j_eq (Eq.trans (congrFun (gk 5 (by decide)) v6) (congrFun (hk 5 (by decide) (by decide)) v6)) ?_
                have g_25 := h_cdoubt v6
                refine j_iadd dX6_seek_65 (by omega) ?_
                refine j_nm (fun v4_26 ev4_26 => ?_)
                refine j_istore (ls' := [(0, jR 44), (1, jR 1), (2, jI H), (3, jI v3), (4, jI v4_26), (5, jI v5), (6, jI v6)]) dX6_seek_66 (by decide) rfl ?_
                refine j_aload_n 0 dX6_seek_68 rfl rfl ?_
                refine j_aload_n 1 dX6_seek_69 rfl rfl ?_
                refine j_iload_n 3 dX6_seek_70 rfl rfl ?_
                refine j_iload 6 dX6_seek_71 rfl ?_
                refine j_callVi l_X6_35 ⟨Nat.le_of_ble_eq_true rfl, Nat.le_of_ble_eq_true rfl⟩ ⟨rfl, rfl⟩ dX6_seek_73 ob_44 (c_X6_fewestTo N37 1 v3 v6 (by rw [(Eq.trans (congrFun (gk 1 (by decide)) 0) (congrFun (hk 1 (by decide) (by decide)) 0))]; exact h_cmills) (by rw [(Eq.trans (gk 4 (by decide)) (hk 4 (by decide) (by decide)))]; exact h_ctown) (by rw [(Eq.trans (gk 45 (by decide)) (hk 45 (by decide) (by decide)))]; exact h_chours) (by first | assumption | omega) (by first | assumption | omega) (by first | assumption | omega) (by first | assumption | omega) (by first | assumption | omega)) rfl rfl (Nat.le_of_ble_eq_true rfl) (fun r_27 M_28 h_29 => ?_)
                obtain ⟨er_27, nh_29⟩ := h_29
                refine j_eqM nh_29 ?_
                clear nh_29
                simp only [(Eq.trans (gk 45 (by decide)) (hk 45 (by decide) (by decide))), (Eq.trans (gk 4 (by decide)) (hk 4 (by decide) (by decide))), (Eq.trans (congrFun (gk 1 (by decide)) 0) (congrFun (hk 1 (by decide) (by decide)) 0))] at er_27
                refine j_istore (ls' := [(0, jR 44), (1, jR 1), (2, jI H), (3, jI v3), (4, jI v4_26), (5, jI v5), (6, jI v6), (7, jI r_27)]) dX6_seek_76 (by decide) rfl ?_
                refine j_aload_n 0 dX6_seek_78 rfl rfl ?_
                refine j_getr f_X6_15 r_44_4 dX6_seek_79 ?_
                refine j_iload_n 3 dX6_seek_82 rfl rfl ?_
                refine j_bipush dX6_seek_83 (by decide) ?_
                refine j_imul dX6_seek_85 (by omega) ?_
                refine j_iload 6 dX6_seek_86 rfl ?_
                refine j_iadd dX6_seek_88 (by omega) ?_
                refine j_iload 7 dX6_seek_89 rfl ?_
                refine j_iast a_46 dX6_seek_91 (by omega) (by omega) ?_
                refine j_nmM (fun M_30 eM_30 => ?_)
                refine j_iload 5 dX6_seek_92 rfl ?_
                refine j_iload 7 dX6_seek_94 rfl ?_
                refine j_mmin lm_X6_39 lm_min ⟨Nat.le_of_ble_eq_true rfl, Nat.le_of_ble_eq_true rfl⟩ ⟨Nat.le_of_ble_eq_true rfl, Nat.le_of_ble_eq_true rfl⟩ dX6_seek_96 ?_
                refine j_nm (fun v5_31 ev5_31 => ?_)
                refine j_istore (ls' := [(0, jR 44), (1, jR 1), (2, jI H), (3, jI v3), (4, jI v4_26), (5, jI v5_31), (6, jI v6), (7, jI r_27)]) dX6_seek_99 (by decide) rfl ?_
                obtain ⟨v6_32, ev6_32⟩ : ∃ y : Int, y = v6 + 1 := ⟨_, rfl⟩
                refine j_iinc (y := v6_32) (ls' := [(0, jR 44), (1, jR 1), (2, jI H), (3, jI v3), (4, jI v4_26), (5, jI v5_31), (6, jI v6_32), (7, jI r_27)]) 6 dX6_seek_101 rfl ev6_32 (by omega) (by decide) rfl ?_
                refine j_goto (tgt := 37) dX6_seek_104 (by decide) ?_
                refine j_sub (ls' := [(0, jR 44), (1, jR 1), (2, jI H), (3, jI v3), (4, jI v4_26), (5, jI v5_31), (6, jI v6_32)]) [0, 1, 2, 3, 4, 5, 6] rfl ?_
                exact ih37 v4_26 v5_31 v6_32 M_30 ⟨by sorry, by sorry, by sorry, by sorry, by sorry, by sorry⟩ (by omega)
        exact lp37_6 _ 0 1000000 0 N17 ⟨by sorry, by sorry, by sorry, by sorry, by sorry, by sorry⟩ (Nat.lt_succ_self _)
  exact lp17_4 _ 1 M_3 ⟨by sorry, by sorry, by sorry, by sorry, by sorry, by sorry⟩ (Nat.lt_succ_self _)
