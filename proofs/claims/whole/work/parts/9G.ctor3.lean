set_option maxHeartbeats 4000000 in
set_option maxRecDepth 20000 in
theorem c_X7_init {X : jX} (M : jM) (sh : List jS) (hn : sh.length = 28) (hj : jltb 28 sh = true) : jC yX7_init D_X7_init X (fun i : Int => i < 29, (sh ++ [.inr (7, [39, 40, 0, 0, 0, 41, 0, 42, 43, 44, 45]), .inl (0, 6), .inl (0, 6), .inl (0, 64), .inl (0, 64), .inl (0, 64), .inl (1, 135), .inl (1, 135)])) (sh ++ [.inr (7, [5, 5, 0, 0, 0, 5, 0, 5, 5, 5, 5])]) [jR 28] M (jqV (fun N => (∀ k, N 29 k = if 0 ≤ k ∧ k < 6 then 90 else 0) ∧ (∀ k, N 30 k = if 0 ≤ k ∧ k < 6 then 1 else 0) ∧ ∀ c, c ≠ 29 → c ≠ 30 → N c = jzr M 29 36 c)) := by
  refine jC_of (by decide) rfl (fun ad => Nat.le_of_ble_eq_true rfl) (by decide) ?_
  show jG D_X7_init X (fun i : Int => i < 29, (sh ++ [.inr (7, [39, 40, 0, 0, 0, 41, 0, 42, 43, 44, 45]), .inl (0, 6), .inl (0, 6), .inl (0, 64), .inl (0, 64), .inl (0, 64), .inl (1, 135), .inl (1, 135)])) (sh ++ [.inr (7, [5, 5, 0, 0, 0, 5, 0, 5, 5, 5, 5])]) 0 0 _ 0 [(0, jR 28)] [] M
  refine j_eqM (jzr_0 M 29) ?_
  refine j_aload_n 0 dX7_init_0 rfl rfl ?_
  refine j_obj lo_X7 ⟨Nat.le_of_ble_eq_true rfl, Nat.le_of_ble_eq_true rfl⟩ dX7_init_1 ?_
  refine j_aload_n 0 dX7_init_4 rfl rfl ?_
  refine j_bipush dX7_init_5 (by decide) ?_
  refine j_newa (n := 29) (len := 6) (sh' := (sh ++ [.inr (7, [5, 5, 0, 0, 0, 5, 0, 5, 5, 5, 5]), .inl (0, 6)])) aty_int (by decide) (j_ln hn rfl rfl) (jno_app hj (by decide) (by decide)) (fun i (hi : i < 29) => by omega) (jsb_of (by decide)) (jlb_of (by decide)) ⟨Nat.le_of_ble_eq_true rfl, Nat.le_of_ble_eq_true rfl⟩ dX7_init_7 (by rw [List.append_assoc]; rfl) ?_
  refine j_eqM (jz_r (a := 29) (b := 29) (c := 30) (by decide) (by decide)) ?_
  refine j_putr (t := 29) (kd := 39) (sh' := (sh ++ [.inr (7, [39, 5, 0, 0, 0, 5, 0, 5, 5, 5, 5]), .inl (0, 6)])) f_X7_11 (fun _ => ⟨rfl, _, _, rfl⟩) (fun a => ⟨rfl, rfl⟩) (by decide) (j_at (n := 28) hn) rfl (by decide) dX7_init_9 (j_st (n := 28) hn) ?_
  refine j_aload_n 0 dX7_init_12 rfl rfl ?_
  refine j_bipush dX7_init_13 (by decide) ?_
  refine j_newa (n := 30) (len := 6) (sh' := (sh ++ [.inr (7, [39, 5, 0, 0, 0, 5, 0, 5, 5, 5, 5]), .inl (0, 6), .inl (0, 6)])) aty_int (by decide) (j_ln hn rfl rfl) (jno_app hj (by decide) (by decide)) (fun i (hi : i < 29) => by omega) (jsb_of (by decide)) (jlb_of (by decide)) ⟨Nat.le_of_ble_eq_true rfl, Nat.le_of_ble_eq_true rfl⟩ dX7_init_15 (by rw [List.append_assoc]; rfl) ?_
  refine j_eqM (jz_r (a := 29) (b := 30) (c := 31) (by decide) (by decide)) ?_
  refine j_putr (t := 30) (kd := 40) (sh' := (sh ++ [.inr (7, [39, 40, 0, 0, 0, 5, 0, 5, 5, 5, 5]), .inl (0, 6), .inl (0, 6)])) f_X7_15 (fun _ => ⟨rfl, _, _, rfl⟩) (fun a => ⟨rfl, rfl⟩) (by decide) (j_at (n := 28) hn) rfl (by decide) dX7_init_17 (j_st (n := 28) hn) ?_
  refine j_aload_n 0 dX7_init_20 rfl rfl ?_
  refine j_bipush dX7_init_21 (by decide) ?_
  refine j_newa (n := 31) (len := 64) (sh' := (sh ++ [.inr (7, [39, 40, 0, 0, 0, 5, 0, 5, 5, 5, 5]), .inl (0, 6), .inl (0, 6), .inl (0, 64)])) aty_int (by decide) (j_ln hn rfl rfl) (jno_app hj (by decide) (by decide)) (fun i (hi : i < 29) => by omega) (jsb_of (by decide)) (jlb_of (by decide)) ⟨Nat.le_of_ble_eq_true rfl, Nat.le_of_ble_eq_true rfl⟩ dX7_init_23 (by rw [List.append_assoc]; rfl) ?_
  refine j_eqM (jz_r (a := 29) (b := 31) (c := 32) (by decide) (by decide)) ?_
  refine j_putr (t := 31) (kd := 41) (sh' := (sh ++ [.inr (7, [39, 40, 0, 0, 0, 41, 0, 5, 5, 5, 5]), .inl (0, 6), .inl (0, 6), .inl (0, 64)])) f_X7_18 (fun _ => ⟨rfl, _, _, rfl⟩) (fun a => ⟨rfl, rfl⟩) (by decide) (j_at (n := 28) hn) rfl (by decide) dX7_init_25 (j_st (n := 28) hn) ?_
  refine j_aload_n 0 dX7_init_28 rfl rfl ?_
  refine j_bipush dX7_init_29 (by decide) ?_
  refine j_newa (n := 32) (len := 64) (sh' := (sh ++ [.inr (7, [39, 40, 0, 0, 0, 41, 0, 5, 5, 5, 5]), .inl (0, 6), .inl (0, 6), .inl (0, 64), .inl (0, 64)])) aty_int (by decide) (j_ln hn rfl rfl) (jno_app hj (by decide) (by decide)) (fun i (hi : i < 29) => by omega) (jsb_of (by decide)) (jlb_of (by decide)) ⟨Nat.le_of_ble_eq_true rfl, Nat.le_of_ble_eq_true rfl⟩ dX7_init_31 (by rw [List.append_assoc]; rfl) ?_
  refine j_eqM (jz_r (a := 29) (b := 32) (c := 33) (by decide) (by decide)) ?_
  refine j_putr (t := 32) (kd := 42) (sh' := (sh ++ [.inr (7, [39, 40, 0, 0, 0, 41, 0, 42, 5, 5, 5]), .inl (0, 6), .inl (0, 6), .inl (0, 64), .inl (0, 64)])) f_X7_21 (fun _ => ⟨rfl, _, _, rfl⟩) (fun a => ⟨rfl, rfl⟩) (by decide) (j_at (n := 28) hn) rfl (by decide) dX7_init_33 (j_st (n := 28) hn) ?_
  refine j_aload_n 0 dX7_init_36 rfl rfl ?_
  refine j_bipush dX7_init_37 (by decide) ?_
  refine j_newa (n := 33) (len := 64) (sh' := (sh ++ [.inr (7, [39, 40, 0, 0, 0, 41, 0, 42, 5, 5, 5]), .inl (0, 6), .inl (0, 6), .inl (0, 64), .inl (0, 64), .inl (0, 64)])) aty_int (by decide) (j_ln hn rfl rfl) (jno_app hj (by decide) (by decide)) (fun i (hi : i < 29) => by omega) (jsb_of (by decide)) (jlb_of (by decide)) ⟨Nat.le_of_ble_eq_true rfl, Nat.le_of_ble_eq_true rfl⟩ dX7_init_39 (by rw [List.append_assoc]; rfl) ?_
  refine j_eqM (jz_r (a := 29) (b := 33) (c := 34) (by decide) (by decide)) ?_
  refine j_putr (t := 33) (kd := 43) (sh' := (sh ++ [.inr (7, [39, 40, 0, 0, 0, 41, 0, 42, 43, 5, 5]), .inl (0, 6), .inl (0, 6), .inl (0, 64), .inl (0, 64), .inl (0, 64)])) f_X7_24 (fun _ => ⟨rfl, _, _, rfl⟩) (fun a => ⟨rfl, rfl⟩) (by decide) (j_at (n := 28) hn) rfl (by decide) dX7_init_41 (j_st (n := 28) hn) ?_
  refine j_aload_n 0 dX7_init_44 rfl rfl ?_
  refine j_sipush dX7_init_45 (by decide) ?_
  refine j_newa (n := 34) (len := 135) (sh' := (sh ++ [.inr (7, [39, 40, 0, 0, 0, 41, 0, 42, 43, 5, 5]), .inl (0, 6), .inl (0, 6), .inl (0, 64), .inl (0, 64), .inl (0, 64), .inl (1, 135)])) aty_long (by decide) (j_ln hn rfl rfl) (jno_app hj (by decide) (by decide)) (fun i (hi : i < 29) => by omega) (jsb_of (by decide)) (jlb_of (by decide)) ⟨Nat.le_of_ble_eq_true rfl, Nat.le_of_ble_eq_true rfl⟩ dX7_init_48 (by rw [List.append_assoc]; rfl) ?_
  refine j_eqM (jz_r (a := 29) (b := 34) (c := 35) (by decide) (by decide)) ?_
  refine j_putr (t := 34) (kd := 44) (sh' := (sh ++ [.inr (7, [39, 40, 0, 0, 0, 41, 0, 42, 43, 44, 5]), .inl (0, 6), .inl (0, 6), .inl (0, 64), .inl (0, 64), .inl (0, 64), .inl (1, 135)])) f_X7_27 (fun _ => ⟨rfl, _, _, rfl⟩) (fun a => ⟨rfl, rfl⟩) (by decide) (j_at (n := 28) hn) rfl (by decide) dX7_init_50 (j_st (n := 28) hn) ?_
  refine j_aload_n 0 dX7_init_53 rfl rfl ?_
  refine j_sipush dX7_init_54 (by decide) ?_
  refine j_newa (n := 35) (len := 135) (sh' := (sh ++ [.inr (7, [39, 40, 0, 0, 0, 41, 0, 42, 43, 44, 5]), .inl (0, 6), .inl (0, 6), .inl (0, 64), .inl (0, 64), .inl (0, 64), .inl (1, 135), .inl (1, 135)])) aty_long (by decide) (j_ln hn rfl rfl) (jno_app hj (by decide) (by decide)) (fun i (hi : i < 29) => by omega) (jsb_of (by decide)) (jlb_of (by decide)) ⟨Nat.le_of_ble_eq_true rfl, Nat.le_of_ble_eq_true rfl⟩ dX7_init_57 (by rw [List.append_assoc]; rfl) ?_
  refine j_eqM (jz_r (a := 29) (b := 35) (c := 36) (by decide) (by decide)) ?_
  refine j_putr (t := 35) (kd := 45) (sh' := (sh ++ [.inr (7, [39, 40, 0, 0, 0, 41, 0, 42, 43, 44, 45]), .inl (0, 6), .inl (0, 6), .inl (0, 64), .inl (0, 64), .inl (0, 64), .inl (1, 135), .inl (1, 135)])) f_X7_31 (fun _ => ⟨rfl, _, _, rfl⟩) (fun a => ⟨rfl, rfl⟩) (by decide) (j_at (n := 28) hn) rfl (by decide) dX7_init_59 (j_st (n := 28) hn) ?_
  refine j_nmM (fun M_0 eM_0 => ?_)
  have a_29 : jar (sh ++ [.inr (7, [39, 40, 0, 0, 0, 41, 0, 42, 43, 44, 45]), .inl (0, 6), .inl (0, 6), .inl (0, 64), .inl (0, 64), .inl (0, 64), .inl (1, 135), .inl (1, 135)]) 29 0 6 := ⟨by decide, by decide, j_atk (k := 1) hn rfl rfl⟩
  have a_30 : jar (sh ++ [.inr (7, [39, 40, 0, 0, 0, 41, 0, 42, 43, 44, 45]), .inl (0, 6), .inl (0, 6), .inl (0, 64), .inl (0, 64), .inl (0, 64), .inl (1, 135), .inl (1, 135)]) 30 0 6 := ⟨by decide, by decide, j_atk (k := 2) hn rfl rfl⟩
  have a_31 : jar (sh ++ [.inr (7, [39, 40, 0, 0, 0, 41, 0, 42, 43, 44, 45]), .inl (0, 6), .inl (0, 6), .inl (0, 64), .inl (0, 64), .inl (0, 64), .inl (1, 135), .inl (1, 135)]) 31 0 64 := ⟨by decide, by decide, j_atk (k := 3) hn rfl rfl⟩
  have a_32 : jar (sh ++ [.inr (7, [39, 40, 0, 0, 0, 41, 0, 42, 43, 44, 45]), .inl (0, 6), .inl (0, 6), .inl (0, 64), .inl (0, 64), .inl (0, 64), .inl (1, 135), .inl (1, 135)]) 32 0 64 := ⟨by decide, by decide, j_atk (k := 4) hn rfl rfl⟩
  have a_33 : jar (sh ++ [.inr (7, [39, 40, 0, 0, 0, 41, 0, 42, 43, 44, 45]), .inl (0, 6), .inl (0, 6), .inl (0, 64), .inl (0, 64), .inl (0, 64), .inl (1, 135), .inl (1, 135)]) 33 0 64 := ⟨by decide, by decide, j_atk (k := 5) hn rfl rfl⟩
  have a_34 : jar (sh ++ [.inr (7, [39, 40, 0, 0, 0, 41, 0, 42, 43, 44, 45]), .inl (0, 6), .inl (0, 6), .inl (0, 64), .inl (0, 64), .inl (0, 64), .inl (1, 135), .inl (1, 135)]) 34 1 135 := ⟨by decide, by decide, j_atk (k := 6) hn rfl rfl⟩
  have a_35 : jar (sh ++ [.inr (7, [39, 40, 0, 0, 0, 41, 0, 42, 43, 44, 45]), .inl (0, 6), .inl (0, 6), .inl (0, 64), .inl (0, 64), .inl (0, 64), .inl (1, 135), .inl (1, 135)]) 35 1 135 := ⟨by decide, by decide, j_atk (k := 7) hn rfl rfl⟩
  have r_28_0 : jft (sh ++ [.inr (7, [39, 40, 0, 0, 0, 41, 0, 42, 43, 44, 45]), .inl (0, 6), .inl (0, 6), .inl (0, 64), .inl (0, 64), .inl (0, 64), .inl (1, 135), .inl (1, 135)]) 28 7 0 29 := ⟨39, ⟨by decide, _, j_at (n := 28) hn, rfl⟩, by decide, by decide⟩
  have r_28_1 : jft (sh ++ [.inr (7, [39, 40, 0, 0, 0, 41, 0, 42, 43, 44, 45]), .inl (0, 6), .inl (0, 6), .inl (0, 64), .inl (0, 64), .inl (0, 64), .inl (1, 135), .inl (1, 135)]) 28 7 1 30 := ⟨40, ⟨by decide, _, j_at (n := 28) hn, rfl⟩, by decide, by decide⟩
  have r_28_5 : jft (sh ++ [.inr (7, [39, 40, 0, 0, 0, 41, 0, 42, 43, 44, 45]), .inl (0, 6), .inl (0, 6), .inl (0, 64), .inl (0, 64), .inl (0, 64), .inl (1, 135), .inl (1, 135)]) 28 7 5 31 := ⟨41, ⟨by decide, _, j_at (n := 28) hn, rfl⟩, by decide, by decide⟩
  have r_28_7 : jft (sh ++ [.inr (7, [39, 40, 0, 0, 0, 41, 0, 42, 43, 44, 45]), .inl (0, 6), .inl (0, 6), .inl (0, 64), .inl (0, 64), .inl (0, 64), .inl (1, 135), .inl (1, 135)]) 28 7 7 32 := ⟨42, ⟨by decide, _, j_at (n := 28) hn, rfl⟩, by decide, by decide⟩
  have r_28_8 : jft (sh ++ [.inr (7, [39, 40, 0, 0, 0, 41, 0, 42, 43, 44, 45]), .inl (0, 6), .inl (0, 6), .inl (0, 64), .inl (0, 64), .inl (0, 64), .inl (1, 135), .inl (1, 135)]) 28 7 8 33 := ⟨43, ⟨by decide, _, j_at (n := 28) hn, rfl⟩, by decide, by decide⟩
  have r_28_9 : jft (sh ++ [.inr (7, [39, 40, 0, 0, 0, 41, 0, 42, 43, 44, 45]), .inl (0, 6), .inl (0, 6), .inl (0, 64), .inl (0, 64), .inl (0, 64), .inl (1, 135), .inl (1, 135)]) 28 7 9 34 := ⟨44, ⟨by decide, _, j_at (n := 28) hn, rfl⟩, by decide, by decide⟩
  have r_28_10 : jft (sh ++ [.inr (7, [39, 40, 0, 0, 0, 41, 0, 42, 43, 44, 45]), .inl (0, 6), .inl (0, 6), .inl (0, 64), .inl (0, 64), .inl (0, 64), .inl (1, 135), .inl (1, 135)]) 28 7 10 35 := ⟨45, ⟨by decide, _, j_at (n := 28) hn, rfl⟩, by decide, by decide⟩
  refine j_iconst dX7_init_62 (by decide) ?_
  refine j_istore_n (ls' := [(0, jR 28), (1, jI 0)]) dX7_init_63 rfl (by decide) rfl ?_
  have lp64_101 : ∀ n64 : Nat, ∀ (v1 : Int), ∀ N64 : jM, (0 ≤ v1 ∧ v1 ≤ 6) ∧ (∀ k, N64 29 k = if 0 ≤ k ∧ k < v1 then 90 else 0) ∧ (∀ k, N64 30 k = if 0 ≤ k ∧ k < v1 then 1 else 0) ∧ (∀ c, c ≠ 29 → c ≠ 30 → N64 c = M_0 c) → (6 - v1).toNat < n64 → jG D_X7_init X (fun i : Int => i < 29, (sh ++ [.inr (7, [39, 40, 0, 0, 0, 41, 0, 42, 43, 44, 45]), .inl (0, 6), .inl (0, 6), .inl (0, 64), .inl (0, 64), .inl (0, 64), .inl (1, 135), .inl (1, 135)])) (sh ++ [.inr (7, [39, 40, 0, 0, 0, 41, 0, 42, 43, 44, 45]), .inl (0, 6), .inl (0, 6), .inl (0, 64), .inl (0, 64), .inl (0, 64), .inl (1, 135), .inl (1, 135)]) 7 474 (jqV (fun N => (∀ k, N 29 k = if 0 ≤ k ∧ k < 6 then 90 else 0) ∧ (∀ k, N 30 k = if 0 ≤ k ∧ k < 6 then 1 else 0) ∧ ∀ c, c ≠ 29 → c ≠ 30 → N c = jzr M 29 36 c)) 64 [(0, jR 28), (1, jI v1)] ([]) N64 := by
    intro n64
    induction n64 with
    | zero => intro v1 N64 _ hz; exact absurd hz (Nat.not_lt_zero _)
    | succ n64 ih64 =>
      intro v1 N64 hinv hm
      obtain ⟨h1, ha, hb, hc⟩ := hinv
      refine j_iload_n 1 dX7_init_64 rfl rfl ?_
      refine j_bipush dX7_init_65 (by decide) ?_
      refine j_icmp_ge (tgt := 91) dX7_init_67 (by decide) (fun c67_102 => ?_) (fun c67_102 => ?_)
      · skip
        refine j_vret rfl rfl rfl rfl dX7_init_91 ?_
        have e6 : v1 = 6 := by omega
        rw [e6] at ha hb
        exact ⟨ha, hb, fun c a1 a2 => by rw [hc c a1 a2, eM_0]⟩
      · skip
        refine j_aload_n 0 dX7_init_70 rfl rfl ?_
        refine j_getr f_X7_11 r_28_0 dX7_init_71 ?_
        refine j_iload_n 1 dX7_init_74 rfl rfl ?_
        refine j_bipush dX7_init_75 (by decide) ?_
        refine j_iast a_29 dX7_init_77 (by omega) (by omega) ?_
        refine j_nmM (fun M_103 eM_103 => ?_)
        refine j_aload_n 0 dX7_init_78 rfl rfl ?_
        refine j_getr f_X7_15 r_28_1 dX7_init_79 ?_
        refine j_iload_n 1 dX7_init_82 rfl rfl ?_
        refine j_iconst dX7_init_83 (by decide) ?_
        refine j_iast a_30 dX7_init_84 (by omega) (by omega) ?_
        refine j_nmM (fun M_104 eM_104 => ?_)
        obtain ⟨v1_105, ev1_105⟩ : ∃ y : Int, y = v1 + 1 := ⟨_, rfl⟩
        refine j_iinc (y := v1_105) (ls' := [(0, jR 28), (1, jI v1_105)]) 1 dX7_init_85 rfl ev1_105 (by omega) (by decide) rfl ?_
        refine j_goto (tgt := 64) dX7_init_88 (by decide) ?_
        exact ih64 v1_105 M_104 ⟨by omega, by intro k; rw [eM_104, eM_103, jup_cellk (by decide), jup_at]; by_cases hk : k = v1; (· rw [if_pos hk, if_pos (by omega)]); (· rw [if_neg hk, ha k]; by_cases hz_ : 0 ≤ k ∧ k < v1; (· rw [if_pos hz_, if_pos (by omega)]); (· rw [if_neg hz_, if_neg (by omega)])), by intro k; rw [eM_104, eM_103, jup_at, jup_cellk (by decide)]; by_cases hk : k = v1; (· rw [if_pos hk, if_pos (by omega)]); (· rw [if_neg hk, hb k]; by_cases hz_ : 0 ≤ k ∧ k < v1; (· rw [if_pos hz_, if_pos (by omega)]); (· rw [if_neg hz_, if_neg (by omega)])), by intro c a1 a2; rw [eM_104, eM_103, jup_cell a2, jup_cell a1]; exact hc c a1 a2⟩ (by omega)
  exact lp64_101 _ 0 M_0 ⟨by omega, by intro k; rw [if_neg (by omega), eM_0]; rfl, by intro k; rw [if_neg (by omega), eM_0]; rfl, by intro c _ _; rfl⟩ (Nat.lt_succ_self _)
set_option maxHeartbeats 4000000 in
set_option maxRecDepth 20000 in
theorem c_X2_init {X : jX} (M : jM) (sh : List jS) (hn : sh.length = 36) (hj : jltb 36 sh = true) : jC yX2_init D_X2_init X (fun i : Int => i < 37, (sh ++ [.inr (2, [0, 47, 48, 0, 49, 50, 51, 52, 53]), .inl (0, 5), .inl (0, 6), .inl (0, 20), .inl (0, 20), .inl (0, 20), .inl (4, 20), .inl (0, 20)])) (sh ++ [.inr (2, [0, 5, 5, 0, 5, 5, 5, 5, 5])]) [jR 36] M (jqV (fun N => (∀ k, N 38 k = if 0 ≤ k ∧ k < 6 then 20 * k + 20 else 0) ∧ ∀ c, c ≠ 38 → N c = jzr M 37 44 c)) := by
  refine jC_of (by decide) rfl (fun ad => Nat.le_of_ble_eq_true rfl) (by decide) ?_
  show jG D_X2_init X (fun i : Int => i < 37, (sh ++ [.inr (2, [0, 47, 48, 0, 49, 50, 51, 52, 53]), .inl (0, 5), .inl (0, 6), .inl (0, 20), .inl (0, 20), .inl (0, 20), .inl (4, 20), .inl (0, 20)])) (sh ++ [.inr (2, [0, 5, 5, 0, 5, 5, 5, 5, 5])]) 0 0 _ 0 [(0, jR 36)] [] M
  refine j_eqM (jzr_0 M 37) ?_
  refine j_aload_n 0 dX2_init_0 rfl rfl ?_
  refine j_obj lo_X2 ⟨Nat.le_of_ble_eq_true rfl, Nat.le_of_ble_eq_true rfl⟩ dX2_init_1 ?_
  refine j_aload_n 0 dX2_init_4 rfl rfl ?_
  refine j_iconst dX2_init_5 (by decide) ?_
  refine j_newa (n := 37) (len := 5) (sh' := (sh ++ [.inr (2, [0, 5, 5, 0, 5, 5, 5, 5, 5]), .inl (0, 5)])) aty_int (by decide) (j_ln hn rfl rfl) (jno_app hj (by decide) (by decide)) (fun i (hi : i < 37) => by omega) (jsb_of (by decide)) (jlb_of (by decide)) ⟨Nat.le_of_ble_eq_true rfl, Nat.le_of_ble_eq_true rfl⟩ dX2_init_6 (by rw [List.append_assoc]; rfl) ?_
  refine j_eqM (jz_r (a := 37) (b := 37) (c := 38) (by decide) (by decide)) ?_
  refine j_putr (t := 37) (kd := 47) (sh' := (sh ++ [.inr (2, [0, 47, 5, 0, 5, 5, 5, 5, 5]), .inl (0, 5)])) f_X2_11 (fun _ => ⟨rfl, _, _, rfl⟩) (fun a => ⟨rfl, rfl⟩) (by decide) (j_at (n := 36) hn) rfl (by decide) dX2_init_8 (j_st (n := 36) hn) ?_
  refine j_aload_n 0 dX2_init_11 rfl rfl ?_
  refine j_bipush dX2_init_12 (by decide) ?_
  refine j_newa (n := 38) (len := 6) (sh' := (sh ++ [.inr (2, [0, 47, 5, 0, 5, 5, 5, 5, 5]), .inl (0, 5), .inl (0, 6)])) aty_int (by decide) (j_ln hn rfl rfl) (jno_app hj (by decide) (by decide)) (fun i (hi : i < 37) => by omega) (jsb_of (by decide)) (jlb_of (by decide)) ⟨Nat.le_of_ble_eq_true rfl, Nat.le_of_ble_eq_true rfl⟩ dX2_init_14 (by rw [List.append_assoc]; rfl) ?_
  refine j_eqM (jz_r (a := 37) (b := 38) (c := 39) (by decide) (by decide)) ?_
  refine j_putr (t := 38) (kd := 48) (sh' := (sh ++ [.inr (2, [0, 47, 48, 0, 5, 5, 5, 5, 5]), .inl (0, 5), .inl (0, 6)])) f_X2_15 (fun _ => ⟨rfl, _, _, rfl⟩) (fun a => ⟨rfl, rfl⟩) (by decide) (j_at (n := 36) hn) rfl (by decide) dX2_init_16 (j_st (n := 36) hn) ?_
  refine j_aload_n 0 dX2_init_19 rfl rfl ?_
  refine j_bipush dX2_init_20 (by decide) ?_
  refine j_newa (n := 39) (len := 20) (sh' := (sh ++ [.inr (2, [0, 47, 48, 0, 5, 5, 5, 5, 5]), .inl (0, 5), .inl (0, 6), .inl (0, 20)])) aty_int (by decide) (j_ln hn rfl rfl) (jno_app hj (by decide) (by decide)) (fun i (hi : i < 37) => by omega) (jsb_of (by decide)) (jlb_of (by decide)) ⟨Nat.le_of_ble_eq_true rfl, Nat.le_of_ble_eq_true rfl⟩ dX2_init_22 (by rw [List.append_assoc]; rfl) ?_
  refine j_eqM (jz_r (a := 37) (b := 39) (c := 40) (by decide) (by decide)) ?_
  refine j_putr (t := 39) (kd := 49) (sh' := (sh ++ [.inr (2, [0, 47, 48, 0, 49, 5, 5, 5, 5]), .inl (0, 5), .inl (0, 6), .inl (0, 20)])) f_X2_18 (fun _ => ⟨rfl, _, _, rfl⟩) (fun a => ⟨rfl, rfl⟩) (by decide) (j_at (n := 36) hn) rfl (by decide) dX2_init_24 (j_st (n := 36) hn) ?_
  refine j_aload_n 0 dX2_init_27 rfl rfl ?_
  refine j_bipush dX2_init_28 (by decide) ?_
  refine j_newa (n := 40) (len := 20) (sh' := (sh ++ [.inr (2, [0, 47, 48, 0, 49, 5, 5, 5, 5]), .inl (0, 5), .inl (0, 6), .inl (0, 20), .inl (0, 20)])) aty_int (by decide) (j_ln hn rfl rfl) (jno_app hj (by decide) (by decide)) (fun i (hi : i < 37) => by omega) (jsb_of (by decide)) (jlb_of (by decide)) ⟨Nat.le_of_ble_eq_true rfl, Nat.le_of_ble_eq_true rfl⟩ dX2_init_30 (by rw [List.append_assoc]; rfl) ?_
  refine j_eqM (jz_r (a := 37) (b := 40) (c := 41) (by decide) (by decide)) ?_
  refine j_putr (t := 40) (kd := 50) (sh' := (sh ++ [.inr (2, [0, 47, 48, 0, 49, 50, 5, 5, 5]), .inl (0, 5), .inl (0, 6), .inl (0, 20), .inl (0, 20)])) f_X2_21 (fun _ => ⟨rfl, _, _, rfl⟩) (fun a => ⟨rfl, rfl⟩) (by decide) (j_at (n := 36) hn) rfl (by decide) dX2_init_32 (j_st (n := 36) hn) ?_
  refine j_aload_n 0 dX2_init_35 rfl rfl ?_
  refine j_bipush dX2_init_36 (by decide) ?_
  refine j_newa (n := 41) (len := 20) (sh' := (sh ++ [.inr (2, [0, 47, 48, 0, 49, 50, 5, 5, 5]), .inl (0, 5), .inl (0, 6), .inl (0, 20), .inl (0, 20), .inl (0, 20)])) aty_int (by decide) (j_ln hn rfl rfl) (jno_app hj (by decide) (by decide)) (fun i (hi : i < 37) => by omega) (jsb_of (by decide)) (jlb_of (by decide)) ⟨Nat.le_of_ble_eq_true rfl, Nat.le_of_ble_eq_true rfl⟩ dX2_init_38 (by rw [List.append_assoc]; rfl) ?_
  refine j_eqM (jz_r (a := 37) (b := 41) (c := 42) (by decide) (by decide)) ?_
  refine j_putr (t := 41) (kd := 51) (sh' := (sh ++ [.inr (2, [0, 47, 48, 0, 49, 50, 51, 5, 5]), .inl (0, 5), .inl (0, 6), .inl (0, 20), .inl (0, 20), .inl (0, 20)])) f_X2_24 (fun _ => ⟨rfl, _, _, rfl⟩) (fun a => ⟨rfl, rfl⟩) (by decide) (j_at (n := 36) hn) rfl (by decide) dX2_init_40 (j_st (n := 36) hn) ?_
  refine j_aload_n 0 dX2_init_43 rfl rfl ?_
  refine j_bipush dX2_init_44 (by decide) ?_
  refine j_newa (n := 42) (len := 20) (sh' := (sh ++ [.inr (2, [0, 47, 48, 0, 49, 50, 51, 5, 5]), .inl (0, 5), .inl (0, 6), .inl (0, 20), .inl (0, 20), .inl (0, 20), .inl (4, 20)])) aty_boolean (by decide) (j_ln hn rfl rfl) (jno_app hj (by decide) (by decide)) (fun i (hi : i < 37) => by omega) (jsb_of (by decide)) (jlb_of (by decide)) ⟨Nat.le_of_ble_eq_true rfl, Nat.le_of_ble_eq_true rfl⟩ dX2_init_46 (by rw [List.append_assoc]; rfl) ?_
  refine j_eqM (jz_r (a := 37) (b := 42) (c := 43) (by decide) (by decide)) ?_
  refine j_putr (t := 42) (kd := 52) (sh' := (sh ++ [.inr (2, [0, 47, 48, 0, 49, 50, 51, 52, 5]), .inl (0, 5), .inl (0, 6), .inl (0, 20), .inl (0, 20), .inl (0, 20), .inl (4, 20)])) f_X2_27 (fun _ => ⟨rfl, _, _, rfl⟩) (fun a => ⟨rfl, rfl⟩) (by decide) (j_at (n := 36) hn) rfl (by decide) dX2_init_48 (j_st (n := 36) hn) ?_
  refine j_aload_n 0 dX2_init_51 rfl rfl ?_
  refine j_bipush dX2_init_52 (by decide) ?_
  refine j_newa (n := 43) (len := 20) (sh' := (sh ++ [.inr (2, [0, 47, 48, 0, 49, 50, 51, 52, 5]), .inl (0, 5), .inl (0, 6), .inl (0, 20), .inl (0, 20), .inl (0, 20), .inl (4, 20), .inl (0, 20)])) aty_int (by decide) (j_ln hn rfl rfl) (jno_app hj (by decide) (by decide)) (fun i (hi : i < 37) => by omega) (jsb_of (by decide)) (jlb_of (by decide)) ⟨Nat.le_of_ble_eq_true rfl, Nat.le_of_ble_eq_true rfl⟩ dX2_init_54 (by rw [List.append_assoc]; rfl) ?_
  refine j_eqM (jz_r (a := 37) (b := 43) (c := 44) (by decide) (by decide)) ?_
  refine j_putr (t := 43) (kd := 53) (sh' := (sh ++ [.inr (2, [0, 47, 48, 0, 49, 50, 51, 52, 53]), .inl (0, 5), .inl (0, 6), .inl (0, 20), .inl (0, 20), .inl (0, 20), .inl (4, 20), .inl (0, 20)])) f_X2_31 (fun _ => ⟨rfl, _, _, rfl⟩) (fun a => ⟨rfl, rfl⟩) (by decide) (j_at (n := 36) hn) rfl (by decide) dX2_init_56 (j_st (n := 36) hn) ?_
  refine j_nmM (fun M_0 eM_0 => ?_)
  have a_37 : jar (sh ++ [.inr (2, [0, 47, 48, 0, 49, 50, 51, 52, 53]), .inl (0, 5), .inl (0, 6), .inl (0, 20), .inl (0, 20), .inl (0, 20), .inl (4, 20), .inl (0, 20)]) 37 0 5 := ⟨by decide, by decide, j_atk (k := 1) hn rfl rfl⟩
  have a_38 : jar (sh ++ [.inr (2, [0, 47, 48, 0, 49, 50, 51, 52, 53]), .inl (0, 5), .inl (0, 6), .inl (0, 20), .inl (0, 20), .inl (0, 20), .inl (4, 20), .inl (0, 20)]) 38 0 6 := ⟨by decide, by decide, j_atk (k := 2) hn rfl rfl⟩
  have a_39 : jar (sh ++ [.inr (2, [0, 47, 48, 0, 49, 50, 51, 52, 53]), .inl (0, 5), .inl (0, 6), .inl (0, 20), .inl (0, 20), .inl (0, 20), .inl (4, 20), .inl (0, 20)]) 39 0 20 := ⟨by decide, by decide, j_atk (k := 3) hn rfl rfl⟩
  have a_40 : jar (sh ++ [.inr (2, [0, 47, 48, 0, 49, 50, 51, 52, 53]), .inl (0, 5), .inl (0, 6), .inl (0, 20), .inl (0, 20), .inl (0, 20), .inl (4, 20), .inl (0, 20)]) 40 0 20 := ⟨by decide, by decide, j_atk (k := 4) hn rfl rfl⟩
  have a_41 : jar (sh ++ [.inr (2, [0, 47, 48, 0, 49, 50, 51, 52, 53]), .inl (0, 5), .inl (0, 6), .inl (0, 20), .inl (0, 20), .inl (0, 20), .inl (4, 20), .inl (0, 20)]) 41 0 20 := ⟨by decide, by decide, j_atk (k := 5) hn rfl rfl⟩
  have a_42 : jar (sh ++ [.inr (2, [0, 47, 48, 0, 49, 50, 51, 52, 53]), .inl (0, 5), .inl (0, 6), .inl (0, 20), .inl (0, 20), .inl (0, 20), .inl (4, 20), .inl (0, 20)]) 42 4 20 := ⟨by decide, by decide, j_atk (k := 6) hn rfl rfl⟩
  have a_43 : jar (sh ++ [.inr (2, [0, 47, 48, 0, 49, 50, 51, 52, 53]), .inl (0, 5), .inl (0, 6), .inl (0, 20), .inl (0, 20), .inl (0, 20), .inl (4, 20), .inl (0, 20)]) 43 0 20 := ⟨by decide, by decide, j_atk (k := 7) hn rfl rfl⟩
  have r_36_1 : jft (sh ++ [.inr (2, [0, 47, 48, 0, 49, 50, 51, 52, 53]), .inl (0, 5), .inl (0, 6), .inl (0, 20), .inl (0, 20), .inl (0, 20), .inl (4, 20), .inl (0, 20)]) 36 2 1 37 := ⟨47, ⟨by decide, _, j_at (n := 36) hn, rfl⟩, by decide, by decide⟩
  have r_36_2 : jft (sh ++ [.inr (2, [0, 47, 48, 0, 49, 50, 51, 52, 53]), .inl (0, 5), .inl (0, 6), .inl (0, 20), .inl (0, 20), .inl (0, 20), .inl (4, 20), .inl (0, 20)]) 36 2 2 38 := ⟨48, ⟨by decide, _, j_at (n := 36) hn, rfl⟩, by decide, by decide⟩
  have r_36_4 : jft (sh ++ [.inr (2, [0, 47, 48, 0, 49, 50, 51, 52, 53]), .inl (0, 5), .inl (0, 6), .inl (0, 20), .inl (0, 20), .inl (0, 20), .inl (4, 20), .inl (0, 20)]) 36 2 4 39 := ⟨49, ⟨by decide, _, j_at (n := 36) hn, rfl⟩, by decide, by decide⟩
  have r_36_5 : jft (sh ++ [.inr (2, [0, 47, 48, 0, 49, 50, 51, 52, 53]), .inl (0, 5), .inl (0, 6), .inl (0, 20), .inl (0, 20), .inl (0, 20), .inl (4, 20), .inl (0, 20)]) 36 2 5 40 := ⟨50, ⟨by decide, _, j_at (n := 36) hn, rfl⟩, by decide, by decide⟩
  have r_36_6 : jft (sh ++ [.inr (2, [0, 47, 48, 0, 49, 50, 51, 52, 53]), .inl (0, 5), .inl (0, 6), .inl (0, 20), .inl (0, 20), .inl (0, 20), .inl (4, 20), .inl (0, 20)]) 36 2 6 41 := ⟨51, ⟨by decide, _, j_at (n := 36) hn, rfl⟩, by decide, by decide⟩
  have r_36_7 : jft (sh ++ [.inr (2, [0, 47, 48, 0, 49, 50, 51, 52, 53]), .inl (0, 5), .inl (0, 6), .inl (0, 20), .inl (0, 20), .inl (0, 20), .inl (4, 20), .inl (0, 20)]) 36 2 7 42 := ⟨52, ⟨by decide, _, j_at (n := 36) hn, rfl⟩, by decide, by decide⟩
  have r_36_8 : jft (sh ++ [.inr (2, [0, 47, 48, 0, 49, 50, 51, 52, 53]), .inl (0, 5), .inl (0, 6), .inl (0, 20), .inl (0, 20), .inl (0, 20), .inl (4, 20), .inl (0, 20)]) 36 2 8 43 := ⟨53, ⟨by decide, _, j_at (n := 36) hn, rfl⟩, by decide, by decide⟩
  refine j_iconst dX2_init_59 (by decide) ?_
  refine j_istore_n (ls' := [(0, jR 36), (1, jI 0)]) dX2_init_60 rfl (by decide) rfl ?_
  have lp61_101 : ∀ n61 : Nat, ∀ (v1 : Int), ∀ N61 : jM, (0 ≤ v1 ∧ v1 ≤ 6) ∧ (∀ k, N61 38 k = if 0 ≤ k ∧ k < v1 then 20 * k + 20 else 0) ∧ (∀ c, c ≠ 38 → N61 c = M_0 c) → (6 - v1).toNat < n61 → jG D_X2_init X (fun i : Int => i < 37, (sh ++ [.inr (2, [0, 47, 48, 0, 49, 50, 51, 52, 53]), .inl (0, 5), .inl (0, 6), .inl (0, 20), .inl (0, 20), .inl (0, 20), .inl (4, 20), .inl (0, 20)])) (sh ++ [.inr (2, [0, 47, 48, 0, 49, 50, 51, 52, 53]), .inl (0, 5), .inl (0, 6), .inl (0, 20), .inl (0, 20), .inl (0, 20), .inl (4, 20), .inl (0, 20)]) 7 111 (jqV (fun N => (∀ k, N 38 k = if 0 ≤ k ∧ k < 6 then 20 * k + 20 else 0) ∧ ∀ c, c ≠ 38 → N c = jzr M 37 44 c)) 61 [(0, jR 36), (1, jI v1)] ([]) N61 := by
    intro n61
    induction n61 with
    | zero => intro v1 N61 _ hz; exact absurd hz (Nat.not_lt_zero _)
    | succ n61 ih61 =>
      intro v1 N61 hinv hm
      obtain ⟨h1, ha, hc⟩ := hinv
      refine j_iload_n 1 dX2_init_61 rfl rfl ?_
      refine j_bipush dX2_init_62 (by decide) ?_
      refine j_icmp_ge (tgt := 86) dX2_init_64 (by decide) (fun c64_102 => ?_) (fun c64_102 => ?_)
      · skip
        refine j_vret rfl rfl rfl rfl dX2_init_86 ?_
        have e6 : v1 = 6 := by omega
        rw [e6] at ha
        exact ⟨ha, fun c a1 => by rw [hc c a1, eM_0]⟩
      · skip
        refine j_aload_n 0 dX2_init_67 rfl rfl ?_
        refine j_getr f_X2_15 r_36_2 dX2_init_68 ?_
        refine j_iload_n 1 dX2_init_71 rfl rfl ?_
        refine j_bipush dX2_init_72 (by decide) ?_
        refine j_iload_n 1 dX2_init_74 rfl rfl ?_
        refine j_imul dX2_init_75 (by omega) ?_
        refine j_bipush dX2_init_76 (by decide) ?_
        refine j_iadd dX2_init_78 (by omega) ?_
        refine j_iast a_38 dX2_init_79 (by omega) (by omega) ?_
        refine j_nmM (fun M_103 eM_103 => ?_)
        obtain ⟨v1_104, ev1_104⟩ : ∃ y : Int, y = v1 + 1 := ⟨_, rfl⟩
        refine j_iinc (y := v1_104) (ls' := [(0, jR 36), (1, jI v1_104)]) 1 dX2_init_80 rfl ev1_104 (by omega) (by decide) rfl ?_
        refine j_goto (tgt := 61) dX2_init_83 (by decide) ?_
        exact ih61 v1_104 M_103 ⟨by omega, by intro k; rw [eM_103, jup_at]; by_cases hk : k = v1; (· rw [if_pos hk, if_pos (by omega), hk]); (· rw [if_neg hk, ha k]; by_cases hz_ : 0 ≤ k ∧ k < v1; (· rw [if_pos hz_, if_pos (by omega)]); (· rw [if_neg hz_, if_neg (by omega)])), by intro c a1; rw [eM_103, jup_cell a1]; exact hc c a1⟩ (by omega)
  exact lp61_101 _ 0 M_0 ⟨by omega, by intro k; rw [if_neg (by omega), eM_0]; rfl, by intro c _; rfl⟩ (Nat.lt_succ_self _)
set_option maxHeartbeats 4000000 in
set_option maxRecDepth 20000 in
theorem c_X6_init {X : jX} (M : jM) (sh : List jS) (hn : sh.length = 44) (hj : jltb 44 sh = true) : jC yX6_init D_X6_init X (fun i : Int => i < 45, (sh ++ [.inr (6, [0, 0, 0, 55, 56]), .inl (0, 81), .inl (0, 384)])) (sh ++ [.inr (6, [0, 0, 0, 5, 5])]) [jR 44] M (jqV (fun N => (∀ k, N 45 k = if 0 ≤ k ∧ k < 81 then rdV k else 0) ∧ ∀ c, c ≠ 45 → N c = jzr M 45 47 c)) := by
  refine jC_of (by decide) rfl (fun ad => Nat.le_of_ble_eq_true rfl) (by decide) ?_
  show jG D_X6_init X (fun i : Int => i < 45, (sh ++ [.inr (6, [0, 0, 0, 55, 56]), .inl (0, 81), .inl (0, 384)])) (sh ++ [.inr (6, [0, 0, 0, 5, 5])]) 0 0 _ 0 [(0, jR 44)] [] M
  refine j_eqM (jzr_0 M 45) ?_
  refine j_aload_n 0 dX6_init_0 rfl rfl ?_
  refine j_obj lo_X6 ⟨Nat.le_of_ble_eq_true rfl, Nat.le_of_ble_eq_true rfl⟩ dX6_init_1 ?_
  refine j_aload_n 0 dX6_init_4 rfl rfl ?_
  refine j_bipush dX6_init_5 (by decide) ?_
  refine j_newa (n := 45) (len := 81) (sh' := (sh ++ [.inr (6, [0, 0, 0, 5, 5]), .inl (0, 81)])) aty_int (by decide) (j_ln hn rfl rfl) (jno_app hj (by decide) (by decide)) (fun i (hi : i < 45) => by omega) (jsb_of (by decide)) (jlb_of (by decide)) ⟨Nat.le_of_ble_eq_true rfl, Nat.le_of_ble_eq_true rfl⟩ dX6_init_7 (by rw [List.append_assoc]; rfl) ?_
  refine j_eqM (jz_r (a := 45) (b := 45) (c := 46) (by decide) (by decide)) ?_
  refine j_putr (t := 45) (kd := 55) (sh' := (sh ++ [.inr (6, [0, 0, 0, 55, 5]), .inl (0, 81)])) f_X6_9 (fun _ => ⟨rfl, _, _, rfl⟩) (fun a => ⟨rfl, rfl⟩) (by decide) (j_at (n := 44) hn) rfl (by decide) dX6_init_9 (j_st (n := 44) hn) ?_
  refine j_aload_n 0 dX6_init_12 rfl rfl ?_
  refine j_sipush dX6_init_13 (by decide) ?_
  refine j_newa (n := 46) (len := 384) (sh' := (sh ++ [.inr (6, [0, 0, 0, 55, 5]), .inl (0, 81), .inl (0, 384)])) aty_int (by decide) (j_ln hn rfl rfl) (jno_app hj (by decide) (by decide)) (fun i (hi : i < 45) => by omega) (jsb_of (by decide)) (jlb_of (by decide)) ⟨Nat.le_of_ble_eq_true rfl, Nat.le_of_ble_eq_true rfl⟩ dX6_init_16 (by rw [List.append_assoc]; rfl) ?_
  refine j_eqM (jz_r (a := 45) (b := 46) (c := 47) (by decide) (by decide)) ?_
  refine j_putr (t := 46) (kd := 56) (sh' := (sh ++ [.inr (6, [0, 0, 0, 55, 56]), .inl (0, 81), .inl (0, 384)])) f_X6_15 (fun _ => ⟨rfl, _, _, rfl⟩) (fun a => ⟨rfl, rfl⟩) (by decide) (j_at (n := 44) hn) rfl (by decide) dX6_init_18 (j_st (n := 44) hn) ?_
  refine j_nmM (fun M_0 eM_0 => ?_)
  have a_45 : jar (sh ++ [.inr (6, [0, 0, 0, 55, 56]), .inl (0, 81), .inl (0, 384)]) 45 0 81 := ⟨by decide, by decide, j_atk (k := 1) hn rfl rfl⟩
  have a_46 : jar (sh ++ [.inr (6, [0, 0, 0, 55, 56]), .inl (0, 81), .inl (0, 384)]) 46 0 384 := ⟨by decide, by decide, j_atk (k := 2) hn rfl rfl⟩
  have r_44_3 : jft (sh ++ [.inr (6, [0, 0, 0, 55, 56]), .inl (0, 81), .inl (0, 384)]) 44 6 3 45 := ⟨55, ⟨by decide, _, j_at (n := 44) hn, rfl⟩, by decide, by decide⟩
  have r_44_4 : jft (sh ++ [.inr (6, [0, 0, 0, 55, 56]), .inl (0, 81), .inl (0, 384)]) 44 6 4 46 := ⟨56, ⟨by decide, _, j_at (n := 44) hn, rfl⟩, by decide, by decide⟩
  refine j_iconst dX6_init_21 (by decide) ?_
  refine j_istore_n (ls' := [(0, jR 44), (1, jI 0)]) dX6_init_22 rfl (by decide) rfl ?_
  have lp23_101 : ∀ n23 : Nat, ∀ (v1 : Int), ∀ N23 : jM, (0 ≤ v1 ∧ v1 ≤ 9) ∧ (∀ k, N23 45 k = if 0 ≤ k ∧ k < 9 * v1 then rdV k else 0) ∧ (∀ c, c ≠ 45 → N23 c = M_0 c) → (9 - v1).toNat < n23 → jG D_X6_init X (fun i : Int => i < 45, (sh ++ [.inr (6, [0, 0, 0, 55, 56]), .inl (0, 81), .inl (0, 384)])) (sh ++ [.inr (6, [0, 0, 0, 55, 56]), .inl (0, 81), .inl (0, 384)]) 2 465 (jqV (fun N => (∀ k, N 45 k = if 0 ≤ k ∧ k < 81 then rdV k else 0) ∧ ∀ c, c ≠ 45 → N c = jzr M 45 47 c)) 23 [(0, jR 44), (1, jI v1)] ([]) N23 := by
    intro n23
    induction n23 with
    | zero => intro v1 N23 _ hz; exact absurd hz (Nat.not_lt_zero _)
    | succ n23 ih23 =>
      intro v1 N23 hinv hm
      obtain ⟨h1, ha, hc⟩ := hinv
      refine j_iload_n 1 dX6_init_23 rfl rfl ?_
      refine j_bipush dX6_init_24 (by decide) ?_
      refine j_icmp_ge (tgt := 71) dX6_init_26 (by decide) (fun c26_102 => ?_) (fun c26_102 => ?_)
      · skip
        refine j_vret rfl rfl rfl rfl dX6_init_71 ?_
        have e9 : v1 = 9 := by omega
        rw [e9] at ha
        exact ⟨ha, fun c a1 => by rw [hc c a1, eM_0]⟩
      · skip
        refine j_iconst dX6_init_29 (by decide) ?_
        refine j_istore_n (ls' := [(0, jR 44), (1, jI v1), (2, jI 0)]) dX6_init_30 rfl (by decide) rfl ?_
        have lp31_103 : ∀ n31 : Nat, ∀ (v2 : Int), ∀ N31 : jM, (0 ≤ v2 ∧ v2 ≤ 9) ∧ (∀ k, N31 45 k = if 0 ≤ k ∧ k < 9 * v1 + v2 then rdV k else 0) ∧ (∀ c, c ≠ 45 → N31 c = M_0 c) → (9 - v2).toNat < n31 → jG D_X6_init X (fun i : Int => i < 45, (sh ++ [.inr (6, [0, 0, 0, 55, 56]), .inl (0, 81), .inl (0, 384)])) (sh ++ [.inr (6, [0, 0, 0, 55, 56]), .inl (0, 81), .inl (0, 384)]) 2 465 (jqV (fun N => (∀ k, N 45 k = if 0 ≤ k ∧ k < 81 then rdV k else 0) ∧ ∀ c, c ≠ 45 → N c = jzr M 45 47 c)) 31 [(0, jR 44), (1, jI v1), (2, jI v2)] ([]) N31 := by
          intro n31
          induction n31 with
          | zero => intro v2 N31 _ hz; exact absurd hz (Nat.not_lt_zero _)
          | succ n31 ih31 =>
            intro v2 N31 hinv hm
            obtain ⟨h2, hb, hd⟩ := hinv
            refine j_iload_n 2 dX6_init_31 rfl rfl ?_
            refine j_bipush dX6_init_32 (by decide) ?_
            refine j_icmp_ge (tgt := 65) dX6_init_34 (by decide) (fun c34_104 => ?_) (fun c34_104 => ?_)
            · skip
              obtain ⟨v1_105, ev1_105⟩ : ∃ y : Int, y = v1 + 1 := ⟨_, rfl⟩
              refine j_iinc (y := v1_105) (ls' := [(0, jR 44), (1, jI v1_105), (2, jI v2)]) 1 dX6_init_65 rfl ev1_105 (by omega) (by decide) rfl ?_
              refine j_goto (tgt := 23) dX6_init_68 (by decide) ?_
              refine j_sub (ls' := [(0, jR 44), (1, jI v1_105)]) [0, 1] rfl ?_
              exact ih23 v1_105 N31 ⟨by omega, by have e9 : v2 = 9 := (by omega); rw [e9] at hb; intro k; rw [hb k]; by_cases hz_ : 0 ≤ k ∧ k < 9 * v1 + 9; (· rw [if_pos hz_, if_pos (by omega)]); (· rw [if_neg hz_, if_neg (by omega)]), by exact hd⟩ (by omega)
            · skip
              refine j_aload_n 0 dX6_init_37 rfl rfl ?_
              refine j_getr f_X6_9 r_44_3 dX6_init_38 ?_
              refine j_iload_n 1 dX6_init_41 rfl rfl ?_
              refine j_bipush dX6_init_42 (by decide) ?_
              refine j_imul dX6_init_44 (by omega) ?_
              refine j_iload_n 2 dX6_init_45 rfl rfl ?_
              refine j_iadd dX6_init_46 (by omega) ?_
              refine j_iload_n 1 dX6_init_47 rfl rfl ?_
              refine j_iload_n 2 dX6_init_48 rfl rfl ?_
              have hJ_106 : ∀ zz : Int, (¬ v1 = v2 ∧ zz = 10) ∨ (v1 = v2 ∧ zz = 0) → jG D_X6_init X (fun i : Int => i < 45, (sh ++ [.inr (6, [0, 0, 0, 55, 56]), .inl (0, 81), .inl (0, 384)])) (sh ++ [.inr (6, [0, 0, 0, 55, 56]), .inl (0, 81), .inl (0, 384)]) 2 465 (jqV (fun N => (∀ k, N 45 k = if 0 ≤ k ∧ k < 81 then rdV k else 0) ∧ ∀ c, c ≠ 45 → N c = jzr M 45 47 c)) 58 [(0, jR 44), (1, jI v1), (2, jI v2)] (jI zz :: jI ((v1 * 9) + v2) :: jR 45 :: []) N31 := by
                intro t_107 et_107
                refine j_iast a_45 dX6_init_58 (by omega) (by omega) ?_
                refine j_nmM (fun M_108 eM_108 => ?_)
                obtain ⟨v2_109, ev2_109⟩ : ∃ y : Int, y = v2 + 1 := ⟨_, rfl⟩
                refine j_iinc (y := v2_109) (ls' := [(0, jR 44), (1, jI v1), (2, jI v2_109)]) 2 dX6_init_59 rfl ev2_109 (by omega) (by decide) rfl ?_
                refine j_goto (tgt := 31) dX6_init_62 (by decide) ?_
                exact ih31 v2_109 M_108 ⟨by omega, by intro k; rw [eM_108, jup_at]; by_cases hk : k = v1 * 9 + v2; (· rw [if_pos hk, if_pos (by omega)]; by_cases hq : v1 = v2; (· rw [rdV_y hk (by omega) hq]; omega); (· rw [rdV_n hk (by omega) hq]; omega)); (· rw [if_neg hk, hb k]; by_cases hz_ : 0 ≤ k ∧ k < 9 * v1 + v2; (· rw [if_pos hz_, if_pos (by omega)]); (· rw [if_neg hz_, if_neg (by omega)])), by intro c a1; rw [eM_108, jup_cell a1]; exact hd c a1⟩ (by omega)
              refine j_icmp_ne (tgt := 56) dX6_init_49 (by decide) (fun c49_110 => ?_) (fun c49_110 => ?_)
              · skip
                refine j_bipush dX6_init_56 (by decide) ?_
                exact hJ_106 _ (Or.inl ⟨c49_110, rfl⟩)
              · skip
                refine j_iconst dX6_init_52 (by decide) ?_
                refine j_goto (tgt := 58) dX6_init_53 (by decide) ?_
                exact hJ_106 _ (Or.inr (⟨c49_110, rfl⟩))
        exact lp31_103 _ 0 N23 ⟨by omega, by intro k; rw [Int.add_zero]; exact ha k, by exact hc⟩ (Nat.lt_succ_self _)
  exact lp23_101 _ 0 M_0 ⟨by omega, by intro k; rw [if_neg (by omega), eM_0]; rfl, by intro c _; rfl⟩ (Nat.lt_succ_self _)
