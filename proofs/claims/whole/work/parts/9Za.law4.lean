/-! ===== the law: its loop, its start ===== -/
theorem jand_63 (x : Int) : jr (jand x 63) := jr_to _
set_option maxHeartbeats 4000000 in
set_option maxRecDepth 20000 in
theorem law_one {X : jX} {v : Int} {N : jM} (hv : 0 ≤ v ∧ v + 6 ≤ (X.1 : Int)) (hL : X.1 ≤ 3072) (I : ∃ f g Z, jIn f g Z N) (x : Int) (K : ∀ O, (∃ f g Z, jIn f g Z O) → jG D_L_law X FL shJ 111 13628 QL 1565 [(0, jR (-2)), (1, jR 0), (2, jR 74), (3, jI v)] [] O) : jG D_L_law X FL shJ 111 13628 QL 33 [(0, jR (-2)), (1, jR 0), (2, jR 74), (3, jI v)] [jI x] N := by
  rcases (show x = 0 ∨ x = 1 ∨ x = 2 ∨ x = 3 ∨ x = 4 ∨ x = 5 ∨ x = 6 ∨ x = 7 ∨ x = 8 ∨ x = 9 ∨ x = 10 ∨ x = 11 ∨ x = 12 ∨ x = 13 ∨ x = 14 ∨ x = 15 ∨ x = 16 ∨ x = 17 ∨ x = 18 ∨ x = 19 ∨ x = 20 ∨ x = 21 ∨ x = 22 ∨ x = 23 ∨ x = 24 ∨ x = 25 ∨ x = 26 ∨ x = 27 ∨ x = 28 ∨ x = 29 ∨ x = 30 ∨ x = 31 ∨ x = 32 ∨ x = 33 ∨ x = 34 ∨ x < 0 ∨ 34 < x from by omega) with s | s | s | s | s | s | s | s | s | s | s | s | s | s | s | s | s | s | s | s | s | s | s | s | s | s | s | s | s | s | s | s | s | s | s | s | s
  · exact j_tswIn (tgt := 188) 0 s dL_law_33 (by decide) (by decide) rfl (by decide) (law_mill hv hL I K)
  · exact j_tswIn (tgt := 231) 1 s dL_law_33 (by decide) (by decide) rfl (by decide) (law_hand hv hL I K)
  · exact j_tswIn (tgt := 264) 2 s dL_law_33 (by decide) (by decide) rfl (by decide) (law_custom hv hL I K)
  · exact j_tswIn (tgt := 297) 3 s dL_law_33 (by decide) (by decide) rfl (by decide) (law_paper hv hL I K)
  · exact j_tswIn (tgt := 350) 4 s dL_law_33 (by decide) (by decide) rfl (by decide) (law_born hv hL I K)
  · exact j_tswIn (tgt := 383) 5 s dL_law_33 (by decide) (by decide) rfl (by decide) (law_age hv hL I K)
  · exact j_tswIn (tgt := 426) 6 s dL_law_33 (by decide) (by decide) rfl (by decide) (law_type hv hL I K)
  · exact j_tswIn (tgt := 489) 7 s dL_law_33 (by decide) (by decide) rfl (by decide) (law_clear hv hL I K)
  · exact j_tswIn (tgt := 502) 8 s dL_law_33 (by decide) (by decide) rfl (by decide) (law_act hv hL I K)
  · exact j_tswIn (tgt := 515) 9 s dL_law_33 (by decide) (by decide) rfl (by decide) (law_binds hv hL I K)
  · exact j_tswIn (tgt := 568) 10 s dL_law_33 (by decide) (by decide) rfl (by decide) (law_duty hv hL I K)
  · exact j_tswIn (tgt := 631) 11 s dL_law_33 (by decide) (by decide) rfl (by decide) (law_why hv hL I K)
  · exact j_tswIn (tgt := 694) 12 s dL_law_33 (by decide) (by decide) rfl (by decide) (law_quarrel hv hL I K)
  · exact j_tswIn (tgt := 737) 13 s dL_law_33 (by decide) (by decide) rfl (by decide) (law_rule hv hL I K)
  · exact j_tswIn (tgt := 770) 14 s dL_law_33 (by decide) (by decide) rfl (by decide) (law_line hv hL I K)
  · exact j_tswIn (tgt := 833) 15 s dL_law_33 (by decide) (by decide) rfl (by decide) (law_check hv hL I K)
  · exact j_tswIn (tgt := 876) 16 s dL_law_33 (by decide) (by decide) rfl (by decide) (law_truth hv hL I K)
  · exact j_tswIn (tgt := 919) 17 s dL_law_33 (by decide) (by decide) rfl (by decide) (law_work hv hL I K)
  · exact j_tswIn (tgt := 962) 18 s dL_law_33 (by decide) (by decide) rfl (by decide) (law_breach hv hL I K)
  · exact j_tswIn (tgt := 1005) 19 s dL_law_33 (by decide) (by decide) rfl (by decide) (law_clash hv hL I K)
  · exact j_tswIn (tgt := 1038) 20 s dL_law_33 (by decide) (by decide) rfl (by decide) (law_doubted hv hL I K)
  · exact j_tswIn (tgt := 1081) 21 s dL_law_33 (by decide) (by decide) rfl (by decide) (law_period hv hL I K)
  · exact j_tswIn (tgt := 1124) 22 s dL_law_33 (by decide) (by decide) rfl (by decide) (law_can hv hL I K)
  · exact j_tswIn (tgt := 1187) 23 s dL_law_33 (by decide) (by decide) rfl (by decide) (law_lost hv hL I K)
  · exact j_tswIn (tgt := 1231) 24 s dL_law_33 (by decide) (by decide) rfl (by decide) (law_bench hv hL I K)
  · exact j_tswIn (tgt := 1254) 25 s dL_law_33 (by decide) (by decide) rfl (by decide) (law_base hv hL I K)
  · exact j_tswIn (tgt := 1287) 26 s dL_law_33 (by decide) (by decide) rfl (by decide) (law_sue hv hL I K)
  · exact j_tswIn (tgt := 1340) 27 s dL_law_33 (by decide) (by decide) rfl (by decide) (law_suit hv hL I K)
  · exact j_tswIn (tgt := 1373) 28 s dL_law_33 (by decide) (by decide) rfl (by decide) (law_appeal hv hL I K)
  · exact j_tswIn (tgt := 1396) 29 s dL_law_33 (by decide) (by decide) rfl (by decide) (law_fines hv hL I K)
  · exact j_tswIn (tgt := 1419) 30 s dL_law_33 (by decide) (by decide) rfl (by decide) (law_road hv hL I K)
  · exact j_tswIn (tgt := 1462) 31 s dL_law_33 (by decide) (by decide) rfl (by decide) (law_doubt hv hL I K)
  · exact j_tswIn (tgt := 1495) 32 s dL_law_33 (by decide) (by decide) rfl (by decide) (law_way hv hL I K)
  · exact j_tswIn (tgt := 1528) 33 s dL_law_33 (by decide) (by decide) rfl (by decide) (law_count hv hL I K)
  · exact j_tswIn (tgt := 1551) 34 s dL_law_33 (by decide) (by decide) rfl (by decide) (law_trace hv hL I K)
  · exact j_tswOut (tgt := 1565) dL_law_33 (Or.inl s) (by decide) (K N I)
  · exact j_tswOut (tgt := 1565) dL_law_33 (Or.inr s) (by decide) (K N I)
set_option maxHeartbeats 4000000 in
set_option maxRecDepth 20000 in
theorem law_loop {X : jX} (hL : X.1 ≤ 3072) : ∀ (n : Nat) (v : Int) (N : jM), (0 ≤ v ∧ v ≤ 3100) → (∃ f g Z, jIn f g Z N) → (3200 - v).toNat < n → jG D_L_law X FL shJ 111 13628 QL 18 [(0, jR (-2)), (1, jR 0), (2, jR 74), (3, jI v)] [] N := by
  intro n
  induction n with
  | zero => intro v N _ _ hz; exact absurd hz (Nat.not_lt_zero _)
  | succ n ih =>
    intro v N hv I hm
    refine j_iload_n 3 dL_law_18 rfl rfl ?_
    refine j_aload_n 0 dL_law_19 rfl rfl ?_
    refine j_slen (by omega) dL_law_20 ?_
    refine j_bipush dL_law_21 (by decide) ?_
    refine j_isub dL_law_23 (by omega) ?_
    refine j_icmp_gt (tgt := 1571) dL_law_24 (by decide) (fun q => ?_) (fun q => ?_)
    · refine j_iconst dL_law_1571 (by decide) ?_
      exact j_zret rfl rfl rfl rfl dL_law_1572 (Or.inr rfl) rfl
    · refine j_aload_n 0 dL_law_27 rfl rfl ?_
      refine j_iload_n 3 dL_law_28 rfl rfl ?_
      refine j_sld (i := v) ⟨by omega, by omega, by omega⟩ dL_law_29 ?_
      refine j_bipush dL_law_30 (by decide) ?_
      refine j_iand dL_law_32 ?_
      refine law_one (by omega) hL I _ (fun O IO => ?_)
      refine j_iinc 3 dL_law_1565 rfl rfl (by omega) (by decide) (show _ = [(0, jR (-2)), (1, jR 0), (2, jR 74), (3, jI (v + 6))] from rfl) ?_
      refine j_goto (tgt := 18) dL_law_1568 (by decide) ?_
      exact ih (v + 6) O (by omega) IO (by omega)
set_option maxHeartbeats 4000000 in
set_option maxRecDepth 20000 in
theorem law_all {X : jX} (hL : X.1 ≤ 3072) : jG D_L_law X FL [] 0 0 QL 0 [(0, jR (-2))] [] (fun _ _ => 0) := by
  refine j_new (n := 0) (kds := [5, 5, 5, 5, 5, 5, 5, 5, 5, 1]) (sh' := shX_0) k_X8 nw_L_7 rfl (by decide) rfl (fun s hs => absurd hs List.not_mem_nil) (fun i (hi : i < 0) => by omega) (jsb_of (by decide)) (jlb_of (by decide)) ⟨Nat.le_of_ble_eq_true rfl, Nat.le_of_ble_eq_true rfl⟩ dL_law_0 rfl ?_
  refine j_dup dL_law_3 rfl ?_
  refine j_callC' (P1 := fun i : Int => i < 1) (she := shX_27) (as := []) l_L_9 rfl ⟨Nat.le_of_ble_eq_true rfl, Nat.le_of_ble_eq_true rfl⟩ (c_X8_init _) dL_law_4 rfl rfl (Nat.le_of_ble_eq_true rfl) ⟨Nat.le_of_ble_eq_true rfl, Nat.le_of_ble_eq_true rfl⟩ (jpb_of (by decide)) (jpl_of (by decide)) (fun i hi => (by omega : i < 1)) (fun i (hi : i < 0) => (by omega : i < 1)) (fun r M1 h1 => ?_)
  obtain ⟨rfl, h1⟩ := h1
  show jG D_L_law X FL shX_27 74 5362 _ 7 [(0, jR (-2))] [jR 0] M1
  refine j_astore_n dL_law_7 rfl (by decide) (show _ = [(0, jR (-2)), (1, jR 0)] from rfl) ?_
  refine j_new (n := 74) (kds := [0, 1, 5, 0, 5, 5, 5, 5, 0, 5, 5, 5, 5, 5, 0, 0, 0, 0, 0, 0, 0, 0, 5, 5, 0, 5, 5, 0, 5, 5, 5, 5, 5, 5, 5, 5, 5, 5, 0, 5, 5, 0, 5, 5, 5, 5, 5, 5, 5, 5, 5, 5]) (sh' := shX_27 ++ [.inr (9, [0, 1, 5, 0, 5, 5, 5, 5, 0, 5, 5, 5, 5, 5, 0, 0, 0, 0, 0, 0, 0, 0, 5, 5, 0, 5, 5, 0, 5, 5, 5, 5, 5, 5, 5, 5, 5, 5, 0, 5, 5, 0, 5, 5, 5, 5, 5, 5, 5, 5, 5, 5])]) k_X9 nw_L_10 rfl (by decide) rfl (jno_app (sh := []) (n0 := 0) rfl (by decide) (show jnb 74 shX_27 = true by decide)) (fun i (hi : i < 0) => by omega) (jsb_of (by decide)) (jlb_of (by decide)) ⟨Nat.le_of_ble_eq_true rfl, Nat.le_of_ble_eq_true rfl⟩ dL_law_8 rfl ?_
  refine j_dup dL_law_11 rfl ?_
  refine j_callC' (P1 := fun i : Int => i < 75) (she := shY) (as := []) l_L_12 rfl ⟨Nat.le_of_ble_eq_true rfl, Nat.le_of_ble_eq_true rfl⟩ (c_X9_init _ shX_27 rfl (by decide)) dL_law_12 rfl rfl (Nat.le_of_ble_eq_true rfl) ⟨Nat.le_of_ble_eq_true rfl, Nat.le_of_ble_eq_true rfl⟩ (jpb_of (by decide)) (jpl_of (by decide)) (fun i hi => (by omega : i < 75)) (fun i (hi : i < 0) => (by omega : i < 75)) (fun r M2 h2 => ?_)
  obtain ⟨rfl, h2⟩ := h2
  show jG D_L_law X FL shY 111 13628 _ 15 [(0, jR (-2)), (1, jR 0)] [jR 74] M2
  refine j_astore_n dL_law_15 rfl (by decide) (show _ = [(0, jR (-2)), (1, jR 0), (2, jR 74)] from rfl) ?_
  refine j_cvY ?_
  refine j_iconst dL_law_16 (by decide) ?_
  refine j_istore_n dL_law_17 rfl (by decide) (show _ = [(0, jR (-2)), (1, jR 0), (2, jR 74), (3, jI 0)] from rfl) ?_
  refine law_loop hL 3201 0 _ (by omega) ⟨47, 59, (0, 0, pR0), ?_⟩ (by omega)
  obtain ⟨w5, w97, w98, w100, w106, wr⟩ := h2
  obtain ⟨a0, a1⟩ := h1
  have lo : ∀ c, c ≤ 73 → M2 c = M1 c := fun c hc => by
    rw [wr c (by omega) (by omega) (by omega) (by omega) (by omega), jzr_out (by omega), jz_ne (by omega)]
  refine jIn_0 (fun c k x y z => ?_) (fun k hk => ?_) ⟨jmv_7 _, jmv_8 _, ?_⟩ (fun k => ?_) (fun k x y => ?_) (fun k => ?_) (fun k => ?_) (fun k => ?_) (fun k => ?_) (fun c k x y z1 z2 z3 z4 => ?_)
  · rw [jmv_c (by omega) z, lo c (by omega)]; exact a1 c k x y
  · rw [jmv_71 hk, lo 71 (by decide)]; exact (a1 71 k (by decide) (by decide)).trans (z0_0 (by decide) (by decide) (by decide) (by decide))
  · rw [jmv_0 (by decide) (by decide), lo 0 (by decide), a0]; exact jz_at _ _ _
  · rw [jmv_c (by decide) (by decide), wr 74 (by decide) (by decide) (by decide) (by decide) (by decide), jzr_out (by omega)]; exact jz_at _ _ _
  · rw [jmv_c (by decide) (by decide)]; exact w5 k x y
  · rw [jmv_c (by decide) (by decide)]; exact w97 k
  · rw [jmv_c (by decide) (by decide)]; exact w98 k
  · rw [jmv_c (by decide) (by decide)]; exact w100 k
  · rw [jmv_c (by decide) (by decide)]; exact w106 k
  · rw [jmv_c (by omega) (by omega), wr c (by omega) z1 z2 z3 z4, jzr_in ⟨by omega, y⟩]
