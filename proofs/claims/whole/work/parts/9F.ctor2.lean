set_option maxHeartbeats 4000000 in
set_option maxRecDepth 20000 in
theorem c_X4_init {X : jX} (M : jM) (sh : List jS) (hn : sh.length = 1) (hj : jltb 1 sh = true) : jC yX4_init D_X4_init X (fun i : Int => i < 2, (sh ++ [.inr (4, [0, 12, 13, 14, 15, 16, 17, 18]), .inl (0, 6), .inl (0, 6), .inl (0, 6), .inl (0, 6), .inl (0, 6), .inl (0, 24), .inl (0, 24)])) (sh ++ [.inr (4, [0, 5, 5, 5, 5, 5, 5, 5])]) [jR 1] M (jqV (fun N => N = jzr M 2 9)) := by
  refine jC_of (by decide) rfl (fun ad => Nat.le_of_ble_eq_true rfl) (by decide) ?_
  show jG D_X4_init X (fun i : Int => i < 2, (sh ++ [.inr (4, [0, 12, 13, 14, 15, 16, 17, 18]), .inl (0, 6), .inl (0, 6), .inl (0, 6), .inl (0, 6), .inl (0, 6), .inl (0, 24), .inl (0, 24)])) (sh ++ [.inr (4, [0, 5, 5, 5, 5, 5, 5, 5])]) 0 0 _ 0 [(0, jR 1)] [] M
  refine j_eqM (jzr_0 M 2) ?_
  refine j_aload_n 0 dX4_init_0 rfl rfl ?_
  refine j_obj lo_X4 ⟨Nat.le_of_ble_eq_true rfl, Nat.le_of_ble_eq_true rfl⟩ dX4_init_1 ?_
  refine j_aload_n 0 dX4_init_4 rfl rfl ?_
  refine j_bipush dX4_init_5 (by decide) ?_
  refine j_newa (n := 2) (len := 6) (sh' := (sh ++ [.inr (4, [0, 5, 5, 5, 5, 5, 5, 5]), .inl (0, 6)])) aty_int (by decide) (j_ln hn rfl rfl) (jno_app hj (by decide) (by decide)) (fun i (hi : i < 2) => by omega) (jsb_of (by decide)) (jlb_of (by decide)) ⟨Nat.le_of_ble_eq_true rfl, Nat.le_of_ble_eq_true rfl⟩ dX4_init_7 (by rw [List.append_assoc]; rfl) ?_
  refine j_eqM (jz_r (a := 2) (b := 2) (c := 3) (by decide) (by decide)) ?_
  refine j_putr (t := 2) (kd := 12) (sh' := (sh ++ [.inr (4, [0, 12, 5, 5, 5, 5, 5, 5]), .inl (0, 6)])) f_X4_11 (fun _ => ⟨rfl, _, _, rfl⟩) (fun a => ⟨rfl, rfl⟩) (by decide) (j_at (n := 1) hn) rfl (by decide) dX4_init_9 (j_st (n := 1) hn) ?_
  refine j_aload_n 0 dX4_init_12 rfl rfl ?_
  refine j_bipush dX4_init_13 (by decide) ?_
  refine j_newa (n := 3) (len := 6) (sh' := (sh ++ [.inr (4, [0, 12, 5, 5, 5, 5, 5, 5]), .inl (0, 6), .inl (0, 6)])) aty_int (by decide) (j_ln hn rfl rfl) (jno_app hj (by decide) (by decide)) (fun i (hi : i < 2) => by omega) (jsb_of (by decide)) (jlb_of (by decide)) ⟨Nat.le_of_ble_eq_true rfl, Nat.le_of_ble_eq_true rfl⟩ dX4_init_15 (by rw [List.append_assoc]; rfl) ?_
  refine j_eqM (jz_r (a := 2) (b := 3) (c := 4) (by decide) (by decide)) ?_
  refine j_putr (t := 3) (kd := 13) (sh' := (sh ++ [.inr (4, [0, 12, 13, 5, 5, 5, 5, 5]), .inl (0, 6), .inl (0, 6)])) f_X4_15 (fun _ => ⟨rfl, _, _, rfl⟩) (fun a => ⟨rfl, rfl⟩) (by decide) (j_at (n := 1) hn) rfl (by decide) dX4_init_17 (j_st (n := 1) hn) ?_
  refine j_aload_n 0 dX4_init_20 rfl rfl ?_
  refine j_bipush dX4_init_21 (by decide) ?_
  refine j_newa (n := 4) (len := 6) (sh' := (sh ++ [.inr (4, [0, 12, 13, 5, 5, 5, 5, 5]), .inl (0, 6), .inl (0, 6), .inl (0, 6)])) aty_int (by decide) (j_ln hn rfl rfl) (jno_app hj (by decide) (by decide)) (fun i (hi : i < 2) => by omega) (jsb_of (by decide)) (jlb_of (by decide)) ⟨Nat.le_of_ble_eq_true rfl, Nat.le_of_ble_eq_true rfl⟩ dX4_init_23 (by rw [List.append_assoc]; rfl) ?_
  refine j_eqM (jz_r (a := 2) (b := 4) (c := 5) (by decide) (by decide)) ?_
  refine j_putr (t := 4) (kd := 14) (sh' := (sh ++ [.inr (4, [0, 12, 13, 14, 5, 5, 5, 5]), .inl (0, 6), .inl (0, 6), .inl (0, 6)])) f_X4_18 (fun _ => ⟨rfl, _, _, rfl⟩) (fun a => ⟨rfl, rfl⟩) (by decide) (j_at (n := 1) hn) rfl (by decide) dX4_init_25 (j_st (n := 1) hn) ?_
  refine j_aload_n 0 dX4_init_28 rfl rfl ?_
  refine j_bipush dX4_init_29 (by decide) ?_
  refine j_newa (n := 5) (len := 6) (sh' := (sh ++ [.inr (4, [0, 12, 13, 14, 5, 5, 5, 5]), .inl (0, 6), .inl (0, 6), .inl (0, 6), .inl (0, 6)])) aty_int (by decide) (j_ln hn rfl rfl) (jno_app hj (by decide) (by decide)) (fun i (hi : i < 2) => by omega) (jsb_of (by decide)) (jlb_of (by decide)) ⟨Nat.le_of_ble_eq_true rfl, Nat.le_of_ble_eq_true rfl⟩ dX4_init_31 (by rw [List.append_assoc]; rfl) ?_
  refine j_eqM (jz_r (a := 2) (b := 5) (c := 6) (by decide) (by decide)) ?_
  refine j_putr (t := 5) (kd := 15) (sh' := (sh ++ [.inr (4, [0, 12, 13, 14, 15, 5, 5, 5]), .inl (0, 6), .inl (0, 6), .inl (0, 6), .inl (0, 6)])) f_X4_21 (fun _ => ⟨rfl, _, _, rfl⟩) (fun a => ⟨rfl, rfl⟩) (by decide) (j_at (n := 1) hn) rfl (by decide) dX4_init_33 (j_st (n := 1) hn) ?_
  refine j_aload_n 0 dX4_init_36 rfl rfl ?_
  refine j_bipush dX4_init_37 (by decide) ?_
  refine j_newa (n := 6) (len := 6) (sh' := (sh ++ [.inr (4, [0, 12, 13, 14, 15, 5, 5, 5]), .inl (0, 6), .inl (0, 6), .inl (0, 6), .inl (0, 6), .inl (0, 6)])) aty_int (by decide) (j_ln hn rfl rfl) (jno_app hj (by decide) (by decide)) (fun i (hi : i < 2) => by omega) (jsb_of (by decide)) (jlb_of (by decide)) ⟨Nat.le_of_ble_eq_true rfl, Nat.le_of_ble_eq_true rfl⟩ dX4_init_39 (by rw [List.append_assoc]; rfl) ?_
  refine j_eqM (jz_r (a := 2) (b := 6) (c := 7) (by decide) (by decide)) ?_
  refine j_putr (t := 6) (kd := 16) (sh' := (sh ++ [.inr (4, [0, 12, 13, 14, 15, 16, 5, 5]), .inl (0, 6), .inl (0, 6), .inl (0, 6), .inl (0, 6), .inl (0, 6)])) f_X4_24 (fun _ => ⟨rfl, _, _, rfl⟩) (fun a => ⟨rfl, rfl⟩) (by decide) (j_at (n := 1) hn) rfl (by decide) dX4_init_41 (j_st (n := 1) hn) ?_
  refine j_aload_n 0 dX4_init_44 rfl rfl ?_
  refine j_bipush dX4_init_45 (by decide) ?_
  refine j_newa (n := 7) (len := 24) (sh' := (sh ++ [.inr (4, [0, 12, 13, 14, 15, 16, 5, 5]), .inl (0, 6), .inl (0, 6), .inl (0, 6), .inl (0, 6), .inl (0, 6), .inl (0, 24)])) aty_int (by decide) (j_ln hn rfl rfl) (jno_app hj (by decide) (by decide)) (fun i (hi : i < 2) => by omega) (jsb_of (by decide)) (jlb_of (by decide)) ⟨Nat.le_of_ble_eq_true rfl, Nat.le_of_ble_eq_true rfl⟩ dX4_init_47 (by rw [List.append_assoc]; rfl) ?_
  refine j_eqM (jz_r (a := 2) (b := 7) (c := 8) (by decide) (by decide)) ?_
  refine j_putr (t := 7) (kd := 17) (sh' := (sh ++ [.inr (4, [0, 12, 13, 14, 15, 16, 17, 5]), .inl (0, 6), .inl (0, 6), .inl (0, 6), .inl (0, 6), .inl (0, 6), .inl (0, 24)])) f_X4_27 (fun _ => ⟨rfl, _, _, rfl⟩) (fun a => ⟨rfl, rfl⟩) (by decide) (j_at (n := 1) hn) rfl (by decide) dX4_init_49 (j_st (n := 1) hn) ?_
  refine j_aload_n 0 dX4_init_52 rfl rfl ?_
  refine j_bipush dX4_init_53 (by decide) ?_
  refine j_newa (n := 8) (len := 24) (sh' := (sh ++ [.inr (4, [0, 12, 13, 14, 15, 16, 17, 5]), .inl (0, 6), .inl (0, 6), .inl (0, 6), .inl (0, 6), .inl (0, 6), .inl (0, 24), .inl (0, 24)])) aty_int (by decide) (j_ln hn rfl rfl) (jno_app hj (by decide) (by decide)) (fun i (hi : i < 2) => by omega) (jsb_of (by decide)) (jlb_of (by decide)) ⟨Nat.le_of_ble_eq_true rfl, Nat.le_of_ble_eq_true rfl⟩ dX4_init_55 (by rw [List.append_assoc]; rfl) ?_
  refine j_eqM (jz_r (a := 2) (b := 8) (c := 9) (by decide) (by decide)) ?_
  refine j_putr (t := 8) (kd := 18) (sh' := (sh ++ [.inr (4, [0, 12, 13, 14, 15, 16, 17, 18]), .inl (0, 6), .inl (0, 6), .inl (0, 6), .inl (0, 6), .inl (0, 6), .inl (0, 24), .inl (0, 24)])) f_X4_30 (fun _ => ⟨rfl, _, _, rfl⟩) (fun a => ⟨rfl, rfl⟩) (by decide) (j_at (n := 1) hn) rfl (by decide) dX4_init_57 (j_st (n := 1) hn) ?_
  refine j_vret rfl rfl rfl rfl dX4_init_60 ?_
  rfl
set_option maxHeartbeats 4000000 in
set_option maxRecDepth 20000 in
theorem c_X3_init {X : jX} (M : jM) (sh : List jS) (hn : sh.length = 9) (hj : jltb 9 sh = true) : jC yX3_init D_X3_init X (fun i : Int => i < 10, (sh ++ [.inr (3, [0, 20, 21, 22, 23, 24, 25]), .inl (0, 24), .inl (0, 24), .inl (0, 24), .inl (0, 24), .inl (4, 24), .inl (0, 24)])) (sh ++ [.inr (3, [0, 5, 5, 5, 5, 5, 5])]) [jR 9] M (jqV (fun N => N = jzr M 10 16)) := by
  refine jC_of (by decide) rfl (fun ad => Nat.le_of_ble_eq_true rfl) (by decide) ?_
  show jG D_X3_init X (fun i : Int => i < 10, (sh ++ [.inr (3, [0, 20, 21, 22, 23, 24, 25]), .inl (0, 24), .inl (0, 24), .inl (0, 24), .inl (0, 24), .inl (4, 24), .inl (0, 24)])) (sh ++ [.inr (3, [0, 5, 5, 5, 5, 5, 5])]) 0 0 _ 0 [(0, jR 9)] [] M
  refine j_eqM (jzr_0 M 10) ?_
  refine j_aload_n 0 dX3_init_0 rfl rfl ?_
  refine j_obj lo_X3 ⟨Nat.le_of_ble_eq_true rfl, Nat.le_of_ble_eq_true rfl⟩ dX3_init_1 ?_
  refine j_aload_n 0 dX3_init_4 rfl rfl ?_
  refine j_bipush dX3_init_5 (by decide) ?_
  refine j_newa (n := 10) (len := 24) (sh' := (sh ++ [.inr (3, [0, 5, 5, 5, 5, 5, 5]), .inl (0, 24)])) aty_int (by decide) (j_ln hn rfl rfl) (jno_app hj (by decide) (by decide)) (fun i (hi : i < 10) => by omega) (jsb_of (by decide)) (jlb_of (by decide)) ⟨Nat.le_of_ble_eq_true rfl, Nat.le_of_ble_eq_true rfl⟩ dX3_init_7 (by rw [List.append_assoc]; rfl) ?_
  refine j_eqM (jz_r (a := 10) (b := 10) (c := 11) (by decide) (by decide)) ?_
  refine j_putr (t := 10) (kd := 20) (sh' := (sh ++ [.inr (3, [0, 20, 5, 5, 5, 5, 5]), .inl (0, 24)])) f_X3_11 (fun _ => ⟨rfl, _, _, rfl⟩) (fun a => ⟨rfl, rfl⟩) (by decide) (j_at (n := 9) hn) rfl (by decide) dX3_init_9 (j_st (n := 9) hn) ?_
  refine j_aload_n 0 dX3_init_12 rfl rfl ?_
  refine j_bipush dX3_init_13 (by decide) ?_
  refine j_newa (n := 11) (len := 24) (sh' := (sh ++ [.inr (3, [0, 20, 5, 5, 5, 5, 5]), .inl (0, 24), .inl (0, 24)])) aty_int (by decide) (j_ln hn rfl rfl) (jno_app hj (by decide) (by decide)) (fun i (hi : i < 10) => by omega) (jsb_of (by decide)) (jlb_of (by decide)) ⟨Nat.le_of_ble_eq_true rfl, Nat.le_of_ble_eq_true rfl⟩ dX3_init_15 (by rw [List.append_assoc]; rfl) ?_
  refine j_eqM (jz_r (a := 10) (b := 11) (c := 12) (by decide) (by decide)) ?_
  refine j_putr (t := 11) (kd := 21) (sh' := (sh ++ [.inr (3, [0, 20, 21, 5, 5, 5, 5]), .inl (0, 24), .inl (0, 24)])) f_X3_15 (fun _ => ⟨rfl, _, _, rfl⟩) (fun a => ⟨rfl, rfl⟩) (by decide) (j_at (n := 9) hn) rfl (by decide) dX3_init_17 (j_st (n := 9) hn) ?_
  refine j_aload_n 0 dX3_init_20 rfl rfl ?_
  refine j_bipush dX3_init_21 (by decide) ?_
  refine j_newa (n := 12) (len := 24) (sh' := (sh ++ [.inr (3, [0, 20, 21, 5, 5, 5, 5]), .inl (0, 24), .inl (0, 24), .inl (0, 24)])) aty_int (by decide) (j_ln hn rfl rfl) (jno_app hj (by decide) (by decide)) (fun i (hi : i < 10) => by omega) (jsb_of (by decide)) (jlb_of (by decide)) ⟨Nat.le_of_ble_eq_true rfl, Nat.le_of_ble_eq_true rfl⟩ dX3_init_23 (by rw [List.append_assoc]; rfl) ?_
  refine j_eqM (jz_r (a := 10) (b := 12) (c := 13) (by decide) (by decide)) ?_
  refine j_putr (t := 12) (kd := 22) (sh' := (sh ++ [.inr (3, [0, 20, 21, 22, 5, 5, 5]), .inl (0, 24), .inl (0, 24), .inl (0, 24)])) f_X3_18 (fun _ => ⟨rfl, _, _, rfl⟩) (fun a => ⟨rfl, rfl⟩) (by decide) (j_at (n := 9) hn) rfl (by decide) dX3_init_25 (j_st (n := 9) hn) ?_
  refine j_aload_n 0 dX3_init_28 rfl rfl ?_
  refine j_bipush dX3_init_29 (by decide) ?_
  refine j_newa (n := 13) (len := 24) (sh' := (sh ++ [.inr (3, [0, 20, 21, 22, 5, 5, 5]), .inl (0, 24), .inl (0, 24), .inl (0, 24), .inl (0, 24)])) aty_int (by decide) (j_ln hn rfl rfl) (jno_app hj (by decide) (by decide)) (fun i (hi : i < 10) => by omega) (jsb_of (by decide)) (jlb_of (by decide)) ⟨Nat.le_of_ble_eq_true rfl, Nat.le_of_ble_eq_true rfl⟩ dX3_init_31 (by rw [List.append_assoc]; rfl) ?_
  refine j_eqM (jz_r (a := 10) (b := 13) (c := 14) (by decide) (by decide)) ?_
  refine j_putr (t := 13) (kd := 23) (sh' := (sh ++ [.inr (3, [0, 20, 21, 22, 23, 5, 5]), .inl (0, 24), .inl (0, 24), .inl (0, 24), .inl (0, 24)])) f_X3_21 (fun _ => ⟨rfl, _, _, rfl⟩) (fun a => ⟨rfl, rfl⟩) (by decide) (j_at (n := 9) hn) rfl (by decide) dX3_init_33 (j_st (n := 9) hn) ?_
  refine j_aload_n 0 dX3_init_36 rfl rfl ?_
  refine j_bipush dX3_init_37 (by decide) ?_
  refine j_newa (n := 14) (len := 24) (sh' := (sh ++ [.inr (3, [0, 20, 21, 22, 23, 5, 5]), .inl (0, 24), .inl (0, 24), .inl (0, 24), .inl (0, 24), .inl (4, 24)])) aty_boolean (by decide) (j_ln hn rfl rfl) (jno_app hj (by decide) (by decide)) (fun i (hi : i < 10) => by omega) (jsb_of (by decide)) (jlb_of (by decide)) ⟨Nat.le_of_ble_eq_true rfl, Nat.le_of_ble_eq_true rfl⟩ dX3_init_39 (by rw [List.append_assoc]; rfl) ?_
  refine j_eqM (jz_r (a := 10) (b := 14) (c := 15) (by decide) (by decide)) ?_
  refine j_putr (t := 14) (kd := 24) (sh' := (sh ++ [.inr (3, [0, 20, 21, 22, 23, 24, 5]), .inl (0, 24), .inl (0, 24), .inl (0, 24), .inl (0, 24), .inl (4, 24)])) f_X3_24 (fun _ => ⟨rfl, _, _, rfl⟩) (fun a => ⟨rfl, rfl⟩) (by decide) (j_at (n := 9) hn) rfl (by decide) dX3_init_41 (j_st (n := 9) hn) ?_
  refine j_aload_n 0 dX3_init_44 rfl rfl ?_
  refine j_bipush dX3_init_45 (by decide) ?_
  refine j_newa (n := 15) (len := 24) (sh' := (sh ++ [.inr (3, [0, 20, 21, 22, 23, 24, 5]), .inl (0, 24), .inl (0, 24), .inl (0, 24), .inl (0, 24), .inl (4, 24), .inl (0, 24)])) aty_int (by decide) (j_ln hn rfl rfl) (jno_app hj (by decide) (by decide)) (fun i (hi : i < 10) => by omega) (jsb_of (by decide)) (jlb_of (by decide)) ⟨Nat.le_of_ble_eq_true rfl, Nat.le_of_ble_eq_true rfl⟩ dX3_init_47 (by rw [List.append_assoc]; rfl) ?_
  refine j_eqM (jz_r (a := 10) (b := 15) (c := 16) (by decide) (by decide)) ?_
  refine j_putr (t := 15) (kd := 25) (sh' := (sh ++ [.inr (3, [0, 20, 21, 22, 23, 24, 25]), .inl (0, 24), .inl (0, 24), .inl (0, 24), .inl (0, 24), .inl (4, 24), .inl (0, 24)])) f_X3_28 (fun _ => ⟨rfl, _, _, rfl⟩) (fun a => ⟨rfl, rfl⟩) (by decide) (j_at (n := 9) hn) rfl (by decide) dX3_init_49 (j_st (n := 9) hn) ?_
  refine j_vret rfl rfl rfl rfl dX3_init_52 ?_
  rfl
set_option maxHeartbeats 4000000 in
set_option maxRecDepth 20000 in
theorem c_X1_init {X : jX} (M : jM) (sh : List jS) (hn : sh.length = 16) (hj : jltb 16 sh = true) : jC yX1_init D_X1_init X (fun i : Int => i < 17, (sh ++ [.inr (1, [0, 27, 28, 29, 30, 31, 0, 32, 33, 34, 35, 36, 37, 11]), .inl (0, 60), .inl (0, 60), .inl (0, 60), .inl (0, 60), .inl (0, 60), .inl (0, 60), .inl (0, 60), .inl (0, 60), .inl (0, 60), .inl (0, 60), .inl (0, 12)])) (sh ++ [.inr (1, [0, 5, 5, 5, 5, 5, 0, 5, 5, 5, 5, 5, 5, 5])]) [jR 16, jR 1] M (jqV (fun N => N = jzr M 17 28)) := by
  refine jC_of (by decide) rfl (fun ad => Nat.le_of_ble_eq_true rfl) (by decide) ?_
  show jG D_X1_init X (fun i : Int => i < 17, (sh ++ [.inr (1, [0, 27, 28, 29, 30, 31, 0, 32, 33, 34, 35, 36, 37, 11]), .inl (0, 60), .inl (0, 60), .inl (0, 60), .inl (0, 60), .inl (0, 60), .inl (0, 60), .inl (0, 60), .inl (0, 60), .inl (0, 60), .inl (0, 60), .inl (0, 12)])) (sh ++ [.inr (1, [0, 5, 5, 5, 5, 5, 0, 5, 5, 5, 5, 5, 5, 5])]) 0 0 _ 0 [(0, jR 16), (1, jR 1)] [] M
  refine j_eqM (jzr_0 M 17) ?_
  refine j_aload_n 0 dX1_init_0 rfl rfl ?_
  refine j_obj lo_X1 ⟨Nat.le_of_ble_eq_true rfl, Nat.le_of_ble_eq_true rfl⟩ dX1_init_1 ?_
  refine j_aload_n 0 dX1_init_4 rfl rfl ?_
  refine j_bipush dX1_init_5 (by decide) ?_
  refine j_newa (n := 17) (len := 60) (sh' := (sh ++ [.inr (1, [0, 5, 5, 5, 5, 5, 0, 5, 5, 5, 5, 5, 5, 5]), .inl (0, 60)])) aty_int (by decide) (j_ln hn rfl rfl) (jno_app hj (by decide) (by decide)) (fun i (hi : i < 17) => by omega) (jsb_of (by decide)) (jlb_of (by decide)) ⟨Nat.le_of_ble_eq_true rfl, Nat.le_of_ble_eq_true rfl⟩ dX1_init_7 (by rw [List.append_assoc]; rfl) ?_
  refine j_eqM (jz_r (a := 17) (b := 17) (c := 18) (by decide) (by decide)) ?_
  refine j_putr (t := 17) (kd := 27) (sh' := (sh ++ [.inr (1, [0, 27, 5, 5, 5, 5, 0, 5, 5, 5, 5, 5, 5, 5]), .inl (0, 60)])) f_X1_11 (fun _ => ⟨rfl, _, _, rfl⟩) (fun a => ⟨rfl, rfl⟩) (by decide) (j_at (n := 16) hn) rfl (by decide) dX1_init_9 (j_st (n := 16) hn) ?_
  refine j_aload_n 0 dX1_init_12 rfl rfl ?_
  refine j_bipush dX1_init_13 (by decide) ?_
  refine j_newa (n := 18) (len := 60) (sh' := (sh ++ [.inr (1, [0, 27, 5, 5, 5, 5, 0, 5, 5, 5, 5, 5, 5, 5]), .inl (0, 60), .inl (0, 60)])) aty_int (by decide) (j_ln hn rfl rfl) (jno_app hj (by decide) (by decide)) (fun i (hi : i < 17) => by omega) (jsb_of (by decide)) (jlb_of (by decide)) ⟨Nat.le_of_ble_eq_true rfl, Nat.le_of_ble_eq_true rfl⟩ dX1_init_15 (by rw [List.append_assoc]; rfl) ?_
  refine j_eqM (jz_r (a := 17) (b := 18) (c := 19) (by decide) (by decide)) ?_
  refine j_putr (t := 18) (kd := 28) (sh' := (sh ++ [.inr (1, [0, 27, 28, 5, 5, 5, 0, 5, 5, 5, 5, 5, 5, 5]), .inl (0, 60), .inl (0, 60)])) f_X1_15 (fun _ => ⟨rfl, _, _, rfl⟩) (fun a => ⟨rfl, rfl⟩) (by decide) (j_at (n := 16) hn) rfl (by decide) dX1_init_17 (j_st (n := 16) hn) ?_
  refine j_aload_n 0 dX1_init_20 rfl rfl ?_
  refine j_bipush dX1_init_21 (by decide) ?_
  refine j_newa (n := 19) (len := 60) (sh' := (sh ++ [.inr (1, [0, 27, 28, 5, 5, 5, 0, 5, 5, 5, 5, 5, 5, 5]), .inl (0, 60), .inl (0, 60), .inl (0, 60)])) aty_int (by decide) (j_ln hn rfl rfl) (jno_app hj (by decide) (by decide)) (fun i (hi : i < 17) => by omega) (jsb_of (by decide)) (jlb_of (by decide)) ⟨Nat.le_of_ble_eq_true rfl, Nat.le_of_ble_eq_true rfl⟩ dX1_init_23 (by rw [List.append_assoc]; rfl) ?_
  refine j_eqM (jz_r (a := 17) (b := 19) (c := 20) (by decide) (by decide)) ?_
  refine j_putr (t := 19) (kd := 29) (sh' := (sh ++ [.inr (1, [0, 27, 28, 29, 5, 5, 0, 5, 5, 5, 5, 5, 5, 5]), .inl (0, 60), .inl (0, 60), .inl (0, 60)])) f_X1_18 (fun _ => ⟨rfl, _, _, rfl⟩) (fun a => ⟨rfl, rfl⟩) (by decide) (j_at (n := 16) hn) rfl (by decide) dX1_init_25 (j_st (n := 16) hn) ?_
  refine j_aload_n 0 dX1_init_28 rfl rfl ?_
  refine j_bipush dX1_init_29 (by decide) ?_
  refine j_newa (n := 20) (len := 60) (sh' := (sh ++ [.inr (1, [0, 27, 28, 29, 5, 5, 0, 5, 5, 5, 5, 5, 5, 5]), .inl (0, 60), .inl (0, 60), .inl (0, 60), .inl (0, 60)])) aty_int (by decide) (j_ln hn rfl rfl) (jno_app hj (by decide) (by decide)) (fun i (hi : i < 17) => by omega) (jsb_of (by decide)) (jlb_of (by decide)) ⟨Nat.le_of_ble_eq_true rfl, Nat.le_of_ble_eq_true rfl⟩ dX1_init_31 (by rw [List.append_assoc]; rfl) ?_
  refine j_eqM (jz_r (a := 17) (b := 20) (c := 21) (by decide) (by decide)) ?_
  refine j_putr (t := 20) (kd := 30) (sh' := (sh ++ [.inr (1, [0, 27, 28, 29, 30, 5, 0, 5, 5, 5, 5, 5, 5, 5]), .inl (0, 60), .inl (0, 60), .inl (0, 60), .inl (0, 60)])) f_X1_21 (fun _ => ⟨rfl, _, _, rfl⟩) (fun a => ⟨rfl, rfl⟩) (by decide) (j_at (n := 16) hn) rfl (by decide) dX1_init_33 (j_st (n := 16) hn) ?_
  refine j_aload_n 0 dX1_init_36 rfl rfl ?_
  refine j_bipush dX1_init_37 (by decide) ?_
  refine j_newa (n := 21) (len := 60) (sh' := (sh ++ [.inr (1, [0, 27, 28, 29, 30, 5, 0, 5, 5, 5, 5, 5, 5, 5]), .inl (0, 60), .inl (0, 60), .inl (0, 60), .inl (0, 60), .inl (0, 60)])) aty_int (by decide) (j_ln hn rfl rfl) (jno_app hj (by decide) (by decide)) (fun i (hi : i < 17) => by omega) (jsb_of (by decide)) (jlb_of (by decide)) ⟨Nat.le_of_ble_eq_true rfl, Nat.le_of_ble_eq_true rfl⟩ dX1_init_39 (by rw [List.append_assoc]; rfl) ?_
  refine j_eqM (jz_r (a := 17) (b := 21) (c := 22) (by decide) (by decide)) ?_
  refine j_putr (t := 21) (kd := 31) (sh' := (sh ++ [.inr (1, [0, 27, 28, 29, 30, 31, 0, 5, 5, 5, 5, 5, 5, 5]), .inl (0, 60), .inl (0, 60), .inl (0, 60), .inl (0, 60), .inl (0, 60)])) f_X1_24 (fun _ => ⟨rfl, _, _, rfl⟩) (fun a => ⟨rfl, rfl⟩) (by decide) (j_at (n := 16) hn) rfl (by decide) dX1_init_41 (j_st (n := 16) hn) ?_
  refine j_aload_n 0 dX1_init_44 rfl rfl ?_
  refine j_bipush dX1_init_45 (by decide) ?_
  refine j_newa (n := 22) (len := 60) (sh' := (sh ++ [.inr (1, [0, 27, 28, 29, 30, 31, 0, 5, 5, 5, 5, 5, 5, 5]), .inl (0, 60), .inl (0, 60), .inl (0, 60), .inl (0, 60), .inl (0, 60), .inl (0, 60)])) aty_int (by decide) (j_ln hn rfl rfl) (jno_app hj (by decide) (by decide)) (fun i (hi : i < 17) => by omega) (jsb_of (by decide)) (jlb_of (by decide)) ⟨Nat.le_of_ble_eq_true rfl, Nat.le_of_ble_eq_true rfl⟩ dX1_init_47 (by rw [List.append_assoc]; rfl) ?_
  refine j_eqM (jz_r (a := 17) (b := 22) (c := 23) (by decide) (by decide)) ?_
  refine j_putr (t := 22) (kd := 32) (sh' := (sh ++ [.inr (1, [0, 27, 28, 29, 30, 31, 0, 32, 5, 5, 5, 5, 5, 5]), .inl (0, 60), .inl (0, 60), .inl (0, 60), .inl (0, 60), .inl (0, 60), .inl (0, 60)])) f_X1_27 (fun _ => ⟨rfl, _, _, rfl⟩) (fun a => ⟨rfl, rfl⟩) (by decide) (j_at (n := 16) hn) rfl (by decide) dX1_init_49 (j_st (n := 16) hn) ?_
  refine j_aload_n 0 dX1_init_52 rfl rfl ?_
  refine j_bipush dX1_init_53 (by decide) ?_
  refine j_newa (n := 23) (len := 60) (sh' := (sh ++ [.inr (1, [0, 27, 28, 29, 30, 31, 0, 32, 5, 5, 5, 5, 5, 5]), .inl (0, 60), .inl (0, 60), .inl (0, 60), .inl (0, 60), .inl (0, 60), .inl (0, 60), .inl (0, 60)])) aty_int (by decide) (j_ln hn rfl rfl) (jno_app hj (by decide) (by decide)) (fun i (hi : i < 17) => by omega) (jsb_of (by decide)) (jlb_of (by decide)) ⟨Nat.le_of_ble_eq_true rfl, Nat.le_of_ble_eq_true rfl⟩ dX1_init_55 (by rw [List.append_assoc]; rfl) ?_
  refine j_eqM (jz_r (a := 17) (b := 23) (c := 24) (by decide) (by decide)) ?_
  refine j_putr (t := 23) (kd := 33) (sh' := (sh ++ [.inr (1, [0, 27, 28, 29, 30, 31, 0, 32, 33, 5, 5, 5, 5, 5]), .inl (0, 60), .inl (0, 60), .inl (0, 60), .inl (0, 60), .inl (0, 60), .inl (0, 60), .inl (0, 60)])) f_X1_30 (fun _ => ⟨rfl, _, _, rfl⟩) (fun a => ⟨rfl, rfl⟩) (by decide) (j_at (n := 16) hn) rfl (by decide) dX1_init_57 (j_st (n := 16) hn) ?_
  refine j_aload_n 0 dX1_init_60 rfl rfl ?_
  refine j_bipush dX1_init_61 (by decide) ?_
  refine j_newa (n := 24) (len := 60) (sh' := (sh ++ [.inr (1, [0, 27, 28, 29, 30, 31, 0, 32, 33, 5, 5, 5, 5, 5]), .inl (0, 60), .inl (0, 60), .inl (0, 60), .inl (0, 60), .inl (0, 60), .inl (0, 60), .inl (0, 60), .inl (0, 60)])) aty_int (by decide) (j_ln hn rfl rfl) (jno_app hj (by decide) (by decide)) (fun i (hi : i < 17) => by omega) (jsb_of (by decide)) (jlb_of (by decide)) ⟨Nat.le_of_ble_eq_true rfl, Nat.le_of_ble_eq_true rfl⟩ dX1_init_63 (by rw [List.append_assoc]; rfl) ?_
  refine j_eqM (jz_r (a := 17) (b := 24) (c := 25) (by decide) (by decide)) ?_
  refine j_putr (t := 24) (kd := 34) (sh' := (sh ++ [.inr (1, [0, 27, 28, 29, 30, 31, 0, 32, 33, 34, 5, 5, 5, 5]), .inl (0, 60), .inl (0, 60), .inl (0, 60), .inl (0, 60), .inl (0, 60), .inl (0, 60), .inl (0, 60), .inl (0, 60)])) f_X1_33 (fun _ => ⟨rfl, _, _, rfl⟩) (fun a => ⟨rfl, rfl⟩) (by decide) (j_at (n := 16) hn) rfl (by decide) dX1_init_65 (j_st (n := 16) hn) ?_
  refine j_aload_n 0 dX1_init_68 rfl rfl ?_
  refine j_bipush dX1_init_69 (by decide) ?_
  refine j_newa (n := 25) (len := 60) (sh' := (sh ++ [.inr (1, [0, 27, 28, 29, 30, 31, 0, 32, 33, 34, 5, 5, 5, 5]), .inl (0, 60), .inl (0, 60), .inl (0, 60), .inl (0, 60), .inl (0, 60), .inl (0, 60), .inl (0, 60), .inl (0, 60), .inl (0, 60)])) aty_int (by decide) (j_ln hn rfl rfl) (jno_app hj (by decide) (by decide)) (fun i (hi : i < 17) => by omega) (jsb_of (by decide)) (jlb_of (by decide)) ⟨Nat.le_of_ble_eq_true rfl, Nat.le_of_ble_eq_true rfl⟩ dX1_init_71 (by rw [List.append_assoc]; rfl) ?_
  refine j_eqM (jz_r (a := 17) (b := 25) (c := 26) (by decide) (by decide)) ?_
  refine j_putr (t := 25) (kd := 35) (sh' := (sh ++ [.inr (1, [0, 27, 28, 29, 30, 31, 0, 32, 33, 34, 35, 5, 5, 5]), .inl (0, 60), .inl (0, 60), .inl (0, 60), .inl (0, 60), .inl (0, 60), .inl (0, 60), .inl (0, 60), .inl (0, 60), .inl (0, 60)])) f_X1_36 (fun _ => ⟨rfl, _, _, rfl⟩) (fun a => ⟨rfl, rfl⟩) (by decide) (j_at (n := 16) hn) rfl (by decide) dX1_init_73 (j_st (n := 16) hn) ?_
  refine j_aload_n 0 dX1_init_76 rfl rfl ?_
  refine j_bipush dX1_init_77 (by decide) ?_
  refine j_newa (n := 26) (len := 60) (sh' := (sh ++ [.inr (1, [0, 27, 28, 29, 30, 31, 0, 32, 33, 34, 35, 5, 5, 5]), .inl (0, 60), .inl (0, 60), .inl (0, 60), .inl (0, 60), .inl (0, 60), .inl (0, 60), .inl (0, 60), .inl (0, 60), .inl (0, 60), .inl (0, 60)])) aty_int (by decide) (j_ln hn rfl rfl) (jno_app hj (by decide) (by decide)) (fun i (hi : i < 17) => by omega) (jsb_of (by decide)) (jlb_of (by decide)) ⟨Nat.le_of_ble_eq_true rfl, Nat.le_of_ble_eq_true rfl⟩ dX1_init_79 (by rw [List.append_assoc]; rfl) ?_
  refine j_eqM (jz_r (a := 17) (b := 26) (c := 27) (by decide) (by decide)) ?_
  refine j_putr (t := 26) (kd := 36) (sh' := (sh ++ [.inr (1, [0, 27, 28, 29, 30, 31, 0, 32, 33, 34, 35, 36, 5, 5]), .inl (0, 60), .inl (0, 60), .inl (0, 60), .inl (0, 60), .inl (0, 60), .inl (0, 60), .inl (0, 60), .inl (0, 60), .inl (0, 60), .inl (0, 60)])) f_X1_39 (fun _ => ⟨rfl, _, _, rfl⟩) (fun a => ⟨rfl, rfl⟩) (by decide) (j_at (n := 16) hn) rfl (by decide) dX1_init_81 (j_st (n := 16) hn) ?_
  refine j_aload_n 0 dX1_init_84 rfl rfl ?_
  refine j_bipush dX1_init_85 (by decide) ?_
  refine j_newa (n := 27) (len := 12) (sh' := (sh ++ [.inr (1, [0, 27, 28, 29, 30, 31, 0, 32, 33, 34, 35, 36, 5, 5]), .inl (0, 60), .inl (0, 60), .inl (0, 60), .inl (0, 60), .inl (0, 60), .inl (0, 60), .inl (0, 60), .inl (0, 60), .inl (0, 60), .inl (0, 60), .inl (0, 12)])) aty_int (by decide) (j_ln hn rfl rfl) (jno_app hj (by decide) (by decide)) (fun i (hi : i < 17) => by omega) (jsb_of (by decide)) (jlb_of (by decide)) ⟨Nat.le_of_ble_eq_true rfl, Nat.le_of_ble_eq_true rfl⟩ dX1_init_87 (by rw [List.append_assoc]; rfl) ?_
  refine j_eqM (jz_r (a := 17) (b := 27) (c := 28) (by decide) (by decide)) ?_
  refine j_putr (t := 27) (kd := 37) (sh' := (sh ++ [.inr (1, [0, 27, 28, 29, 30, 31, 0, 32, 33, 34, 35, 36, 37, 5]), .inl (0, 60), .inl (0, 60), .inl (0, 60), .inl (0, 60), .inl (0, 60), .inl (0, 60), .inl (0, 60), .inl (0, 60), .inl (0, 60), .inl (0, 60), .inl (0, 12)])) f_X1_42 (fun _ => ⟨rfl, _, _, rfl⟩) (fun a => ⟨rfl, rfl⟩) (by decide) (j_at (n := 16) hn) rfl (by decide) dX1_init_89 (j_st (n := 16) hn) ?_
  refine j_aload_n 0 dX1_init_92 rfl rfl ?_
  refine j_aload_n 1 dX1_init_93 rfl rfl ?_
  refine j_putr (t := 1) (kd := 11) (sh' := (sh ++ [.inr (1, [0, 27, 28, 29, 30, 31, 0, 32, 33, 34, 35, 36, 37, 11]), .inl (0, 60), .inl (0, 60), .inl (0, 60), .inl (0, 60), .inl (0, 60), .inl (0, 60), .inl (0, 60), .inl (0, 60), .inl (0, 60), .inl (0, 60), .inl (0, 12)])) f_X1_45 (fun _ => ⟨rfl, _, _, rfl⟩) (fun a => ⟨rfl, rfl⟩) (by decide) (j_at (n := 16) hn) rfl (by decide) dX1_init_94 (j_st (n := 16) hn) ?_
  refine j_vret rfl rfl rfl rfl dX1_init_97 ?_
  rfl
set_option maxHeartbeats 4000000 in
set_option maxRecDepth 20000 in
theorem c_X0_init_47 {X : jX} (M : jM) (sh : List jS) (hn : sh.length = 47) (hj : jltb 47 sh = true) : jC yX0_init D_X0_init X (fun i : Int => i < 48, (sh ++ [.inr (0, [0, 58, 59, 60, 61, 62, 63, 64, 65, 0, 66, 67, 68, 0, 19, 11]), .inl (0, 16), .inl (0, 16), .inl (0, 16), .inl (0, 16), .inl (0, 16), .inl (0, 112), .inl (0, 16), .inl (0, 16), .inl (0, 900), .inl (0, 64), .inl (0, 16)])) (sh ++ [.inr (0, [0, 5, 5, 5, 5, 5, 5, 5, 5, 0, 5, 5, 5, 0, 5, 5])]) [jR 47, jR 9, jR 1] M (jqV (fun N => N = jzr M 48 59)) := by
  refine jC_of (by decide) rfl (fun ad => Nat.le_of_ble_eq_true rfl) (by decide) ?_
  show jG D_X0_init X (fun i : Int => i < 48, (sh ++ [.inr (0, [0, 58, 59, 60, 61, 62, 63, 64, 65, 0, 66, 67, 68, 0, 19, 11]), .inl (0, 16), .inl (0, 16), .inl (0, 16), .inl (0, 16), .inl (0, 16), .inl (0, 112), .inl (0, 16), .inl (0, 16), .inl (0, 900), .inl (0, 64), .inl (0, 16)])) (sh ++ [.inr (0, [0, 5, 5, 5, 5, 5, 5, 5, 5, 0, 5, 5, 5, 0, 5, 5])]) 0 0 _ 0 [(0, jR 47), (1, jR 9), (2, jR 1)] [] M
  refine j_eqM (jzr_0 M 48) ?_
  refine j_aload_n 0 dX0_init_0 rfl rfl ?_
  refine j_obj lo_X0 ⟨Nat.le_of_ble_eq_true rfl, Nat.le_of_ble_eq_true rfl⟩ dX0_init_1 ?_
  refine j_aload_n 0 dX0_init_4 rfl rfl ?_
  refine j_bipush dX0_init_5 (by decide) ?_
  refine j_newa (n := 48) (len := 16) (sh' := (sh ++ [.inr (0, [0, 5, 5, 5, 5, 5, 5, 5, 5, 0, 5, 5, 5, 0, 5, 5]), .inl (0, 16)])) aty_int (by decide) (j_ln hn rfl rfl) (jno_app hj (by decide) (by decide)) (fun i (hi : i < 48) => by omega) (jsb_of (by decide)) (jlb_of (by decide)) ⟨Nat.le_of_ble_eq_true rfl, Nat.le_of_ble_eq_true rfl⟩ dX0_init_7 (by rw [List.append_assoc]; rfl) ?_
  refine j_eqM (jz_r (a := 48) (b := 48) (c := 49) (by decide) (by decide)) ?_
  refine j_putr (t := 48) (kd := 58) (sh' := (sh ++ [.inr (0, [0, 58, 5, 5, 5, 5, 5, 5, 5, 0, 5, 5, 5, 0, 5, 5]), .inl (0, 16)])) f_X0_11 (fun _ => ⟨rfl, _, _, rfl⟩) (fun a => ⟨rfl, rfl⟩) (by decide) (j_at (n := 47) hn) rfl (by decide) dX0_init_9 (j_st (n := 47) hn) ?_
  refine j_aload_n 0 dX0_init_12 rfl rfl ?_
  refine j_bipush dX0_init_13 (by decide) ?_
  refine j_newa (n := 49) (len := 16) (sh' := (sh ++ [.inr (0, [0, 58, 5, 5, 5, 5, 5, 5, 5, 0, 5, 5, 5, 0, 5, 5]), .inl (0, 16), .inl (0, 16)])) aty_int (by decide) (j_ln hn rfl rfl) (jno_app hj (by decide) (by decide)) (fun i (hi : i < 48) => by omega) (jsb_of (by decide)) (jlb_of (by decide)) ⟨Nat.le_of_ble_eq_true rfl, Nat.le_of_ble_eq_true rfl⟩ dX0_init_15 (by rw [List.append_assoc]; rfl) ?_
  refine j_eqM (jz_r (a := 48) (b := 49) (c := 50) (by decide) (by decide)) ?_
  refine j_putr (t := 49) (kd := 59) (sh' := (sh ++ [.inr (0, [0, 58, 59, 5, 5, 5, 5, 5, 5, 0, 5, 5, 5, 0, 5, 5]), .inl (0, 16), .inl (0, 16)])) f_X0_15 (fun _ => ⟨rfl, _, _, rfl⟩) (fun a => ⟨rfl, rfl⟩) (by decide) (j_at (n := 47) hn) rfl (by decide) dX0_init_17 (j_st (n := 47) hn) ?_
  refine j_aload_n 0 dX0_init_20 rfl rfl ?_
  refine j_bipush dX0_init_21 (by decide) ?_
  refine j_newa (n := 50) (len := 16) (sh' := (sh ++ [.inr (0, [0, 58, 59, 5, 5, 5, 5, 5, 5, 0, 5, 5, 5, 0, 5, 5]), .inl (0, 16), .inl (0, 16), .inl (0, 16)])) aty_int (by decide) (j_ln hn rfl rfl) (jno_app hj (by decide) (by decide)) (fun i (hi : i < 48) => by omega) (jsb_of (by decide)) (jlb_of (by decide)) ⟨Nat.le_of_ble_eq_true rfl, Nat.le_of_ble_eq_true rfl⟩ dX0_init_23 (by rw [List.append_assoc]; rfl) ?_
  refine j_eqM (jz_r (a := 48) (b := 50) (c := 51) (by decide) (by decide)) ?_
  refine j_putr (t := 50) (kd := 60) (sh' := (sh ++ [.inr (0, [0, 58, 59, 60, 5, 5, 5, 5, 5, 0, 5, 5, 5, 0, 5, 5]), .inl (0, 16), .inl (0, 16), .inl (0, 16)])) f_X0_18 (fun _ => ⟨rfl, _, _, rfl⟩) (fun a => ⟨rfl, rfl⟩) (by decide) (j_at (n := 47) hn) rfl (by decide) dX0_init_25 (j_st (n := 47) hn) ?_
  refine j_aload_n 0 dX0_init_28 rfl rfl ?_
  refine j_bipush dX0_init_29 (by decide) ?_
  refine j_newa (n := 51) (len := 16) (sh' := (sh ++ [.inr (0, [0, 58, 59, 60, 5, 5, 5, 5, 5, 0, 5, 5, 5, 0, 5, 5]), .inl (0, 16), .inl (0, 16), .inl (0, 16), .inl (0, 16)])) aty_int (by decide) (j_ln hn rfl rfl) (jno_app hj (by decide) (by decide)) (fun i (hi : i < 48) => by omega) (jsb_of (by decide)) (jlb_of (by decide)) ⟨Nat.le_of_ble_eq_true rfl, Nat.le_of_ble_eq_true rfl⟩ dX0_init_31 (by rw [List.append_assoc]; rfl) ?_
  refine j_eqM (jz_r (a := 48) (b := 51) (c := 52) (by decide) (by decide)) ?_
  refine j_putr (t := 51) (kd := 61) (sh' := (sh ++ [.inr (0, [0, 58, 59, 60, 61, 5, 5, 5, 5, 0, 5, 5, 5, 0, 5, 5]), .inl (0, 16), .inl (0, 16), .inl (0, 16), .inl (0, 16)])) f_X0_21 (fun _ => ⟨rfl, _, _, rfl⟩) (fun a => ⟨rfl, rfl⟩) (by decide) (j_at (n := 47) hn) rfl (by decide) dX0_init_33 (j_st (n := 47) hn) ?_
  refine j_aload_n 0 dX0_init_36 rfl rfl ?_
  refine j_bipush dX0_init_37 (by decide) ?_
  refine j_newa (n := 52) (len := 16) (sh' := (sh ++ [.inr (0, [0, 58, 59, 60, 61, 5, 5, 5, 5, 0, 5, 5, 5, 0, 5, 5]), .inl (0, 16), .inl (0, 16), .inl (0, 16), .inl (0, 16), .inl (0, 16)])) aty_int (by decide) (j_ln hn rfl rfl) (jno_app hj (by decide) (by decide)) (fun i (hi : i < 48) => by omega) (jsb_of (by decide)) (jlb_of (by decide)) ⟨Nat.le_of_ble_eq_true rfl, Nat.le_of_ble_eq_true rfl⟩ dX0_init_39 (by rw [List.append_assoc]; rfl) ?_
  refine j_eqM (jz_r (a := 48) (b := 52) (c := 53) (by decide) (by decide)) ?_
  refine j_putr (t := 52) (kd := 62) (sh' := (sh ++ [.inr (0, [0, 58, 59, 60, 61, 62, 5, 5, 5, 0, 5, 5, 5, 0, 5, 5]), .inl (0, 16), .inl (0, 16), .inl (0, 16), .inl (0, 16), .inl (0, 16)])) f_X0_24 (fun _ => ⟨rfl, _, _, rfl⟩) (fun a => ⟨rfl, rfl⟩) (by decide) (j_at (n := 47) hn) rfl (by decide) dX0_init_41 (j_st (n := 47) hn) ?_
  refine j_aload_n 0 dX0_init_44 rfl rfl ?_
  refine j_bipush dX0_init_45 (by decide) ?_
  refine j_newa (n := 53) (len := 112) (sh' := (sh ++ [.inr (0, [0, 58, 59, 60, 61, 62, 5, 5, 5, 0, 5, 5, 5, 0, 5, 5]), .inl (0, 16), .inl (0, 16), .inl (0, 16), .inl (0, 16), .inl (0, 16), .inl (0, 112)])) aty_int (by decide) (j_ln hn rfl rfl) (jno_app hj (by decide) (by decide)) (fun i (hi : i < 48) => by omega) (jsb_of (by decide)) (jlb_of (by decide)) ⟨Nat.le_of_ble_eq_true rfl, Nat.le_of_ble_eq_true rfl⟩ dX0_init_47 (by rw [List.append_assoc]; rfl) ?_
  refine j_eqM (jz_r (a := 48) (b := 53) (c := 54) (by decide) (by decide)) ?_
  refine j_putr (t := 53) (kd := 63) (sh' := (sh ++ [.inr (0, [0, 58, 59, 60, 61, 62, 63, 5, 5, 0, 5, 5, 5, 0, 5, 5]), .inl (0, 16), .inl (0, 16), .inl (0, 16), .inl (0, 16), .inl (0, 16), .inl (0, 112)])) f_X0_27 (fun _ => ⟨rfl, _, _, rfl⟩) (fun a => ⟨rfl, rfl⟩) (by decide) (j_at (n := 47) hn) rfl (by decide) dX0_init_49 (j_st (n := 47) hn) ?_
  refine j_aload_n 0 dX0_init_52 rfl rfl ?_
  refine j_bipush dX0_init_53 (by decide) ?_
  refine j_newa (n := 54) (len := 16) (sh' := (sh ++ [.inr (0, [0, 58, 59, 60, 61, 62, 63, 5, 5, 0, 5, 5, 5, 0, 5, 5]), .inl (0, 16), .inl (0, 16), .inl (0, 16), .inl (0, 16), .inl (0, 16), .inl (0, 112), .inl (0, 16)])) aty_int (by decide) (j_ln hn rfl rfl) (jno_app hj (by decide) (by decide)) (fun i (hi : i < 48) => by omega) (jsb_of (by decide)) (jlb_of (by decide)) ⟨Nat.le_of_ble_eq_true rfl, Nat.le_of_ble_eq_true rfl⟩ dX0_init_55 (by rw [List.append_assoc]; rfl) ?_
  refine j_eqM (jz_r (a := 48) (b := 54) (c := 55) (by decide) (by decide)) ?_
  refine j_putr (t := 54) (kd := 64) (sh' := (sh ++ [.inr (0, [0, 58, 59, 60, 61, 62, 63, 64, 5, 0, 5, 5, 5, 0, 5, 5]), .inl (0, 16), .inl (0, 16), .inl (0, 16), .inl (0, 16), .inl (0, 16), .inl (0, 112), .inl (0, 16)])) f_X0_30 (fun _ => ⟨rfl, _, _, rfl⟩) (fun a => ⟨rfl, rfl⟩) (by decide) (j_at (n := 47) hn) rfl (by decide) dX0_init_57 (j_st (n := 47) hn) ?_
  refine j_aload_n 0 dX0_init_60 rfl rfl ?_
  refine j_bipush dX0_init_61 (by decide) ?_
  refine j_newa (n := 55) (len := 16) (sh' := (sh ++ [.inr (0, [0, 58, 59, 60, 61, 62, 63, 64, 5, 0, 5, 5, 5, 0, 5, 5]), .inl (0, 16), .inl (0, 16), .inl (0, 16), .inl (0, 16), .inl (0, 16), .inl (0, 112), .inl (0, 16), .inl (0, 16)])) aty_int (by decide) (j_ln hn rfl rfl) (jno_app hj (by decide) (by decide)) (fun i (hi : i < 48) => by omega) (jsb_of (by decide)) (jlb_of (by decide)) ⟨Nat.le_of_ble_eq_true rfl, Nat.le_of_ble_eq_true rfl⟩ dX0_init_63 (by rw [List.append_assoc]; rfl) ?_
  refine j_eqM (jz_r (a := 48) (b := 55) (c := 56) (by decide) (by decide)) ?_
  refine j_putr (t := 55) (kd := 65) (sh' := (sh ++ [.inr (0, [0, 58, 59, 60, 61, 62, 63, 64, 65, 0, 5, 5, 5, 0, 5, 5]), .inl (0, 16), .inl (0, 16), .inl (0, 16), .inl (0, 16), .inl (0, 16), .inl (0, 112), .inl (0, 16), .inl (0, 16)])) f_X0_33 (fun _ => ⟨rfl, _, _, rfl⟩) (fun a => ⟨rfl, rfl⟩) (by decide) (j_at (n := 47) hn) rfl (by decide) dX0_init_65 (j_st (n := 47) hn) ?_
  refine j_aload_n 0 dX0_init_68 rfl rfl ?_
  refine j_sipush dX0_init_69 (by decide) ?_
  refine j_newa (n := 56) (len := 900) (sh' := (sh ++ [.inr (0, [0, 58, 59, 60, 61, 62, 63, 64, 65, 0, 5, 5, 5, 0, 5, 5]), .inl (0, 16), .inl (0, 16), .inl (0, 16), .inl (0, 16), .inl (0, 16), .inl (0, 112), .inl (0, 16), .inl (0, 16), .inl (0, 900)])) aty_int (by decide) (j_ln hn rfl rfl) (jno_app hj (by decide) (by decide)) (fun i (hi : i < 48) => by omega) (jsb_of (by decide)) (jlb_of (by decide)) ⟨Nat.le_of_ble_eq_true rfl, Nat.le_of_ble_eq_true rfl⟩ dX0_init_72 (by rw [List.append_assoc]; rfl) ?_
  refine j_eqM (jz_r (a := 48) (b := 56) (c := 57) (by decide) (by decide)) ?_
  refine j_putr (t := 56) (kd := 66) (sh' := (sh ++ [.inr (0, [0, 58, 59, 60, 61, 62, 63, 64, 65, 0, 66, 5, 5, 0, 5, 5]), .inl (0, 16), .inl (0, 16), .inl (0, 16), .inl (0, 16), .inl (0, 16), .inl (0, 112), .inl (0, 16), .inl (0, 16), .inl (0, 900)])) f_X0_36 (fun _ => ⟨rfl, _, _, rfl⟩) (fun a => ⟨rfl, rfl⟩) (by decide) (j_at (n := 47) hn) rfl (by decide) dX0_init_74 (j_st (n := 47) hn) ?_
  refine j_aload_n 0 dX0_init_77 rfl rfl ?_
  refine j_bipush dX0_init_78 (by decide) ?_
  refine j_newa (n := 57) (len := 64) (sh' := (sh ++ [.inr (0, [0, 58, 59, 60, 61, 62, 63, 64, 65, 0, 66, 5, 5, 0, 5, 5]), .inl (0, 16), .inl (0, 16), .inl (0, 16), .inl (0, 16), .inl (0, 16), .inl (0, 112), .inl (0, 16), .inl (0, 16), .inl (0, 900), .inl (0, 64)])) aty_int (by decide) (j_ln hn rfl rfl) (jno_app hj (by decide) (by decide)) (fun i (hi : i < 48) => by omega) (jsb_of (by decide)) (jlb_of (by decide)) ⟨Nat.le_of_ble_eq_true rfl, Nat.le_of_ble_eq_true rfl⟩ dX0_init_80 (by rw [List.append_assoc]; rfl) ?_
  refine j_eqM (jz_r (a := 48) (b := 57) (c := 58) (by decide) (by decide)) ?_
  refine j_putr (t := 57) (kd := 67) (sh' := (sh ++ [.inr (0, [0, 58, 59, 60, 61, 62, 63, 64, 65, 0, 66, 67, 5, 0, 5, 5]), .inl (0, 16), .inl (0, 16), .inl (0, 16), .inl (0, 16), .inl (0, 16), .inl (0, 112), .inl (0, 16), .inl (0, 16), .inl (0, 900), .inl (0, 64)])) f_X0_39 (fun _ => ⟨rfl, _, _, rfl⟩) (fun a => ⟨rfl, rfl⟩) (by decide) (j_at (n := 47) hn) rfl (by decide) dX0_init_82 (j_st (n := 47) hn) ?_
  refine j_aload_n 0 dX0_init_85 rfl rfl ?_
  refine j_bipush dX0_init_86 (by decide) ?_
  refine j_newa (n := 58) (len := 16) (sh' := (sh ++ [.inr (0, [0, 58, 59, 60, 61, 62, 63, 64, 65, 0, 66, 67, 5, 0, 5, 5]), .inl (0, 16), .inl (0, 16), .inl (0, 16), .inl (0, 16), .inl (0, 16), .inl (0, 112), .inl (0, 16), .inl (0, 16), .inl (0, 900), .inl (0, 64), .inl (0, 16)])) aty_int (by decide) (j_ln hn rfl rfl) (jno_app hj (by decide) (by decide)) (fun i (hi : i < 48) => by omega) (jsb_of (by decide)) (jlb_of (by decide)) ⟨Nat.le_of_ble_eq_true rfl, Nat.le_of_ble_eq_true rfl⟩ dX0_init_88 (by rw [List.append_assoc]; rfl) ?_
  refine j_eqM (jz_r (a := 48) (b := 58) (c := 59) (by decide) (by decide)) ?_
  refine j_putr (t := 58) (kd := 68) (sh' := (sh ++ [.inr (0, [0, 58, 59, 60, 61, 62, 63, 64, 65, 0, 66, 67, 68, 0, 5, 5]), .inl (0, 16), .inl (0, 16), .inl (0, 16), .inl (0, 16), .inl (0, 16), .inl (0, 112), .inl (0, 16), .inl (0, 16), .inl (0, 900), .inl (0, 64), .inl (0, 16)])) f_X0_42 (fun _ => ⟨rfl, _, _, rfl⟩) (fun a => ⟨rfl, rfl⟩) (by decide) (j_at (n := 47) hn) rfl (by decide) dX0_init_90 (j_st (n := 47) hn) ?_
  refine j_aload_n 0 dX0_init_93 rfl rfl ?_
  refine j_aload_n 1 dX0_init_94 rfl rfl ?_
  refine j_putr (t := 9) (kd := 19) (sh' := (sh ++ [.inr (0, [0, 58, 59, 60, 61, 62, 63, 64, 65, 0, 66, 67, 68, 0, 19, 5]), .inl (0, 16), .inl (0, 16), .inl (0, 16), .inl (0, 16), .inl (0, 16), .inl (0, 112), .inl (0, 16), .inl (0, 16), .inl (0, 900), .inl (0, 64), .inl (0, 16)])) f_X0_45 (fun _ => ⟨rfl, _, _, rfl⟩) (fun a => ⟨rfl, rfl⟩) (by decide) (j_at (n := 47) hn) rfl (by decide) dX0_init_95 (j_st (n := 47) hn) ?_
  refine j_aload_n 0 dX0_init_98 rfl rfl ?_
  refine j_aload_n 2 dX0_init_99 rfl rfl ?_
  refine j_putr (t := 1) (kd := 11) (sh' := (sh ++ [.inr (0, [0, 58, 59, 60, 61, 62, 63, 64, 65, 0, 66, 67, 68, 0, 19, 11]), .inl (0, 16), .inl (0, 16), .inl (0, 16), .inl (0, 16), .inl (0, 16), .inl (0, 112), .inl (0, 16), .inl (0, 16), .inl (0, 900), .inl (0, 64), .inl (0, 16)])) f_X0_49 (fun _ => ⟨rfl, _, _, rfl⟩) (fun a => ⟨rfl, rfl⟩) (by decide) (j_at (n := 47) hn) rfl (by decide) dX0_init_100 (j_st (n := 47) hn) ?_
  refine j_vret rfl rfl rfl rfl dX0_init_103 ?_
  rfl
set_option maxHeartbeats 4000000 in
set_option maxRecDepth 20000 in
theorem c_X0_init_59 {X : jX} (M : jM) (sh : List jS) (hn : sh.length = 59) (hj : jltb 59 sh = true) : jC yX0_init D_X0_init X (fun i : Int => i < 60, (sh ++ [.inr (0, [0, 70, 71, 72, 73, 74, 75, 76, 77, 0, 78, 79, 80, 0, 19, 11]), .inl (0, 16), .inl (0, 16), .inl (0, 16), .inl (0, 16), .inl (0, 16), .inl (0, 112), .inl (0, 16), .inl (0, 16), .inl (0, 900), .inl (0, 64), .inl (0, 16)])) (sh ++ [.inr (0, [0, 5, 5, 5, 5, 5, 5, 5, 5, 0, 5, 5, 5, 0, 5, 5])]) [jR 59, jR 9, jR 1] M (jqV (fun N => N = jzr M 60 71)) := by
  refine jC_of (by decide) rfl (fun ad => Nat.le_of_ble_eq_true rfl) (by decide) ?_
  show jG D_X0_init X (fun i : Int => i < 60, (sh ++ [.inr (0, [0, 70, 71, 72, 73, 74, 75, 76, 77, 0, 78, 79, 80, 0, 19, 11]), .inl (0, 16), .inl (0, 16), .inl (0, 16), .inl (0, 16), .inl (0, 16), .inl (0, 112), .inl (0, 16), .inl (0, 16), .inl (0, 900), .inl (0, 64), .inl (0, 16)])) (sh ++ [.inr (0, [0, 5, 5, 5, 5, 5, 5, 5, 5, 0, 5, 5, 5, 0, 5, 5])]) 0 0 _ 0 [(0, jR 59), (1, jR 9), (2, jR 1)] [] M
  refine j_eqM (jzr_0 M 60) ?_
  refine j_aload_n 0 dX0_init_0 rfl rfl ?_
  refine j_obj lo_X0 ⟨Nat.le_of_ble_eq_true rfl, Nat.le_of_ble_eq_true rfl⟩ dX0_init_1 ?_
  refine j_aload_n 0 dX0_init_4 rfl rfl ?_
  refine j_bipush dX0_init_5 (by decide) ?_
  refine j_newa (n := 60) (len := 16) (sh' := (sh ++ [.inr (0, [0, 5, 5, 5, 5, 5, 5, 5, 5, 0, 5, 5, 5, 0, 5, 5]), .inl (0, 16)])) aty_int (by decide) (j_ln hn rfl rfl) (jno_app hj (by decide) (by decide)) (fun i (hi : i < 60) => by omega) (jsb_of (by decide)) (jlb_of (by decide)) ⟨Nat.le_of_ble_eq_true rfl, Nat.le_of_ble_eq_true rfl⟩ dX0_init_7 (by rw [List.append_assoc]; rfl) ?_
  refine j_eqM (jz_r (a := 60) (b := 60) (c := 61) (by decide) (by decide)) ?_
  refine j_putr (t := 60) (kd := 70) (sh' := (sh ++ [.inr (0, [0, 70, 5, 5, 5, 5, 5, 5, 5, 0, 5, 5, 5, 0, 5, 5]), .inl (0, 16)])) f_X0_11 (fun _ => ⟨rfl, _, _, rfl⟩) (fun a => ⟨rfl, rfl⟩) (by decide) (j_at (n := 59) hn) rfl (by decide) dX0_init_9 (j_st (n := 59) hn) ?_
  refine j_aload_n 0 dX0_init_12 rfl rfl ?_
  refine j_bipush dX0_init_13 (by decide) ?_
  refine j_newa (n := 61) (len := 16) (sh' := (sh ++ [.inr (0, [0, 70, 5, 5, 5, 5, 5, 5, 5, 0, 5, 5, 5, 0, 5, 5]), .inl (0, 16), .inl (0, 16)])) aty_int (by decide) (j_ln hn rfl rfl) (jno_app hj (by decide) (by decide)) (fun i (hi : i < 60) => by omega) (jsb_of (by decide)) (jlb_of (by decide)) ⟨Nat.le_of_ble_eq_true rfl, Nat.le_of_ble_eq_true rfl⟩ dX0_init_15 (by rw [List.append_assoc]; rfl) ?_
  refine j_eqM (jz_r (a := 60) (b := 61) (c := 62) (by decide) (by decide)) ?_
  refine j_putr (t := 61) (kd := 71) (sh' := (sh ++ [.inr (0, [0, 70, 71, 5, 5, 5, 5, 5, 5, 0, 5, 5, 5, 0, 5, 5]), .inl (0, 16), .inl (0, 16)])) f_X0_15 (fun _ => ⟨rfl, _, _, rfl⟩) (fun a => ⟨rfl, rfl⟩) (by decide) (j_at (n := 59) hn) rfl (by decide) dX0_init_17 (j_st (n := 59) hn) ?_
  refine j_aload_n 0 dX0_init_20 rfl rfl ?_
  refine j_bipush dX0_init_21 (by decide) ?_
  refine j_newa (n := 62) (len := 16) (sh' := (sh ++ [.inr (0, [0, 70, 71, 5, 5, 5, 5, 5, 5, 0, 5, 5, 5, 0, 5, 5]), .inl (0, 16), .inl (0, 16), .inl (0, 16)])) aty_int (by decide) (j_ln hn rfl rfl) (jno_app hj (by decide) (by decide)) (fun i (hi : i < 60) => by omega) (jsb_of (by decide)) (jlb_of (by decide)) ⟨Nat.le_of_ble_eq_true rfl, Nat.le_of_ble_eq_true rfl⟩ dX0_init_23 (by rw [List.append_assoc]; rfl) ?_
  refine j_eqM (jz_r (a := 60) (b := 62) (c := 63) (by decide) (by decide)) ?_
  refine j_putr (t := 62) (kd := 72) (sh' := (sh ++ [.inr (0, [0, 70, 71, 72, 5, 5, 5, 5, 5, 0, 5, 5, 5, 0, 5, 5]), .inl (0, 16), .inl (0, 16), .inl (0, 16)])) f_X0_18 (fun _ => ⟨rfl, _, _, rfl⟩) (fun a => ⟨rfl, rfl⟩) (by decide) (j_at (n := 59) hn) rfl (by decide) dX0_init_25 (j_st (n := 59) hn) ?_
  refine j_aload_n 0 dX0_init_28 rfl rfl ?_
  refine j_bipush dX0_init_29 (by decide) ?_
  refine j_newa (n := 63) (len := 16) (sh' := (sh ++ [.inr (0, [0, 70, 71, 72, 5, 5, 5, 5, 5, 0, 5, 5, 5, 0, 5, 5]), .inl (0, 16), .inl (0, 16), .inl (0, 16), .inl (0, 16)])) aty_int (by decide) (j_ln hn rfl rfl) (jno_app hj (by decide) (by decide)) (fun i (hi : i < 60) => by omega) (jsb_of (by decide)) (jlb_of (by decide)) ⟨Nat.le_of_ble_eq_true rfl, Nat.le_of_ble_eq_true rfl⟩ dX0_init_31 (by rw [List.append_assoc]; rfl) ?_
  refine j_eqM (jz_r (a := 60) (b := 63) (c := 64) (by decide) (by decide)) ?_
  refine j_putr (t := 63) (kd := 73) (sh' := (sh ++ [.inr (0, [0, 70, 71, 72, 73, 5, 5, 5, 5, 0, 5, 5, 5, 0, 5, 5]), .inl (0, 16), .inl (0, 16), .inl (0, 16), .inl (0, 16)])) f_X0_21 (fun _ => ⟨rfl, _, _, rfl⟩) (fun a => ⟨rfl, rfl⟩) (by decide) (j_at (n := 59) hn) rfl (by decide) dX0_init_33 (j_st (n := 59) hn) ?_
  refine j_aload_n 0 dX0_init_36 rfl rfl ?_
  refine j_bipush dX0_init_37 (by decide) ?_
  refine j_newa (n := 64) (len := 16) (sh' := (sh ++ [.inr (0, [0, 70, 71, 72, 73, 5, 5, 5, 5, 0, 5, 5, 5, 0, 5, 5]), .inl (0, 16), .inl (0, 16), .inl (0, 16), .inl (0, 16), .inl (0, 16)])) aty_int (by decide) (j_ln hn rfl rfl) (jno_app hj (by decide) (by decide)) (fun i (hi : i < 60) => by omega) (jsb_of (by decide)) (jlb_of (by decide)) ⟨Nat.le_of_ble_eq_true rfl, Nat.le_of_ble_eq_true rfl⟩ dX0_init_39 (by rw [List.append_assoc]; rfl) ?_
  refine j_eqM (jz_r (a := 60) (b := 64) (c := 65) (by decide) (by decide)) ?_
  refine j_putr (t := 64) (kd := 74) (sh' := (sh ++ [.inr (0, [0, 70, 71, 72, 73, 74, 5, 5, 5, 0, 5, 5, 5, 0, 5, 5]), .inl (0, 16), .inl (0, 16), .inl (0, 16), .inl (0, 16), .inl (0, 16)])) f_X0_24 (fun _ => ⟨rfl, _, _, rfl⟩) (fun a => ⟨rfl, rfl⟩) (by decide) (j_at (n := 59) hn) rfl (by decide) dX0_init_41 (j_st (n := 59) hn) ?_
  refine j_aload_n 0 dX0_init_44 rfl rfl ?_
  refine j_bipush dX0_init_45 (by decide) ?_
  refine j_newa (n := 65) (len := 112) (sh' := (sh ++ [.inr (0, [0, 70, 71, 72, 73, 74, 5, 5, 5, 0, 5, 5, 5, 0, 5, 5]), .inl (0, 16), .inl (0, 16), .inl (0, 16), .inl (0, 16), .inl (0, 16), .inl (0, 112)])) aty_int (by decide) (j_ln hn rfl rfl) (jno_app hj (by decide) (by decide)) (fun i (hi : i < 60) => by omega) (jsb_of (by decide)) (jlb_of (by decide)) ⟨Nat.le_of_ble_eq_true rfl, Nat.le_of_ble_eq_true rfl⟩ dX0_init_47 (by rw [List.append_assoc]; rfl) ?_
  refine j_eqM (jz_r (a := 60) (b := 65) (c := 66) (by decide) (by decide)) ?_
  refine j_putr (t := 65) (kd := 75) (sh' := (sh ++ [.inr (0, [0, 70, 71, 72, 73, 74, 75, 5, 5, 0, 5, 5, 5, 0, 5, 5]), .inl (0, 16), .inl (0, 16), .inl (0, 16), .inl (0, 16), .inl (0, 16), .inl (0, 112)])) f_X0_27 (fun _ => ⟨rfl, _, _, rfl⟩) (fun a => ⟨rfl, rfl⟩) (by decide) (j_at (n := 59) hn) rfl (by decide) dX0_init_49 (j_st (n := 59) hn) ?_
  refine j_aload_n 0 dX0_init_52 rfl rfl ?_
  refine j_bipush dX0_init_53 (by decide) ?_
  refine j_newa (n := 66) (len := 16) (sh' := (sh ++ [.inr (0, [0, 70, 71, 72, 73, 74, 75, 5, 5, 0, 5, 5, 5, 0, 5, 5]), .inl (0, 16), .inl (0, 16), .inl (0, 16), .inl (0, 16), .inl (0, 16), .inl (0, 112), .inl (0, 16)])) aty_int (by decide) (j_ln hn rfl rfl) (jno_app hj (by decide) (by decide)) (fun i (hi : i < 60) => by omega) (jsb_of (by decide)) (jlb_of (by decide)) ⟨Nat.le_of_ble_eq_true rfl, Nat.le_of_ble_eq_true rfl⟩ dX0_init_55 (by rw [List.append_assoc]; rfl) ?_
  refine j_eqM (jz_r (a := 60) (b := 66) (c := 67) (by decide) (by decide)) ?_
  refine j_putr (t := 66) (kd := 76) (sh' := (sh ++ [.inr (0, [0, 70, 71, 72, 73, 74, 75, 76, 5, 0, 5, 5, 5, 0, 5, 5]), .inl (0, 16), .inl (0, 16), .inl (0, 16), .inl (0, 16), .inl (0, 16), .inl (0, 112), .inl (0, 16)])) f_X0_30 (fun _ => ⟨rfl, _, _, rfl⟩) (fun a => ⟨rfl, rfl⟩) (by decide) (j_at (n := 59) hn) rfl (by decide) dX0_init_57 (j_st (n := 59) hn) ?_
  refine j_aload_n 0 dX0_init_60 rfl rfl ?_
  refine j_bipush dX0_init_61 (by decide) ?_
  refine j_newa (n := 67) (len := 16) (sh' := (sh ++ [.inr (0, [0, 70, 71, 72, 73, 74, 75, 76, 5, 0, 5, 5, 5, 0, 5, 5]), .inl (0, 16), .inl (0, 16), .inl (0, 16), .inl (0, 16), .inl (0, 16), .inl (0, 112), .inl (0, 16), .inl (0, 16)])) aty_int (by decide) (j_ln hn rfl rfl) (jno_app hj (by decide) (by decide)) (fun i (hi : i < 60) => by omega) (jsb_of (by decide)) (jlb_of (by decide)) ⟨Nat.le_of_ble_eq_true rfl, Nat.le_of_ble_eq_true rfl⟩ dX0_init_63 (by rw [List.append_assoc]; rfl) ?_
  refine j_eqM (jz_r (a := 60) (b := 67) (c := 68) (by decide) (by decide)) ?_
  refine j_putr (t := 67) (kd := 77) (sh' := (sh ++ [.inr (0, [0, 70, 71, 72, 73, 74, 75, 76, 77, 0, 5, 5, 5, 0, 5, 5]), .inl (0, 16), .inl (0, 16), .inl (0, 16), .inl (0, 16), .inl (0, 16), .inl (0, 112), .inl (0, 16), .inl (0, 16)])) f_X0_33 (fun _ => ⟨rfl, _, _, rfl⟩) (fun a => ⟨rfl, rfl⟩) (by decide) (j_at (n := 59) hn) rfl (by decide) dX0_init_65 (j_st (n := 59) hn) ?_
  refine j_aload_n 0 dX0_init_68 rfl rfl ?_
  refine j_sipush dX0_init_69 (by decide) ?_
  refine j_newa (n := 68) (len := 900) (sh' := (sh ++ [.inr (0, [0, 70, 71, 72, 73, 74, 75, 76, 77, 0, 5, 5, 5, 0, 5, 5]), .inl (0, 16), .inl (0, 16), .inl (0, 16), .inl (0, 16), .inl (0, 16), .inl (0, 112), .inl (0, 16), .inl (0, 16), .inl (0, 900)])) aty_int (by decide) (j_ln hn rfl rfl) (jno_app hj (by decide) (by decide)) (fun i (hi : i < 60) => by omega) (jsb_of (by decide)) (jlb_of (by decide)) ⟨Nat.le_of_ble_eq_true rfl, Nat.le_of_ble_eq_true rfl⟩ dX0_init_72 (by rw [List.append_assoc]; rfl) ?_
  refine j_eqM (jz_r (a := 60) (b := 68) (c := 69) (by decide) (by decide)) ?_
  refine j_putr (t := 68) (kd := 78) (sh' := (sh ++ [.inr (0, [0, 70, 71, 72, 73, 74, 75, 76, 77, 0, 78, 5, 5, 0, 5, 5]), .inl (0, 16), .inl (0, 16), .inl (0, 16), .inl (0, 16), .inl (0, 16), .inl (0, 112), .inl (0, 16), .inl (0, 16), .inl (0, 900)])) f_X0_36 (fun _ => ⟨rfl, _, _, rfl⟩) (fun a => ⟨rfl, rfl⟩) (by decide) (j_at (n := 59) hn) rfl (by decide) dX0_init_74 (j_st (n := 59) hn) ?_
  refine j_aload_n 0 dX0_init_77 rfl rfl ?_
  refine j_bipush dX0_init_78 (by decide) ?_
  refine j_newa (n := 69) (len := 64) (sh' := (sh ++ [.inr (0, [0, 70, 71, 72, 73, 74, 75, 76, 77, 0, 78, 5, 5, 0, 5, 5]), .inl (0, 16), .inl (0, 16), .inl (0, 16), .inl (0, 16), .inl (0, 16), .inl (0, 112), .inl (0, 16), .inl (0, 16), .inl (0, 900), .inl (0, 64)])) aty_int (by decide) (j_ln hn rfl rfl) (jno_app hj (by decide) (by decide)) (fun i (hi : i < 60) => by omega) (jsb_of (by decide)) (jlb_of (by decide)) ⟨Nat.le_of_ble_eq_true rfl, Nat.le_of_ble_eq_true rfl⟩ dX0_init_80 (by rw [List.append_assoc]; rfl) ?_
  refine j_eqM (jz_r (a := 60) (b := 69) (c := 70) (by decide) (by decide)) ?_
  refine j_putr (t := 69) (kd := 79) (sh' := (sh ++ [.inr (0, [0, 70, 71, 72, 73, 74, 75, 76, 77, 0, 78, 79, 5, 0, 5, 5]), .inl (0, 16), .inl (0, 16), .inl (0, 16), .inl (0, 16), .inl (0, 16), .inl (0, 112), .inl (0, 16), .inl (0, 16), .inl (0, 900), .inl (0, 64)])) f_X0_39 (fun _ => ⟨rfl, _, _, rfl⟩) (fun a => ⟨rfl, rfl⟩) (by decide) (j_at (n := 59) hn) rfl (by decide) dX0_init_82 (j_st (n := 59) hn) ?_
  refine j_aload_n 0 dX0_init_85 rfl rfl ?_
  refine j_bipush dX0_init_86 (by decide) ?_
  refine j_newa (n := 70) (len := 16) (sh' := (sh ++ [.inr (0, [0, 70, 71, 72, 73, 74, 75, 76, 77, 0, 78, 79, 5, 0, 5, 5]), .inl (0, 16), .inl (0, 16), .inl (0, 16), .inl (0, 16), .inl (0, 16), .inl (0, 112), .inl (0, 16), .inl (0, 16), .inl (0, 900), .inl (0, 64), .inl (0, 16)])) aty_int (by decide) (j_ln hn rfl rfl) (jno_app hj (by decide) (by decide)) (fun i (hi : i < 60) => by omega) (jsb_of (by decide)) (jlb_of (by decide)) ⟨Nat.le_of_ble_eq_true rfl, Nat.le_of_ble_eq_true rfl⟩ dX0_init_88 (by rw [List.append_assoc]; rfl) ?_
  refine j_eqM (jz_r (a := 60) (b := 70) (c := 71) (by decide) (by decide)) ?_
  refine j_putr (t := 70) (kd := 80) (sh' := (sh ++ [.inr (0, [0, 70, 71, 72, 73, 74, 75, 76, 77, 0, 78, 79, 80, 0, 5, 5]), .inl (0, 16), .inl (0, 16), .inl (0, 16), .inl (0, 16), .inl (0, 16), .inl (0, 112), .inl (0, 16), .inl (0, 16), .inl (0, 900), .inl (0, 64), .inl (0, 16)])) f_X0_42 (fun _ => ⟨rfl, _, _, rfl⟩) (fun a => ⟨rfl, rfl⟩) (by decide) (j_at (n := 59) hn) rfl (by decide) dX0_init_90 (j_st (n := 59) hn) ?_
  refine j_aload_n 0 dX0_init_93 rfl rfl ?_
  refine j_aload_n 1 dX0_init_94 rfl rfl ?_
  refine j_putr (t := 9) (kd := 19) (sh' := (sh ++ [.inr (0, [0, 70, 71, 72, 73, 74, 75, 76, 77, 0, 78, 79, 80, 0, 19, 5]), .inl (0, 16), .inl (0, 16), .inl (0, 16), .inl (0, 16), .inl (0, 16), .inl (0, 112), .inl (0, 16), .inl (0, 16), .inl (0, 900), .inl (0, 64), .inl (0, 16)])) f_X0_45 (fun _ => ⟨rfl, _, _, rfl⟩) (fun a => ⟨rfl, rfl⟩) (by decide) (j_at (n := 59) hn) rfl (by decide) dX0_init_95 (j_st (n := 59) hn) ?_
  refine j_aload_n 0 dX0_init_98 rfl rfl ?_
  refine j_aload_n 2 dX0_init_99 rfl rfl ?_
  refine j_putr (t := 1) (kd := 11) (sh' := (sh ++ [.inr (0, [0, 70, 71, 72, 73, 74, 75, 76, 77, 0, 78, 79, 80, 0, 19, 11]), .inl (0, 16), .inl (0, 16), .inl (0, 16), .inl (0, 16), .inl (0, 16), .inl (0, 112), .inl (0, 16), .inl (0, 16), .inl (0, 900), .inl (0, 64), .inl (0, 16)])) f_X0_49 (fun _ => ⟨rfl, _, _, rfl⟩) (fun a => ⟨rfl, rfl⟩) (by decide) (j_at (n := 59) hn) rfl (by decide) dX0_init_100 (j_st (n := 59) hn) ?_
  refine j_vret rfl rfl rfl rfl dX0_init_103 ?_
  rfl
set_option maxHeartbeats 4000000 in
set_option maxRecDepth 20000 in
theorem c_X5_init {X : jX} (M : jM) (sh : List jS) (hn : sh.length = 71) (hj : jltb 71 sh = true) : jC yX5_init D_X5_init X (fun i : Int => i < 72, (sh ++ [.inr (5, [0, 82, 0, 0, 0, 0, 69, 0, 83, 0]), .inl (3, 900), .inl (0, 64)])) (sh ++ [.inr (5, [0, 5, 0, 0, 0, 0, 5, 0, 5, 0])]) [jR 71, jR 59] M (jqV (fun N => N = jzr M 72 74)) := by
  refine jC_of (by decide) rfl (fun ad => Nat.le_of_ble_eq_true rfl) (by decide) ?_
  show jG D_X5_init X (fun i : Int => i < 72, (sh ++ [.inr (5, [0, 82, 0, 0, 0, 0, 69, 0, 83, 0]), .inl (3, 900), .inl (0, 64)])) (sh ++ [.inr (5, [0, 5, 0, 0, 0, 0, 5, 0, 5, 0])]) 0 0 _ 0 [(0, jR 71), (1, jR 59)] [] M
  refine j_eqM (jzr_0 M 72) ?_
  refine j_aload_n 0 dX5_init_0 rfl rfl ?_
  refine j_obj lo_X5 ⟨Nat.le_of_ble_eq_true rfl, Nat.le_of_ble_eq_true rfl⟩ dX5_init_1 ?_
  refine j_aload_n 0 dX5_init_4 rfl rfl ?_
  refine j_sipush dX5_init_5 (by decide) ?_
  refine j_newa (n := 72) (len := 900) (sh' := (sh ++ [.inr (5, [0, 5, 0, 0, 0, 0, 5, 0, 5, 0]), .inl (3, 900)])) aty_byte (by decide) (j_ln hn rfl rfl) (jno_app hj (by decide) (by decide)) (fun i (hi : i < 72) => by omega) (jsb_of (by decide)) (jlb_of (by decide)) ⟨Nat.le_of_ble_eq_true rfl, Nat.le_of_ble_eq_true rfl⟩ dX5_init_8 (by rw [List.append_assoc]; rfl) ?_
  refine j_eqM (jz_r (a := 72) (b := 72) (c := 73) (by decide) (by decide)) ?_
  refine j_putr (t := 72) (kd := 82) (sh' := (sh ++ [.inr (5, [0, 82, 0, 0, 0, 0, 5, 0, 5, 0]), .inl (3, 900)])) f_X5_11 (fun _ => ⟨rfl, _, _, rfl⟩) (fun a => ⟨rfl, rfl⟩) (by decide) (j_at (n := 71) hn) rfl (by decide) dX5_init_10 (j_st (n := 71) hn) ?_
  refine j_aload_n 0 dX5_init_13 rfl rfl ?_
  refine j_bipush dX5_init_14 (by decide) ?_
  refine j_newa (n := 73) (len := 64) (sh' := (sh ++ [.inr (5, [0, 82, 0, 0, 0, 0, 5, 0, 5, 0]), .inl (3, 900), .inl (0, 64)])) aty_int (by decide) (j_ln hn rfl rfl) (jno_app hj (by decide) (by decide)) (fun i (hi : i < 72) => by omega) (jsb_of (by decide)) (jlb_of (by decide)) ⟨Nat.le_of_ble_eq_true rfl, Nat.le_of_ble_eq_true rfl⟩ dX5_init_16 (by rw [List.append_assoc]; rfl) ?_
  refine j_eqM (jz_r (a := 72) (b := 73) (c := 74) (by decide) (by decide)) ?_
  refine j_putr (t := 73) (kd := 83) (sh' := (sh ++ [.inr (5, [0, 82, 0, 0, 0, 0, 5, 0, 83, 0]), .inl (3, 900), .inl (0, 64)])) f_X5_15 (fun _ => ⟨rfl, _, _, rfl⟩) (fun a => ⟨rfl, rfl⟩) (by decide) (j_at (n := 71) hn) rfl (by decide) dX5_init_18 (j_st (n := 71) hn) ?_
  refine j_aload_n 0 dX5_init_21 rfl rfl ?_
  refine j_aload_n 1 dX5_init_22 rfl rfl ?_
  refine j_putr (t := 59) (kd := 69) (sh' := (sh ++ [.inr (5, [0, 82, 0, 0, 0, 0, 69, 0, 83, 0]), .inl (3, 900), .inl (0, 64)])) f_X5_19 (fun _ => ⟨rfl, _, _, rfl⟩) (fun a => ⟨rfl, rfl⟩) (by decide) (j_at (n := 71) hn) rfl (by decide) dX5_init_23 (j_st (n := 71) hn) ?_
  refine j_vret rfl rfl rfl rfl dX5_init_26 ?_
  rfl
