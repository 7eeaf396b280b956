abbrev q_X9_addS (M : jM) (sh : List jS) (a c : Int) : Int → jM → Prop := fun r N => r = wAd a c ∧ N = M
set_option maxHeartbeats 4000000 in
set_option maxRecDepth 20000 in
theorem c_X9_addS {X : jX} (M : jM) (sh : List jS) (a c : Int)  : jC yX9_add D_X9_add X (jT, sh) sh [jL a, jI c] M (jqL (q_X9_addS M sh a c)) := by
  refine jC_of (by decide) rfl (fun ad => Nat.le_of_ble_eq_true rfl) (by decide) ?_
  show jG D_X9_add X (jT, sh) sh 0 0 (jqL (q_X9_addS M sh a c)) 0 [(0, jL a), (2, jI c)] [] M
  refine j_iload_n 1 dX9_add_0 rfl rfl ?_
  refine j_if_ne (tgt := 8) dX9_add_1 (by decide) (fun c1_1 => ?_) (fun c1_1 => ?_)
  · skip
    refine j_ldc2_w (n := 256) dX9_add_8 c_X9_128 ?_
    refine j_lload_n 0 dX9_add_11 rfl rfl ?_
    refine j_lmul dX9_add_12 ?_
    refine j_iload_n 1 dX9_add_13 rfl rfl ?_
    refine j_i2l dX9_add_14 ?_
    refine j_ladd dX9_add_15 ?_
    refine j_lret rfl rfl rfl rfl dX9_add_16 ?_
    exact ⟨by unfold wAd; split <;> omega, rfl⟩
  · skip
    refine j_lload_n 0 dX9_add_4 rfl rfl ?_
    refine j_goto (tgt := 16) dX9_add_5 (by decide) ?_
    refine j_lret rfl rfl rfl rfl dX9_add_16 ?_
    exact ⟨by unfold wAd; split <;> omega, rfl⟩
abbrev q_X9_wordS (M : jM) (sh : List jS) (a b c d e g : Int) : Int → jM → Prop := fun r N => r = wAd (wAd (wAd (wAd (wAd (wAd 0 a) b) c) d) e) g ∧ N = M
set_option maxHeartbeats 4000000 in
set_option maxRecDepth 20000 in
theorem c_X9_wordS {X : jX} (M : jM) (sh : List jS) (a b c d e g : Int)  : jC yX9_word D_X9_word X (jT, sh) sh [jI a, jI b, jI c, jI d, jI e, jI g] M (jqL (q_X9_wordS M sh a b c d e g)) := by
  refine jC_of (by decide) rfl (fun ad => Nat.le_of_ble_eq_true rfl) (by decide) ?_
  show jG D_X9_word X (jT, sh) sh 0 0 (jqL (q_X9_wordS M sh a b c d e g)) 0 [(0, jI a), (1, jI b), (2, jI c), (3, jI d), (4, jI e), (5, jI g)] [] M
  refine j_lconst (v := 0) dX9_word_0 rfl ?_
  refine j_iload_n 0 dX9_word_1 rfl rfl ?_
  refine j_callSl l_X9_130 ⟨Nat.le_of_ble_eq_true rfl, Nat.le_of_ble_eq_true rfl⟩ ⟨rfl, rfl⟩ dX9_word_2 (c_X9_addS M sh 0 a) rfl rfl (Nat.le_of_ble_eq_true rfl) (fun r_1 M_2 h_3 => ?_)
  obtain ⟨er_1, nh_3⟩ := h_3
  refine j_eqM nh_3 ?_
  clear nh_3
  refine j_iload_n 1 dX9_word_5 rfl rfl ?_
  refine j_callSl l_X9_130 ⟨Nat.le_of_ble_eq_true rfl, Nat.le_of_ble_eq_true rfl⟩ ⟨rfl, rfl⟩ dX9_word_6 (c_X9_addS M sh r_1 b) rfl rfl (Nat.le_of_ble_eq_true rfl) (fun r_4 M_5 h_6 => ?_)
  obtain ⟨er_4, nh_6⟩ := h_6
  refine j_eqM nh_6 ?_
  clear nh_6
  refine j_iload_n 2 dX9_word_9 rfl rfl ?_
  refine j_callSl l_X9_130 ⟨Nat.le_of_ble_eq_true rfl, Nat.le_of_ble_eq_true rfl⟩ ⟨rfl, rfl⟩ dX9_word_10 (c_X9_addS M sh r_4 c) rfl rfl (Nat.le_of_ble_eq_true rfl) (fun r_7 M_8 h_9 => ?_)
  obtain ⟨er_7, nh_9⟩ := h_9
  refine j_eqM nh_9 ?_
  clear nh_9
  refine j_iload_n 3 dX9_word_13 rfl rfl ?_
  refine j_callSl l_X9_130 ⟨Nat.le_of_ble_eq_true rfl, Nat.le_of_ble_eq_true rfl⟩ ⟨rfl, rfl⟩ dX9_word_14 (c_X9_addS M sh r_7 d) rfl rfl (Nat.le_of_ble_eq_true rfl) (fun r_10 M_11 h_12 => ?_)
  obtain ⟨er_10, nh_12⟩ := h_12
  refine j_eqM nh_12 ?_
  clear nh_12
  refine j_iload 4 dX9_word_17 rfl ?_
  refine j_callSl l_X9_130 ⟨Nat.le_of_ble_eq_true rfl, Nat.le_of_ble_eq_true rfl⟩ ⟨rfl, rfl⟩ dX9_word_19 (c_X9_addS M sh r_10 e) rfl rfl (Nat.le_of_ble_eq_true rfl) (fun r_13 M_14 h_15 => ?_)
  obtain ⟨er_13, nh_15⟩ := h_15
  refine j_eqM nh_15 ?_
  clear nh_15
  refine j_iload 5 dX9_word_22 rfl ?_
  refine j_callSl l_X9_130 ⟨Nat.le_of_ble_eq_true rfl, Nat.le_of_ble_eq_true rfl⟩ ⟨rfl, rfl⟩ dX9_word_24 (c_X9_addS M sh r_13 g) rfl rfl (Nat.le_of_ble_eq_true rfl) (fun r_16 M_17 h_18 => ?_)
  obtain ⟨er_16, nh_18⟩ := h_18
  refine j_eqM nh_18 ?_
  clear nh_18
  refine j_lret rfl rfl rfl rfl dX9_word_27 ?_
  exact ⟨by subst_vars; rfl, rfl⟩
