abbrev q_X9_takesNumber (M : jM) (b : Int → Int) (s : Int) (lo hi : Int) : Int → jM → Prop := fun r N => r = nV b lo hi s ∧ rP b N (tkN b lo hi s) ∧ rF2 M N
set_option maxHeartbeats 4000000 in
set_option maxRecDepth 20000 in
theorem c_X9_takesNumber {X : jX} (M : jM) (b : Int → Int) (s : Int) (lo hi : Int) (h_rtyped : 0 ≤ M 74 14 ∧ M 74 14 ≤ 900) (h_rtext : ∀ i, 0 ≤ M 84 i ∧ M 84 i ≤ 255) (h_rwords : ∀ k, 0 ≤ k → k < 16 → M 75 k = wVal k) (hp : rP b M s) : jC yX9_takesNumber D_X9_takesNumber X FJ shJ [jR 74, jI lo, jI hi] M (jqI (q_X9_takesNumber M b s lo hi)) := by
  refine jC_of (by decide) rfl (fun ad => Nat.le_of_ble_eq_true rfl) (by decide) ?_
  show jG D_X9_takesNumber X FJ shJ 0 0 (jqI (q_X9_takesNumber M b s lo hi)) 0 [(0, jR 74), (1, jI lo), (2, jI hi)] [] M
  have w0 := rP_19 hp
  have w1 := fun z => rP_well hp z
  have w2 := lK_in b s
  refine j_aload_n 0 dX9_takesNumber_0 rfl rfl ?_
  refine j_callVi l_X9_203 ⟨Nat.le_of_ble_eq_true rfl, Nat.le_of_ble_eq_true rfl⟩ ⟨rfl, rfl⟩ dX9_takesNumber_1 ob_74 (c_X9_isWell M) rfl rfl (Nat.le_of_ble_eq_true rfl) (fun r_1 M_2 h_3 => ?_)
  obtain ⟨er_1, nh_3⟩ := h_3
  refine j_eqM nh_3 ?_
  clear nh_3
  refine j_if_eq (tgt := 27) dX9_takesNumber_4 (by decide) (fun c4_4 => ?_) (fun c4_4 => ?_)
  · skip
    refine j_aload_n 0 dX9_takesNumber_27 rfl rfl ?_
    refine j_callVv l_X9_213 ⟨Nat.le_of_ble_eq_true rfl, Nat.le_of_ble_eq_true rfl⟩ ⟨rfl, rfl⟩ dX9_takesNumber_28 ob_74 (c_X9_fails M b s hp) rfl rfl (Nat.le_of_ble_eq_true rfl) (fun M_6 h_7 => ?_)
    obtain ⟨rkh_7, fkh_7⟩ := h_7
    have frh_7 := fkh_7.1
    refine j_iconst dX9_takesNumber_31 (by decide) ?_
    refine j_iret rfl rfl rfl rfl dX9_takesNumber_32 ?_
    first | exact ⟨by unfold nV; rw [if_pos (by omega)]; omega, by unfold tkN; rw [if_neg (by omega), if_pos (by omega)]; exact rP_adv hp (by omega) adh_7, rF2_of adh_7.2.2⟩ | (refine ⟨by unfold nV; rw [if_neg (by omega)], ?_, fkh_7⟩; have e : tkN b lo hi s = fl s := (by unfold tkN fl; by_cases z : s < 0; (· rw [if_pos z, if_pos z]); (· rw [if_neg z, if_neg z, if_neg (by omega)])); rw [e]; exact rkh_7)
  · skip
    refine j_aload_n 0 dX9_takesNumber_7 rfl rfl ?_
    refine j_geti (k' := 16) f_X9_191 o_74_16 dX9_takesNumber_8 rfl ?_
    refine j_iconst dX9_takesNumber_11 (by decide) ?_
    refine j_icmp_ne (tgt := 27) dX9_takesNumber_12 (by decide) (fun c12_8 => ?_) (fun c12_8 => ?_)
    · skip
      refine j_aload_n 0 dX9_takesNumber_27 rfl rfl ?_
      refine j_callVv l_X9_213 ⟨Nat.le_of_ble_eq_true rfl, Nat.le_of_ble_eq_true rfl⟩ ⟨rfl, rfl⟩ dX9_takesNumber_28 ob_74 (c_X9_fails M b s hp) rfl rfl (Nat.le_of_ble_eq_true rfl) (fun M_10 h_11 => ?_)
      obtain ⟨rkh_11, fkh_11⟩ := h_11
      have frh_11 := fkh_11.1
      refine j_iconst dX9_takesNumber_31 (by decide) ?_
      refine j_iret rfl rfl rfl rfl dX9_takesNumber_32 ?_
      first | exact ⟨by unfold nV; rw [if_pos (by omega)]; omega, by unfold tkN; rw [if_neg (by omega), if_pos (by omega)]; exact rP_adv hp (by omega) adh_11, rF2_of adh_11.2.2⟩ | (refine ⟨by unfold nV; rw [if_neg (by omega)], ?_, fkh_11⟩; have e : tkN b lo hi s = fl s := (by unfold tkN fl; by_cases z : s < 0; (· rw [if_pos z, if_pos z]); (· rw [if_neg z, if_neg z, if_neg (by omega)])); rw [e]; exact rkh_11)
    · skip
      refine j_aload_n 0 dX9_takesNumber_15 rfl rfl ?_
      refine j_geti (k' := 18) f_X9_194 o_74_18 dX9_takesNumber_16 rfl ?_
      refine j_iload_n 1 dX9_takesNumber_19 rfl rfl ?_
      refine j_iload_n 2 dX9_takesNumber_20 rfl rfl ?_
      refine j_callSi l_X9_137 ⟨Nat.le_of_ble_eq_true rfl, Nat.le_of_ble_eq_true rfl⟩ ⟨rfl, rfl⟩ dX9_takesNumber_21 (c_X9_in M ((M 74 18)) lo hi) rfl rfl (Nat.le_of_ble_eq_true rfl) (fun r_12 M_13 h_14 => ?_)
      obtain ⟨er_12, nh_14⟩ := h_14
      refine j_eqM nh_14 ?_
      clear nh_14
      refine j_if_ne (tgt := 33) dX9_takesNumber_24 (by decide) (fun c24_15 => ?_) (fun c24_15 => ?_)
      · skip
        refine j_aload_n 0 dX9_takesNumber_33 rfl rfl ?_
        refine j_geti (k' := 18) f_X9_194 o_74_18 dX9_takesNumber_34 rfl ?_
        refine j_nm (fun v3_16 ev3_16 => ?_)
        refine j_istore_n (ls' := [(0, jR 74), (1, jI lo), (2, jI hi), (3, jI v3_16)]) dX9_takesNumber_37 rfl (by decide) rfl ?_
        refine j_aload_n 0 dX9_takesNumber_38 rfl rfl ?_
        refine j_callVv l_X9_210 ⟨Nat.le_of_ble_eq_true rfl, Nat.le_of_ble_eq_true rfl⟩ ⟨rfl, rfl⟩ dX9_takesNumber_39 ob_74 (c_X9_advances M b h_rtyped h_rtext h_rwords hp.1 (rP_pre hp (by omega) h_rtyped h_rtext)) rfl rfl (Nat.le_of_ble_eq_true rfl) (fun M_18 h_19 => ?_)
        have adh_19 := h_19
        unfold q_X9_advances at adh_19
        have frh_19 := adh_19.2.2.1
        refine j_iload_n 3 dX9_takesNumber_42 rfl rfl ?_
        refine j_iret rfl rfl rfl rfl dX9_takesNumber_43 ?_
        first | exact ⟨by unfold nV; rw [if_pos (by omega)]; omega, by unfold tkN; rw [if_neg (by omega), if_pos (by omega)]; exact rP_adv hp (by omega) adh_19, rF2_of adh_19.2.2⟩ | (refine ⟨by unfold nV; rw [if_neg (by omega)], ?_, fkh_19⟩; have e : tkN b lo hi s = fl s := (by unfold tkN fl; by_cases z : s < 0; (· rw [if_pos z, if_pos z]); (· rw [if_neg z, if_neg z, if_neg (by omega)])); rw [e]; exact rkh_19)
      · skip
        refine j_aload_n 0 dX9_takesNumber_27 rfl rfl ?_
        refine j_callVv l_X9_213 ⟨Nat.le_of_ble_eq_true rfl, Nat.le_of_ble_eq_true rfl⟩ ⟨rfl, rfl⟩ dX9_takesNumber_28 ob_74 (c_X9_fails M b s hp) rfl rfl (Nat.le_of_ble_eq_true rfl) (fun M_21 h_22 => ?_)
        obtain ⟨rkh_22, fkh_22⟩ := h_22
        have frh_22 := fkh_22.1
        refine j_iconst dX9_takesNumber_31 (by decide) ?_
        refine j_iret rfl rfl rfl rfl dX9_takesNumber_32 ?_
        first | exact ⟨by unfold nV; rw [if_pos (by omega)]; omega, by unfold tkN; rw [if_neg (by omega), if_pos (by omega)]; exact rP_adv hp (by omega) adh_22, rF2_of adh_22.2.2⟩ | (refine ⟨by unfold nV; rw [if_neg (by omega)], ?_, fkh_22⟩; have e : tkN b lo hi s = fl s := (by unfold tkN fl; by_cases z : s < 0; (· rw [if_pos z, if_pos z]); (· rw [if_neg z, if_neg z, if_neg (by omega)])); rw [e]; exact rkh_22)
abbrev q_X9_find (M : jM)  (x : Int) : Int → jM → Prop := fun r N => ((r = -1 ∧ ∀ j, 0 ≤ j → j < M 74 21 → ¬ M 85 (320 + 20 * j) = x) ∨ ((0 ≤ r ∧ r < M 74 21) ∧ M 85 (320 + 20 * r) = x ∧ ∀ j, 0 ≤ j → j < r → ¬ M 85 (320 + 20 * j) = x)) ∧ N = M
set_option maxHeartbeats 4000000 in
set_option maxRecDepth 20000 in
theorem c_X9_find {X : jX} (M : jM)  (x : Int) (hr : 0 ≤ M 74 21 ∧ M 74 21 ≤ 16) : jC yX9_find D_X9_find X FJ shJ [jR 74, jI x] M (jqI (q_X9_find M x)) := by
  refine jC_of (by decide) rfl (fun ad => Nat.le_of_ble_eq_true rfl) (by decide) ?_
  show jG D_X9_find X FJ shJ 0 0 (jqI (q_X9_find M x)) 0 [(0, jR 74), (1, jI x)] [] M
  refine j_iconst dX9_find_0 (by decide) ?_
  refine j_istore_n (ls' := [(0, jR 74), (1, jI x), (2, jI 0)]) dX9_find_1 rfl (by decide) rfl ?_
  have lp2_1 : ∀ n2 : Nat, ∀ (v2 : Int), (0 ≤ v2 ∧ v2 ≤ M 74 21) ∧ (∀ j, 0 ≤ j → j < v2 → ¬ M 85 (320 + 20 * j) = x) → (M 74 21 - v2).toNat < n2 → jG D_X9_find X FJ shJ 0 0 (jqI (q_X9_find M x)) 2 [(0, jR 74), (1, jI x), (2, jI v2)] ([]) M := by
    intro n2
    induction n2 with
    | zero => intro v2  _ hz; exact absurd hz (Nat.not_lt_zero _)
    | succ n2 ih2 =>
      intro v2  hinv hm
      obtain ⟨h1, h2⟩ := hinv
      refine j_iload_n 2 dX9_find_2 rfl rfl ?_
      refine j_aload_n 0 dX9_find_3 rfl rfl ?_
      refine j_geti (k' := 21) f_X9_219 o_74_21 dX9_find_4 rfl ?_
      refine j_icmp_ge (tgt := 35) dX9_find_7 (by decide) (fun c7_2 => ?_) (fun c7_2 => ?_)
      · skip
        refine j_iconst dX9_find_35 (by decide) ?_
        refine j_iret rfl rfl rfl rfl dX9_find_36 ?_
        exact ⟨Or.inl ⟨rfl, fun j j0 j1 => h2 j j0 (by omega)⟩, rfl⟩
      · skip
        refine j_aload_n 0 dX9_find_10 rfl rfl ?_
        refine j_getr f_X9_41 r_74_22 dX9_find_11 ?_
        refine j_sipush dX9_find_14 (by decide) ?_
        refine j_bipush dX9_find_17 (by decide) ?_
        refine j_iload_n 2 dX9_find_19 rfl rfl ?_
        refine j_imul dX9_find_20 (by omega) ?_
        refine j_iadd dX9_find_21 (by omega) ?_
        refine j_iald a_85 dX9_find_22 (by omega) (by omega) ?_
        refine j_iload_n 1 dX9_find_23 rfl rfl ?_
        refine j_icmp_ne (tgt := 29) dX9_find_24 (by decide) (fun c24_3 => ?_) (fun c24_3 => ?_)
        · skip
          obtain ⟨v2_4, ev2_4⟩ : ∃ y : Int, y = v2 + 1 := ⟨_, rfl⟩
          refine j_iinc (y := v2_4) (ls' := [(0, jR 74), (1, jI x), (2, jI v2_4)]) 2 dX9_find_29 rfl ev2_4 (by omega) (by decide) rfl ?_
          refine j_goto (tgt := 2) dX9_find_32 (by decide) ?_
          exact ih2 v2_4 ⟨by omega, by intro j j0 j1; by_cases hj : j = v2; (· rw [hj]; assumption); (· exact h2 j j0 (by omega))⟩ (by omega)
        · skip
          refine j_iload_n 2 dX9_find_27 rfl rfl ?_
          refine j_iret rfl rfl rfl rfl dX9_find_28 ?_
          exact ⟨Or.inr ⟨⟨h1.1, by omega⟩, by assumption, h2⟩, rfl⟩
  exact lp2_1 _ 0 ⟨by omega, by intro j a b; omega⟩ (Nat.lt_succ_self _)
abbrev q_X9_waits (M : jM)  (a m c : Int) : Int → jM → Prop := fun r N => ((c = 33 ∧ 0 < m ∧ M 86 (a + 2 * m - 2) = 33) ∧ r = m - 1 ∧ N = M) ∨ (¬ (c = 33 ∧ 0 < m ∧ M 86 (a + 2 * m - 2) = 33) ∧ r = m + 1 ∧ N = jup M 86 (a + 2 * m) c)
set_option maxHeartbeats 4000000 in
set_option maxRecDepth 20000 in
theorem c_X9_waits {X : jX} (M : jM)  (a m c : Int) (h0 : 0 ≤ a ∧ 0 ≤ m ∧ a + 2 * m < 4000) : jC yX9_waits D_X9_waits X FJ shJ [jR 74, jI a, jI m, jI c] M (jqI (q_X9_waits M a m c)) := by
  refine jC_of (by decide) rfl (fun ad => Nat.le_of_ble_eq_true rfl) (by decide) ?_
  show jG D_X9_waits X FJ shJ 0 0 (jqI (q_X9_waits M a m c)) 0 [(0, jR 74), (1, jI a), (2, jI m), (3, jI c)] [] M
  refine j_iload_n 3 dX9_waits_0 rfl rfl ?_
  refine j_bipush dX9_waits_1 (by decide) ?_
  refine j_icmp_ne (tgt := 31) dX9_waits_3 (by decide) (fun c3_1 => ?_) (fun c3_1 => ?_)
  · skip
    refine j_aload_n 0 dX9_waits_31 rfl rfl ?_
    refine j_getr f_X9_44 r_74_23 dX9_waits_32 ?_
    refine j_iload_n 1 dX9_waits_35 rfl rfl ?_
    refine j_iconst dX9_waits_36 (by decide) ?_
    refine j_iload_n 2 dX9_waits_37 rfl rfl ?_
    refine j_imul dX9_waits_38 (by omega) ?_
    refine j_iadd dX9_waits_39 (by omega) ?_
    refine j_iload_n 3 dX9_waits_40 rfl rfl ?_
    refine j_iast a_86 dX9_waits_41 (by omega) (by omega) ?_
    refine j_nmM (fun M_2 eM_2 => ?_)
    refine j_iload_n 2 dX9_waits_42 rfl rfl ?_
    refine j_iconst dX9_waits_43 (by decide) ?_
    refine j_iadd dX9_waits_44 (by omega) ?_
    refine j_iret rfl rfl rfl rfl dX9_waits_45 ?_
    first | exact Or.inl ⟨by omega, by omega, rfl⟩ | exact Or.inr ⟨by omega, by omega, by rw [eM_2]⟩
  · skip
    refine j_iload_n 2 dX9_waits_6 rfl rfl ?_
    refine j_if_le (tgt := 31) dX9_waits_7 (by decide) (fun c7_3 => ?_) (fun c7_3 => ?_)
    · skip
      refine j_aload_n 0 dX9_waits_31 rfl rfl ?_
      refine j_getr f_X9_44 r_74_23 dX9_waits_32 ?_
      refine j_iload_n 1 dX9_waits_35 rfl rfl ?_
      refine j_iconst dX9_waits_36 (by decide) ?_
      refine j_iload_n 2 dX9_waits_37 rfl rfl ?_
      refine j_imul dX9_waits_38 (by omega) ?_
      refine j_iadd dX9_waits_39 (by omega) ?_
      refine j_iload_n 3 dX9_waits_40 rfl rfl ?_
      refine j_iast a_86 dX9_waits_41 (by omega) (by omega) ?_
      refine j_nmM (fun M_4 eM_4 => ?_)
      refine j_iload_n 2 dX9_waits_42 rfl rfl ?_
      refine j_iconst dX9_waits_43 (by decide) ?_
      refine j_iadd dX9_waits_44 (by omega) ?_
      refine j_iret rfl rfl rfl rfl dX9_waits_45 ?_
      first | exact Or.inl ⟨by omega, by omega, rfl⟩ | exact Or.inr ⟨by omega, by omega, by rw [eM_4]⟩
    · skip
      refine j_aload_n 0 dX9_waits_10 rfl rfl ?_
      refine j_getr f_X9_44 r_74_23 dX9_waits_11 ?_
      refine j_iload_n 1 dX9_waits_14 rfl rfl ?_
      refine j_iconst dX9_waits_15 (by decide) ?_
      refine j_iload_n 2 dX9_waits_16 rfl rfl ?_
      refine j_imul dX9_waits_17 (by omega) ?_
      refine j_iadd dX9_waits_18 (by omega) ?_
      refine j_iconst dX9_waits_19 (by decide) ?_
      refine j_isub dX9_waits_20 (by omega) ?_
      refine j_iald a_86 dX9_waits_21 (by omega) (by omega) ?_
      refine j_bipush dX9_waits_22 (by decide) ?_
      refine j_icmp_ne (tgt := 31) dX9_waits_24 (by decide) (fun c24_5 => ?_) (fun c24_5 => ?_)
      · skip
        refine j_aload_n 0 dX9_waits_31 rfl rfl ?_
        refine j_getr f_X9_44 r_74_23 dX9_waits_32 ?_
        refine j_iload_n 1 dX9_waits_35 rfl rfl ?_
        refine j_iconst dX9_waits_36 (by decide) ?_
        refine j_iload_n 2 dX9_waits_37 rfl rfl ?_
        refine j_imul dX9_waits_38 (by omega) ?_
        refine j_iadd dX9_waits_39 (by omega) ?_
        refine j_iload_n 3 dX9_waits_40 rfl rfl ?_
        refine j_iast a_86 dX9_waits_41 (by omega) (by omega) ?_
        refine j_nmM (fun M_6 eM_6 => ?_)
        refine j_iload_n 2 dX9_waits_42 rfl rfl ?_
        refine j_iconst dX9_waits_43 (by decide) ?_
        refine j_iadd dX9_waits_44 (by omega) ?_
        refine j_iret rfl rfl rfl rfl dX9_waits_45 ?_
        first | exact Or.inl ⟨by omega, by omega, rfl⟩ | exact Or.inr ⟨by omega, by omega, by rw [eM_6]⟩
      · skip
        refine j_iload_n 2 dX9_waits_27 rfl rfl ?_
        refine j_iconst dX9_waits_28 (by decide) ?_
        refine j_isub dX9_waits_29 (by omega) ?_
        refine j_iret rfl rfl rfl rfl dX9_waits_30 ?_
        first | exact Or.inl ⟨by omega, by omega, rfl⟩ | exact Or.inr ⟨by omega, by omega, by rw [jup_zz]⟩
abbrev q_X5_testWord (M : jM) (b : Int → Int) (q : Int)  : Int → jM → Prop := fun r N => r = (if lK b q = 1 then (if lV b q = 12 then 6 else if lV b q = 13 then 7 else if lV b q = 14 then 8 else if lV b q = 15 then 9 else if lV b q = 10 then 10 else -9) else -9) ∧ N = M
set_option maxHeartbeats 4000000 in
set_option maxRecDepth 20000 in
theorem c_X5_testWord {X : jX} (M : jM) (b : Int → Int) (q : Int)  (h_ctyped : 0 ≤ M 71 0 ∧ M 71 0 ≤ 900) (h_ctext : ∀ i, -128 ≤ M 72 i ∧ M 72 i ≤ 127) (ht : cT b M q) : jC yX5_testWord D_X5_testWord X FJ shJ [jR 71] M (jqI (q_X5_testWord M b q)) := by
  refine jC_of (by decide) rfl (fun ad => Nat.le_of_ble_eq_true rfl) (by decide) ?_
  show jG D_X5_testWord X FJ shJ 0 0 (jqI (q_X5_testWord M b q)) 0 [(0, jR 71)] [] M
  have hwm : wMap 3 = 12 ∧ wMap 4 = 13 ∧ wMap 5 = 14 ∧ wMap 6 = 15 ∧ wMap 7 = 10 := by decide
  refine j_aload_n 0 dX5_testWord_0 rfl rfl ?_
  refine j_ldcS (i := 3) (r := (-13)) (by decide) rfl rfl dX5_testWord_1 (by decide) ?_
  refine j_callVi l_X5_46 ⟨Nat.le_of_ble_eq_true rfl, Nat.le_of_ble_eq_true rfl⟩ ⟨rfl, rfl⟩ dX5_testWord_3 ob_71 (c_X5_isWord M b q 3 (by decide) (-13) h_ctyped h_ctext ht (by decide)) rfl rfl (Nat.le_of_ble_eq_true rfl) (fun r_1 M_2 h_3 => ?_)
  obtain ⟨er_1, nh_3⟩ := h_3
  refine j_eqM nh_3 ?_
  clear nh_3
  refine j_if_eq (tgt := 12) dX5_testWord_6 (by decide) (fun c6_4 => ?_) (fun c6_4 => ?_)
  · skip
    refine j_aload_n 0 dX5_testWord_12 rfl rfl ?_
    refine j_ldcS (i := 4) (r := (-14)) (by decide) rfl rfl dX5_testWord_13 (by decide) ?_
    refine j_callVi l_X5_46 ⟨Nat.le_of_ble_eq_true rfl, Nat.le_of_ble_eq_true rfl⟩ ⟨rfl, rfl⟩ dX5_testWord_15 ob_71 (c_X5_isWord M b q 4 (by decide) (-14) h_ctyped h_ctext ht (by decide)) rfl rfl (Nat.le_of_ble_eq_true rfl) (fun r_5 M_6 h_7 => ?_)
    obtain ⟨er_5, nh_7⟩ := h_7
    refine j_eqM nh_7 ?_
    clear nh_7
    refine j_if_eq (tgt := 24) dX5_testWord_18 (by decide) (fun c18_8 => ?_) (fun c18_8 => ?_)
    · skip
      refine j_aload_n 0 dX5_testWord_24 rfl rfl ?_
      refine j_ldcS (i := 5) (r := (-15)) (by decide) rfl rfl dX5_testWord_25 (by decide) ?_
      refine j_callVi l_X5_46 ⟨Nat.le_of_ble_eq_true rfl, Nat.le_of_ble_eq_true rfl⟩ ⟨rfl, rfl⟩ dX5_testWord_27 ob_71 (c_X5_isWord M b q 5 (by decide) (-15) h_ctyped h_ctext ht (by decide)) rfl rfl (Nat.le_of_ble_eq_true rfl) (fun r_9 M_10 h_11 => ?_)
      obtain ⟨er_9, nh_11⟩ := h_11
      refine j_eqM nh_11 ?_
      clear nh_11
      refine j_if_eq (tgt := 36) dX5_testWord_30 (by decide) (fun c30_12 => ?_) (fun c30_12 => ?_)
      · skip
        refine j_aload_n 0 dX5_testWord_36 rfl rfl ?_
        refine j_ldcS (i := 6) (r := (-16)) (by decide) rfl rfl dX5_testWord_37 (by decide) ?_
        refine j_callVi l_X5_46 ⟨Nat.le_of_ble_eq_true rfl, Nat.le_of_ble_eq_true rfl⟩ ⟨rfl, rfl⟩ dX5_testWord_39 ob_71 (c_X5_isWord M b q 6 (by decide) (-16) h_ctyped h_ctext ht (by decide)) rfl rfl (Nat.le_of_ble_eq_true rfl) (fun r_13 M_14 h_15 => ?_)
        obtain ⟨er_13, nh_15⟩ := h_15
        refine j_eqM nh_15 ?_
        clear nh_15
        refine j_if_eq (tgt := 48) dX5_testWord_42 (by decide) (fun c42_16 => ?_) (fun c42_16 => ?_)
        · skip
          refine j_aload_n 0 dX5_testWord_48 rfl rfl ?_
          refine j_ldcS (i := 7) (r := (-17)) (by decide) rfl rfl dX5_testWord_49 (by decide) ?_
          refine j_callVi l_X5_46 ⟨Nat.le_of_ble_eq_true rfl, Nat.le_of_ble_eq_true rfl⟩ ⟨rfl, rfl⟩ dX5_testWord_51 ob_71 (c_X5_isWord M b q 7 (by decide) (-17) h_ctyped h_ctext ht (by decide)) rfl rfl (Nat.le_of_ble_eq_true rfl) (fun r_17 M_18 h_19 => ?_)
          obtain ⟨er_17, nh_19⟩ := h_19
          refine j_eqM nh_19 ?_
          clear nh_19
          have hJ_20 : ∀ zz : Int, (r_17 = 0 ∧ zz = (-9)) ∨ (¬ r_17 = 0 ∧ zz = 10) → jG D_X5_testWord X FJ shJ 0 0 (jqI (q_X5_testWord M b q)) 64 [(0, jR 71)] (jI zz :: []) M := by
            intro t_21 et_21
            refine j_iret rfl rfl rfl rfl dX5_testWord_64 ?_
            exact ⟨by (repeat' split) <;> omega, rfl⟩
          refine j_if_eq (tgt := 62) dX5_testWord_54 (by decide) (fun c54_22 => ?_) (fun c54_22 => ?_)
          · skip
            refine j_bipush dX5_testWord_62 (by decide) ?_
            exact hJ_20 _ (Or.inl ⟨c54_22, rfl⟩)
          · skip
            refine j_bipush dX5_testWord_57 (by decide) ?_
            refine j_goto (tgt := 64) dX5_testWord_59 (by decide) ?_
            exact hJ_20 _ (Or.inr (⟨c54_22, rfl⟩))
        · skip
          refine j_bipush dX5_testWord_45 (by decide) ?_
          refine j_iret rfl rfl rfl rfl dX5_testWord_47 ?_
          exact ⟨by (repeat' split) <;> omega, rfl⟩
      · skip
        refine j_bipush dX5_testWord_33 (by decide) ?_
        refine j_iret rfl rfl rfl rfl dX5_testWord_35 ?_
        exact ⟨by (repeat' split) <;> omega, rfl⟩
    · skip
      refine j_bipush dX5_testWord_21 (by decide) ?_
      refine j_iret rfl rfl rfl rfl dX5_testWord_23 ?_
      exact ⟨by (repeat' split) <;> omega, rfl⟩
  · skip
    refine j_bipush dX5_testWord_9 (by decide) ?_
    refine j_iret rfl rfl rfl rfl dX5_testWord_11 ?_
    exact ⟨by (repeat' split) <;> omega, rfl⟩
abbrev q_X5_ageSign (M : jM) (b : Int → Int) (q : Int)  : Int → jM → Prop := fun r N => r = (if lK b q = 3 then (if lV b q = 60 then 4 else if lV b q = 62 then 5 else if lV b q = 61 then 6 else -9) else -9) ∧ N = M
set_option maxHeartbeats 4000000 in
set_option maxRecDepth 20000 in
theorem c_X5_ageSign {X : jX} (M : jM) (b : Int → Int) (q : Int)  (ht : cT b M q) : jC yX5_ageSign D_X5_ageSign X FJ shJ [jR 71] M (jqI (q_X5_ageSign M b q)) := by
  refine jC_of (by decide) rfl (fun ad => Nat.le_of_ble_eq_true rfl) (by decide) ?_
  show jG D_X5_ageSign X FJ shJ 0 0 (jqI (q_X5_ageSign M b q)) 0 [(0, jR 71)] [] M
  have tt := (cT_tok ht).2.1
  have k1 := cK_sign (b := b) (q := q) (c := 60) (by decide)
  have k2 := cK_sign (b := b) (q := q) (c := 61) (by decide)
  have k3 := cK_sign (b := b) (q := q) (c := 62) (by decide)
  refine j_aload_n 0 dX5_ageSign_0 rfl rfl ?_
  refine j_geti (k' := 2) f_X5_41 o_71_2 dX5_ageSign_1 rfl ?_
  rcases (show (M 71 2) = 60 ∨ (M 71 2) = 61 ∨ (M 71 2) = 62 ∨ (M 71 2) < 60 ∨ 62 < (M 71 2) from by omega) with s_1 | s_1 | s_1 | s_1 | s_1
  · refine j_tswIn (tgt := 32) 60 s_1 dX5_ageSign_4 (by decide) (by decide) rfl (by decide) ?_
    refine j_iconst dX5_ageSign_32 (by decide) ?_
    refine j_iret rfl rfl rfl rfl dX5_ageSign_33 ?_
    exact ⟨by (repeat' split) <;> omega, rfl⟩
  · refine j_tswIn (tgt := 36) 61 s_1 dX5_ageSign_4 (by decide) (by decide) rfl (by decide) ?_
    refine j_bipush dX5_ageSign_36 (by decide) ?_
    refine j_iret rfl rfl rfl rfl dX5_ageSign_38 ?_
    exact ⟨by (repeat' split) <;> omega, rfl⟩
  · refine j_tswIn (tgt := 34) 62 s_1 dX5_ageSign_4 (by decide) (by decide) rfl (by decide) ?_
    refine j_iconst dX5_ageSign_34 (by decide) ?_
    refine j_iret rfl rfl rfl rfl dX5_ageSign_35 ?_
    exact ⟨by (repeat' split) <;> omega, rfl⟩
  · refine j_tswOut (tgt := 39) dX5_ageSign_4 (Or.inl s_1) (by decide) ?_
    refine j_bipush dX5_ageSign_39 (by decide) ?_
    refine j_iret rfl rfl rfl rfl dX5_ageSign_41 ?_
    exact ⟨by (repeat' split) <;> omega, rfl⟩
  · refine j_tswOut (tgt := 39) dX5_ageSign_4 (Or.inr s_1) (by decide) ?_
    refine j_bipush dX5_ageSign_39 (by decide) ?_
    refine j_iret rfl rfl rfl rfl dX5_ageSign_41 ?_
    exact ⟨by (repeat' split) <;> omega, rfl⟩
abbrev q_X5_waitFor (M : jM)  (c : Int) : jM → Prop := fun N => N = jup (jup M 73 (M 71 9) c) 71 9 (M 71 9 + 1)
set_option maxHeartbeats 4000000 in
set_option maxRecDepth 20000 in
theorem c_X5_waitFor {X : jX} (M : jM)  (c : Int) (h9 : 0 ≤ M 71 9 ∧ M 71 9 < 64) : jC yX5_waitFor D_X5_waitFor X FJ shJ [jR 71, jI c] M (jqV (q_X5_waitFor M c)) := by
  refine jC_of (by decide) rfl (fun ad => Nat.le_of_ble_eq_true rfl) (by decide) ?_
  show jG D_X5_waitFor X FJ shJ 0 0 (jqV (q_X5_waitFor M c)) 0 [(0, jR 71), (1, jI c)] [] M
  refine j_aload_n 0 dX5_waitFor_0 rfl rfl ?_
  refine j_geti (k' := 9) f_X5_156 o_71_9 dX5_waitFor_1 rfl ?_
  refine j_aload_n 0 dX5_waitFor_4 rfl rfl ?_
  refine j_getr f_X5_15 r_71_8 dX5_waitFor_5 ?_
  refine j_alen (n' := 64) a_73 (by decide) dX5_waitFor_8 rfl ?_
  refine j_icmp_ge (tgt := 32) dX5_waitFor_9 (by decide) (fun c9_1 => ?_) (fun c9_1 => ?_)
  · skip
    exfalso; omega
  · skip
    refine j_aload_n 0 dX5_waitFor_12 rfl rfl ?_
    refine j_getr f_X5_15 r_71_8 dX5_waitFor_13 ?_
    refine j_aload_n 0 dX5_waitFor_16 rfl rfl ?_
    refine j_geti (k' := 9) f_X5_156 o_71_9 dX5_waitFor_17 rfl ?_
    refine j_iload_n 1 dX5_waitFor_20 rfl rfl ?_
    refine j_iast a_73 dX5_waitFor_21 (by omega) (by omega) ?_
    refine j_nmM (fun M_2 eM_2 => ?_)
    refine j_aload_n 0 dX5_waitFor_22 rfl rfl ?_
    refine j_dup dX5_waitFor_23 rfl ?_
    refine j_geti (k' := 9) f_X5_156 o_71_9 dX5_waitFor_24 rfl ?_
    refine j_eq (congrFun ((congrFun eM_2 71).trans (jup_cell (by decide))) 9) ?_
    refine j_iconst dX5_waitFor_27 (by decide) ?_
    refine j_iadd dX5_waitFor_28 (by omega) ?_
    refine j_puti (k' := 9) f_X5_156 o_71_9 dX5_waitFor_29 rfl ?_
    refine j_nmM (fun M_3 eM_3 => ?_)
    refine j_vret rfl rfl rfl rfl dX5_waitFor_32 ?_
    rw [eM_3, eM_2]
abbrev q_X5_turnNext (M : jM)   : jM → Prop := fun N => ((0 < M 71 9 ∧ M 73 (M 71 9 - 1) = 3) ∧ N = jup M 71 9 (M 71 9 - 1)) ∨ (¬ (0 < M 71 9 ∧ M 73 (M 71 9 - 1) = 3) ∧ N = jup (jup M 73 (M 71 9) 3) 71 9 (M 71 9 + 1))
set_option maxHeartbeats 4000000 in
set_option maxRecDepth 20000 in
theorem c_X5_turnNext {X : jX} (M : jM)   (h9 : 0 ≤ M 71 9 ∧ M 71 9 < 64) : jC yX5_turnNext D_X5_turnNext X FJ shJ [jR 71] M (jqV (q_X5_turnNext M)) := by
  refine jC_of (by decide) rfl (fun ad => Nat.le_of_ble_eq_true rfl) (by decide) ?_
  show jG D_X5_turnNext X FJ shJ 0 0 (jqV (q_X5_turnNext M)) 0 [(0, jR 71)] [] M
  refine j_aload_n 0 dX5_turnNext_0 rfl rfl ?_
  refine j_geti (k' := 9) f_X5_156 o_71_9 dX5_turnNext_1 rfl ?_
  refine j_if_le (tgt := 35) dX5_turnNext_4 (by decide) (fun c4_1 => ?_) (fun c4_1 => ?_)
  · skip
    refine j_aload_n 0 dX5_turnNext_35 rfl rfl ?_
    refine j_iconst dX5_turnNext_36 (by decide) ?_
    refine j_callVv l_X5_162 ⟨Nat.le_of_ble_eq_true rfl, Nat.le_of_ble_eq_true rfl⟩ ⟨rfl, rfl⟩ dX5_turnNext_37 ob_71 (c_X5_waitFor M 3 h9) rfl rfl (Nat.le_of_ble_eq_true rfl) (fun M_3 h_4 => ?_)
    have eM_3 := h_4
    unfold q_X5_waitFor at eM_3
    refine j_vret rfl rfl rfl rfl dX5_turnNext_40 ?_
    first | exact Or.inl ⟨by omega, by rw [jup_zz]⟩ | exact Or.inr ⟨by omega, eM_3⟩
  · skip
    refine j_aload_n 0 dX5_turnNext_7 rfl rfl ?_
    refine j_getr f_X5_15 r_71_8 dX5_turnNext_8 ?_
    refine j_aload_n 0 dX5_turnNext_11 rfl rfl ?_
    refine j_geti (k' := 9) f_X5_156 o_71_9 dX5_turnNext_12 rfl ?_
    refine j_iconst dX5_turnNext_15 (by decide) ?_
    refine j_isub dX5_turnNext_16 (by omega) ?_
    refine j_iald a_73 dX5_turnNext_17 (by omega) (by omega) ?_
    refine j_iconst dX5_turnNext_18 (by decide) ?_
    refine j_icmp_ne (tgt := 35) dX5_turnNext_19 (by decide) (fun c19_5 => ?_) (fun c19_5 => ?_)
    · skip
      refine j_aload_n 0 dX5_turnNext_35 rfl rfl ?_
      refine j_iconst dX5_turnNext_36 (by decide) ?_
      refine j_callVv l_X5_162 ⟨Nat.le_of_ble_eq_true rfl, Nat.le_of_ble_eq_true rfl⟩ ⟨rfl, rfl⟩ dX5_turnNext_37 ob_71 (c_X5_waitFor M 3 h9) rfl rfl (Nat.le_of_ble_eq_true rfl) (fun M_7 h_8 => ?_)
      have eM_7 := h_8
      unfold q_X5_waitFor at eM_7
      refine j_vret rfl rfl rfl rfl dX5_turnNext_40 ?_
      first | exact Or.inl ⟨by omega, by rw [jup_zz]⟩ | exact Or.inr ⟨by omega, eM_7⟩
    · skip
      refine j_aload_n 0 dX5_turnNext_22 rfl rfl ?_
      refine j_dup dX5_turnNext_23 rfl ?_
      refine j_geti (k' := 9) f_X5_156 o_71_9 dX5_turnNext_24 rfl ?_
      refine j_iconst dX5_turnNext_27 (by decide) ?_
      refine j_isub dX5_turnNext_28 (by omega) ?_
      refine j_puti (k' := 9) f_X5_156 o_71_9 dX5_turnNext_29 rfl ?_
      refine j_nmM (fun M_9 eM_9 => ?_)
      refine j_goto (tgt := 40) dX5_turnNext_32 (by decide) ?_
      refine j_vret rfl rfl rfl rfl dX5_turnNext_40 ?_
      first | exact Or.inl ⟨by omega, by rw [eM_9]⟩ | exact Or.inr ⟨by omega, eM_9⟩
abbrev q_X5_release (M : jM) (f : Int) (hf : jA f) (S0 : Int) (W O : List Int) (p : Int) : jM → Prop := fun N => cC f S0 N (cRel p W O).1 (cRel p W O).2 ∧ cCF f S0 M N ∧ N f 9 + N 71 9 = M f 9 + M 71 9 ∧ ∀ k, k ≠ 9 → N 71 k = M 71 k
set_option maxHeartbeats 4000000 in
set_option maxRecDepth 20000 in
theorem c_X5_release {X : jX} (M : jM) (f : Int) (hf : jA f) (S0 : Int) (W O : List Int) (p : Int) (hc : cC f S0 M W O) (hwo : wOrd W) (hp : 1 ≤ p) (hsz : M f 9 + M 71 9 ≤ 900 ∧ W.length ≤ 64) : jC yX5_release D_X5_release X FJ shJ [jR 71, jI p] M (jqV (q_X5_release M f hf S0 W O p)) := by
  refine jC_of (by decide) rfl (fun ad => Nat.le_of_ble_eq_true rfl) (by decide) ?_
  show jG D_X5_release X FJ shJ 0 0 (jqV (q_X5_release M f hf S0 W O p)) 0 [(0, jR 71), (1, jI p)] [] M
  have hf2 : f = 47 ∨ f = 59 := hf
  have hl0 := cC_len hc
  have lp0_1 : ∀ n0 : Nat, ∀ N0 : jM, (rlI f S0 p (cRel p W O) N0) ∧ (cCF f S0 M N0) ∧ (N0 f 9 + N0 71 9 = M f 9 + M 71 9 ∧ N0 71 9 ≤ 64) ∧ (∀ k, k ≠ 9 → N0 71 k = M 71 k) → (N0 71 9).toNat < n0 → jG D_X5_release X FJ shJ 0 0 (jqV (q_X5_release M f hf S0 W O p)) 0 [(0, jR 71), (1, jI p)] ([]) N0 := by
    intro n0
    induction n0 with
    | zero => intro  N0 _ hz; exact absurd hz (Nat.not_lt_zero _)
    | succ n0 ih0 =>
      intro  N0 hinv hm
      obtain ⟨hi, hcf, hsm, hk9⟩ := hinv
      have hin := rlI_in hi
      have h6 := hin.2.2.2.1
      have hi1 := hin.1
      have hi2 := hin.2.1
      have hi3 := hin.2.2.1
      have hi5 := hin.2.2.2.2
      refine j_aload_n 0 dX5_release_0 rfl rfl ?_
      refine j_geti (k' := 9) f_X5_156 o_71_9 dX5_release_1 rfl ?_
      refine j_if_le (tgt := 52) dX5_release_4 (by decide) (fun c4_2 => ?_) (fun c4_2 => ?_)
      · skip
        refine j_vret rfl rfl rfl rfl dX5_release_52 ?_
        exact ⟨rlI_end hi (by omega), hcf, hsm.1, hk9⟩
      · skip
        refine j_aload_n 0 dX5_release_7 rfl rfl ?_
        refine j_getr f_X5_15 r_71_8 dX5_release_8 ?_
        refine j_aload_n 0 dX5_release_11 rfl rfl ?_
        refine j_geti (k' := 9) f_X5_156 o_71_9 dX5_release_12 rfl ?_
        refine j_iconst dX5_release_15 (by decide) ?_
        refine j_isub dX5_release_16 (by omega) ?_
        refine j_iald a_73 dX5_release_17 (by omega) (by omega) ?_
        refine j_iload_n 1 dX5_release_18 rfl rfl ?_
        refine j_icmp_lt (tgt := 52) dX5_release_19 (by decide) (fun c19_3 => ?_) (fun c19_3 => ?_)
        · skip
          refine j_vret rfl rfl rfl rfl dX5_release_52 ?_
          exact ⟨rlI_end hi (by omega), hcf, hsm.1, hk9⟩
        · skip
          refine j_aload_n 0 dX5_release_22 rfl rfl ?_
          refine j_dup dX5_release_23 rfl ?_
          refine j_geti (k' := 9) f_X5_156 o_71_9 dX5_release_24 rfl ?_
          refine j_iconst dX5_release_27 (by decide) ?_
          refine j_isub dX5_release_28 (by omega) ?_
          refine j_puti (k' := 9) f_X5_156 o_71_9 dX5_release_29 rfl ?_
          refine j_nmM (fun M_4 eM_4 => ?_)
          have h6x : M_4 71 6 = f := by rw [eM_4, jup_ne (by decide)]; exact h6
          have g0 : M_4 f 0 = N0 f 0 := by rw [eM_4, jup_cellk (by omega)]
          have g9 : M_4 f 9 = N0 f 9 := by rw [eM_4, jup_cellk (by omega)]
          have e1M := eM_4
          refine j_aload_n 0 dX5_release_32 rfl rfl ?_
          refine j_getd (k' := 6) f_X5_19 o_71_6 dX5_release_33 rfl ?_
          refine j_eqR (y := f) (by first | exact h6x | exact h6) ?_
          refine j_aload_n 0 dX5_release_36 rfl rfl ?_
          refine j_getr f_X5_15 r_71_8 dX5_release_37 ?_
          refine j_aload_n 0 dX5_release_40 rfl rfl ?_
          refine j_geti (k' := 9) f_X5_156 o_71_9 dX5_release_41 rfl ?_
          refine j_eq ((congrFun (congrFun eM_4 71) 9).trans (jup_self _ _ _ _)) ?_
          refine j_iald a_73 dX5_release_44 (by omega) (by omega) ?_
          refine j_eq (congrFun ((congrFun eM_4 73).trans (jup_cell (by decide))) ((N0 71 9) - 1)) ?_
          refine j_iconst dX5_release_45 (by decide) ?_
          refine j_callVv l_X5_175 ⟨Nat.le_of_ble_eq_true rfl, Nat.le_of_ble_eq_true rfl⟩ ⟨rfl, rfl⟩ dX5_release_46 (oba hf) (c_X0_addStep M_4 f hf ((N0 73 ((N0 71 9) - 1))) 0 (by rw [g0]; omega) (by rw [g9]; omega)) rfl rfl (Nat.le_of_ble_eq_true rfl) (fun M_6 h_7 => ?_)
          have eM_6 := h_7
          unfold q_X0_addStep at eM_6
          refine j_goto (tgt := 0) dX5_release_49 (by decide) ?_
          exact ih0 M_6 ⟨by rw [eM_6, e1M]; exact rlI_step hf2 hi (by omega) (by omega), by rw [eM_6]; refine cCF_tr hcf (cCF_tr ?_ (cCF_add hf2 (by rw [g9]; omega))); rw [e1M]; exact cCF_71 hf2 (Or.inr rfl), by rw [eM_6]; rw [jup_cellk (by omega), jup_self, jup_cellk (by omega), jup_cellk (by omega), jup_cellk (by omega), g9, e1M, jup_self]; omega, by intro k z; rw [eM_6, jup_cellk (by omega), jup_cellk (by omega), jup_cellk (by omega), e1M, jup_ne (by omega)]; exact hk9 k z⟩ (by rw [eM_6, jup_cellk (by omega), jup_cellk (by omega), jup_cellk (by omega), e1M, jup_self]; omega)
  exact lp0_1 _ M ⟨by exact ⟨W, O, hc, hwo, rfl⟩, by exact cCF_rf f S0 M, by omega, by intro k _; rfl⟩ (Nat.lt_succ_self _)
abbrev q_X5_close (M : jM) (f : Int) (hf : jA f) (S0 : Int) (W O : List Int)  : jM → Prop := fun N => cC f S0 N (cRel 3 (cRel 1 W O).1.tail (cRel 1 W O).2).1 (cRel 3 (cRel 1 W O).1.tail (cRel 1 W O).2).2 ∧ cCF f S0 M N ∧ N f 9 + N 71 9 ≤ M f 9 + M 71 9 ∧ ∀ k, k ≠ 9 → N 71 k = M 71 k
set_option maxHeartbeats 4000000 in
set_option maxRecDepth 20000 in
theorem c_X5_close {X : jX} (M : jM) (f : Int) (hf : jA f) (S0 : Int) (W O : List Int)  (hc : cC f S0 M W O) (hwo : wOrd W) (hsz : M f 9 + M 71 9 ≤ 900 ∧ W.length ≤ 64) : jC yX5_close D_X5_close X FJ shJ [jR 71] M (jqV (q_X5_close M f hf S0 W O)) := by
  refine jC_of (by decide) rfl (fun ad => Nat.le_of_ble_eq_true rfl) (by decide) ?_
  show jG D_X5_close X FJ shJ 0 0 (jqV (q_X5_close M f hf S0 W O)) 0 [(0, jR 71)] [] M
  have hf2 : f = 47 ∨ f = 59 := hf
  refine j_aload_n 0 dX5_close_0 rfl rfl ?_
  refine j_iconst dX5_close_1 (by decide) ?_
  refine j_callVv l_X5_169 ⟨Nat.le_of_ble_eq_true rfl, Nat.le_of_ble_eq_true rfl⟩ ⟨rfl, rfl⟩ dX5_close_2 ob_71 (c_X5_release M f hf S0 W O 1 hc hwo (by omega) hsz) rfl rfl (Nat.le_of_ble_eq_true rfl) (fun M_2 h_3 => ?_)
  obtain ⟨rlh_3, rfh_3, rsh_3, rkh_3⟩ := h_3
  have rl1 := rlh_3
  have rf1 := rfh_3
  have rs1 := rsh_3
  have rk1 := rkh_3
  have hwr := wOrd_rel 1 W O hwo
  have hlr := cRel_len 1 W O
  have hln := cC_len rl1
  refine j_aload_n 0 dX5_close_5 rfl rfl ?_
  refine j_geti (k' := 9) f_X5_156 o_71_9 dX5_close_6 rfl ?_
  refine j_if_le (tgt := 22) dX5_close_9 (by decide) (fun c9_4 => ?_) (fun c9_4 => ?_)
  · skip
    have ct : cC f S0 M_2 (cRel 1 W O).1.tail (cRel 1 W O).2 := by first | exact cC_tl0 rl1 (by omega) | (rw [eM_2]; exact cC_tl1 hf2 rl1 (by omega))
    have cm : cCF f S0 M M_2 := by first | exact rf1 | (rw [eM_2]; exact cCF_tr rf1 (cCF_71 hf2 (Or.inr rfl)))
    have cs : (M_2 f 9 + M_2 71 9 ≤ M f 9 + M 71 9) ∧ (cRel 1 W O).1.tail.length ≤ 64 := by first | (rw [List.length_tail]; omega) | (rw [eM_2, jup_cellk (by omega), jup_self, List.length_tail]; omega)
    have ck : ∀ k, k ≠ 9 → M_2 71 k = M 71 k := by first | exact rk1 | (rw [eM_2]; exact fun k z => by rw [jup_ne (by omega)]; exact rk1 k z)
    refine j_aload_n 0 dX5_close_22 rfl rfl ?_
    refine j_iconst dX5_close_23 (by decide) ?_
    refine j_callVv l_X5_169 ⟨Nat.le_of_ble_eq_true rfl, Nat.le_of_ble_eq_true rfl⟩ ⟨rfl, rfl⟩ dX5_close_24 ob_71 (c_X5_release M_2 f hf S0 (cRel 1 W O).1.tail (cRel 1 W O).2 3 ct (wOrd_tail hwr) (by omega) (by omega)) rfl rfl (Nat.le_of_ble_eq_true rfl) (fun M_6 h_7 => ?_)
    obtain ⟨rlh_7, rfh_7, rsh_7, rkh_7⟩ := h_7
    refine j_vret rfl rfl rfl rfl dX5_close_27 ?_
    exact ⟨rlh_7, cCF_tr cm rfh_7, by omega, fun k z => (rkh_7 k z).trans (ck k z)⟩
  · skip
    refine j_aload_n 0 dX5_close_12 rfl rfl ?_
    refine j_dup dX5_close_13 rfl ?_
    refine j_geti (k' := 9) f_X5_156 o_71_9 dX5_close_14 rfl ?_
    refine j_iconst dX5_close_17 (by decide) ?_
    refine j_isub dX5_close_18 (by omega) ?_
    refine j_puti (k' := 9) f_X5_156 o_71_9 dX5_close_19 rfl ?_
    refine j_nmM (fun M_8 eM_8 => ?_)
    have ct : cC f S0 M_8 (cRel 1 W O).1.tail (cRel 1 W O).2 := by first | exact cC_tl0 rl1 (by omega) | (rw [eM_8]; exact cC_tl1 hf2 rl1 (by omega))
    have cm : cCF f S0 M M_8 := by first | exact rf1 | (rw [eM_8]; exact cCF_tr rf1 (cCF_71 hf2 (Or.inr rfl)))
    have cs : (M_8 f 9 + M_8 71 9 ≤ M f 9 + M 71 9) ∧ (cRel 1 W O).1.tail.length ≤ 64 := by first | (rw [List.length_tail]; omega) | (rw [eM_8, jup_cellk (by omega), jup_self, List.length_tail]; omega)
    have ck : ∀ k, k ≠ 9 → M_8 71 k = M 71 k := by first | exact rk1 | (rw [eM_8]; exact fun k z => by rw [jup_ne (by omega)]; exact rk1 k z)
    refine j_aload_n 0 dX5_close_22 rfl rfl ?_
    refine j_iconst dX5_close_23 (by decide) ?_
    refine j_callVv l_X5_169 ⟨Nat.le_of_ble_eq_true rfl, Nat.le_of_ble_eq_true rfl⟩ ⟨rfl, rfl⟩ dX5_close_24 ob_71 (c_X5_release M_8 f hf S0 (cRel 1 W O).1.tail (cRel 1 W O).2 3 ct (wOrd_tail hwr) (by omega) (by omega)) rfl rfl (Nat.le_of_ble_eq_true rfl) (fun M_10 h_11 => ?_)
    obtain ⟨rlh_11, rfh_11, rsh_11, rkh_11⟩ := h_11
    refine j_vret rfl rfl rfl rfl dX5_close_27 ?_
    exact ⟨rlh_11, cCF_tr cm rfh_11, by omega, fun k z => (rkh_11 k z).trans (ck k z)⟩
