abbrev q_X5_isWord (M : jM) (b : Int → Int) (q : Int) (i : Nat) (hi : i < 16) (w : Int) : Int → jM → Prop := fun r N => ((r = 1 ∧ (lK b q = 1 ∧ lV b q = wMap i)) ∨ (r = 0 ∧ ¬ (lK b q = 1 ∧ lV b q = wMap i))) ∧ N = M
set_option maxHeartbeats 4000000 in
set_option maxRecDepth 20000 in
theorem c_X5_isWord {X : jX} (M : jM) (b : Int → Int) (q : Int) (i : Nat) (hi : i < 16) (w : Int) (h_ctyped : 0 ≤ M 71 0 ∧ M 71 0 ≤ 900) (h_ctext : ∀ i, -128 ≤ M 72 i ∧ M 72 i ≤ 127) (ht : cT b M q) (hw : w = -10 - (i : Int)) : jC yX5_isWord D_X5_isWord X FJ shJ [jR 71, jR w] M (jqI (q_X5_isWord M b q i hi w)) := by
  refine jC_of (by decide) rfl (fun ad => Nat.le_of_ble_eq_true rfl) (by decide) ?_
  show jG D_X5_isWord X FJ shJ 0 0 (jqI (q_X5_isWord M b q i hi w)) 0 [(0, jR 71), (1, jR w)] [] M
  have tt := cT_tok ht
  have hbk := cT_bok ht h_ctyped
  have hsl := (jsl_all i hi).2
  have hmp := (wMap_all i hi).2
  have hin := lEd_in hbk tt.2.2.2.2.1.1 tt.2.2.2.2.1.2
  have e3 := tt.1
  have e2 := tt.2.1
  have e4 := tt.2.2.1
  have e5 := tt.2.2.2.2.1
  refine j_aload_n 0 dX5_isWord_0 rfl rfl ?_
  refine j_geti (k' := 2) f_X5_41 o_71_2 dX5_isWord_1 rfl ?_
  refine j_iconst dX5_isWord_4 (by decide) ?_
  refine j_icmp_ne (tgt := 19) dX5_isWord_5 (by decide) (fun c5_1 => ?_) (fun c5_1 => ?_)
  · skip
    refine j_iconst dX5_isWord_19 (by decide) ?_
    refine j_zret rfl rfl rfl rfl dX5_isWord_20 (by omega) ?_
    refine ⟨Or.inr ⟨rfl, fun z => ?_⟩, rfl⟩
    rw [lK_word (by omega)] at z
    have hlit := (lW_lit hbk e5.1 e5.2 z.1 hi).1 z.2
    have := cK_word.2 z.1
    omega
  · skip
    refine j_aload_n 0 dX5_isWord_8 rfl rfl ?_
    refine j_geti (k' := 4) f_X5_35 o_71_4 dX5_isWord_9 rfl ?_
    refine j_aload_n 1 dX5_isWord_12 rfl rfl ?_
    refine j_callT hi lt_len ⟨Nat.le_of_ble_eq_true rfl, Nat.le_of_ble_eq_true rfl⟩ ⟨rfl, rfl⟩ dX5_isWord_13 (c_slen M i hi) (as := []) (by rw [hw]; rfl) rfl (Nat.le_of_ble_eq_true rfl) (fun r_2 M_3 h_4 => ?_)
    obtain ⟨er_2, nh_4⟩ := h_4
    refine j_eqM nh_4 ?_
    clear nh_4
    refine j_icmp_eq (tgt := 21) dX5_isWord_16 (by decide) (fun c16_5 => ?_) (fun c16_5 => ?_)
    · skip
      have hL : isL (b q) := cK_word.1 (by omega)
      have hlit := lW_lit hbk e5.1 e5.2 hL hi
      refine j_iconst dX5_isWord_21 (by decide) ?_
      refine j_istore_n (ls' := [(0, jR 71), (1, jR w), (2, jI 0)]) dX5_isWord_22 rfl (by decide) rfl ?_
      have lp23_6 : ∀ n23 : Nat, ∀ (v2 : Int), (0 ≤ v2 ∧ v2 ≤ M 71 4) ∧ (∀ j, 0 ≤ j → j < v2 → b (q + j) = jch i j) → (M 71 4 - v2).toNat < n23 → jG D_X5_isWord X FJ shJ 0 0 (jqI (q_X5_isWord M b q i hi w)) 23 [(0, jR 71), (1, jR w), (2, jI v2)] ([]) M := by
        intro n23
        induction n23 with
        | zero => intro v2  _ hz; exact absurd hz (Nat.not_lt_zero _)
        | succ n23 ih23 =>
          intro v2  hinv hm
          obtain ⟨h1, h2⟩ := hinv
          refine j_iload_n 2 dX5_isWord_23 rfl rfl ?_
          refine j_aload_n 0 dX5_isWord_24 rfl rfl ?_
          refine j_geti (k' := 4) f_X5_35 o_71_4 dX5_isWord_25 rfl ?_
          refine j_icmp_ge (tgt := 58) dX5_isWord_28 (by decide) (fun c28_7 => ?_) (fun c28_7 => ?_)
          · skip
            refine j_iconst dX5_isWord_58 (by decide) ?_
            refine j_zret rfl rfl rfl rfl dX5_isWord_59 (by omega) ?_
            refine ⟨Or.inl ⟨rfl, ?_⟩, rfl⟩
            rw [lK_word (by omega)]
            exact ⟨hL, hlit.2 ⟨by omega, fun j a c => h2 j a (by omega)⟩⟩
          · skip
            have hx := cTx_at ht.1 (k := q + v2) (by omega) (by omega)
            have hc := (jch_at hi (j := v2) (by omega) (by omega)).1
            have hi3 : M 72 (M 71 3 + v2) = M 72 (q + v2) := by rw [e3]
            have hy := h_ctext (q + v2)
            refine j_aload_n 0 dX5_isWord_31 rfl rfl ?_
            refine j_getr f_X5_11 r_71_1 dX5_isWord_32 ?_
            refine j_aload_n 0 dX5_isWord_35 rfl rfl ?_
            refine j_geti (k' := 3) f_X5_32 o_71_3 dX5_isWord_36 rfl ?_
            refine j_iload_n 2 dX5_isWord_39 rfl rfl ?_
            refine j_iadd dX5_isWord_40 (by omega) ?_
            refine j_bald a_72 dX5_isWord_41 (by omega) (by omega) ?_
            have g_8 := h_ctext ((M 71 3) + v2)
            refine j_aload_n 1 dX5_isWord_42 rfl rfl ?_
            refine j_iload_n 2 dX5_isWord_43 rfl rfl ?_
            refine j_callT hi lt_chr ⟨Nat.le_of_ble_eq_true rfl, Nat.le_of_ble_eq_true rfl⟩ ⟨rfl, rfl⟩ dX5_isWord_44 (c_sch M i (v2) hi (by omega) (by omega)) (as := [jI (v2)]) (by rw [hw]; rfl) rfl (Nat.le_of_ble_eq_true rfl) (fun r_9 M_10 h_11 => ?_)
            obtain ⟨er_9, nh_11⟩ := h_11
            refine j_eqM nh_11 ?_
            clear nh_11
            refine j_icmp_eq (tgt := 52) dX5_isWord_47 (by decide) (fun c47_12 => ?_) (fun c47_12 => ?_)
            · skip
              obtain ⟨v2_13, ev2_13⟩ : ∃ y : Int, y = v2 + 1 := ⟨_, rfl⟩
              refine j_iinc (y := v2_13) (ls' := [(0, jR 71), (1, jR w), (2, jI v2_13)]) 2 dX5_isWord_52 rfl ev2_13 (by omega) (by decide) rfl ?_
              refine j_goto (tgt := 23) dX5_isWord_55 (by decide) ?_
              exact ih23 v2_13 ⟨by omega, by intro j a c; by_cases hj : j = v2; (· rw [hj]; omega); (· exact h2 j a (by omega))⟩ (by omega)
            · skip
              refine j_iconst dX5_isWord_50 (by decide) ?_
              refine j_zret rfl rfl rfl rfl dX5_isWord_51 (by omega) ?_
              refine ⟨Or.inr ⟨rfl, fun z => ?_⟩, rfl⟩
              rw [lK_word (by omega)] at z
              have y := (hlit.1 z.2).2 v2 (by omega) (by omega)
              omega
      exact lp23_6 _ 0 ⟨by omega, by intro j a c; omega⟩ (Nat.lt_succ_self _)
    · skip
      refine j_iconst dX5_isWord_19 (by decide) ?_
      refine j_zret rfl rfl rfl rfl dX5_isWord_20 (by omega) ?_
      refine ⟨Or.inr ⟨rfl, fun z => ?_⟩, rfl⟩
      rw [lK_word (by omega)] at z
      have hlit := (lW_lit hbk e5.1 e5.2 z.1 hi).1 z.2
      have := cK_word.2 z.1
      omega
abbrev q_X5_takeWord (M : jM) (b : Int → Int) (q : Int) (i : Nat) (hi : i < 16) (w : Int) : Int → jM → Prop := fun r N => ((r = 1 ∧ (lK b q = 1 ∧ lV b q = wMap i) ∧ cT b N (lNx b q)) ∨ (r = 0 ∧ ¬ (lK b q = 1 ∧ lV b q = wMap i) ∧ cT b N q)) ∧ cFr M N
set_option maxHeartbeats 4000000 in
set_option maxRecDepth 20000 in
theorem c_X5_takeWord {X : jX} (M : jM) (b : Int → Int) (q : Int) (i : Nat) (hi : i < 16) (w : Int) (h_ctyped : 0 ≤ M 71 0 ∧ M 71 0 ≤ 900) (h_ctext : ∀ i, -128 ≤ M 72 i ∧ M 72 i ≤ 127) (ht : cT b M q) (hw : w = -10 - (i : Int)) : jC yX5_takeWord D_X5_takeWord X FJ shJ [jR 71, jR w] M (jqI (q_X5_takeWord M b q i hi w)) := by
  refine jC_of (by decide) rfl (fun ad => Nat.le_of_ble_eq_true rfl) (by decide) ?_
  show jG D_X5_takeWord X FJ shJ 0 0 (jqI (q_X5_takeWord M b q i hi w)) 0 [(0, jR 71), (1, jR w)] [] M
  refine j_aload_n 0 dX5_takeWord_0 rfl rfl ?_
  refine j_aload_n 1 dX5_takeWord_1 rfl rfl ?_
  refine j_callVi l_X5_46 ⟨Nat.le_of_ble_eq_true rfl, Nat.le_of_ble_eq_true rfl⟩ ⟨rfl, rfl⟩ dX5_takeWord_2 ob_71 (c_X5_isWord M b q i hi w h_ctyped h_ctext ht hw) rfl rfl (Nat.le_of_ble_eq_true rfl) (fun r_1 M_2 h_3 => ?_)
  obtain ⟨er_1, nh_3⟩ := h_3
  refine j_eqM nh_3 ?_
  clear nh_3
  refine j_if_ne (tgt := 10) dX5_takeWord_5 (by decide) (fun c5_4 => ?_) (fun c5_4 => ?_)
  · skip
    refine j_aload_n 0 dX5_takeWord_10 rfl rfl ?_
    refine j_callVv l_X5_38 ⟨Nat.le_of_ble_eq_true rfl, Nat.le_of_ble_eq_true rfl⟩ ⟨rfl, rfl⟩ dX5_takeWord_11 ob_71 (c_X5_step M _ h_ctyped h_ctext ht.1 (cT_pre ht h_ctyped)) rfl rfl (Nat.le_of_ble_eq_true rfl) (fun M_6 h_7 => ?_)
    have sth_7 := h_7
    unfold q_X5_step at sth_7
    have frh_7 := sth_7.2.2.1
    refine j_iconst dX5_takeWord_14 (by decide) ?_
    refine j_zret rfl rfl rfl rfl dX5_takeWord_15 (by omega) ?_
    first | exact ⟨Or.inl ⟨rfl, by omega, cT_step ht sth_7⟩, sth_7.2.2⟩ | exact ⟨Or.inr ⟨rfl, by omega, ht⟩, cFr_rf M⟩
  · skip
    refine j_iconst dX5_takeWord_8 (by decide) ?_
    refine j_zret rfl rfl rfl rfl dX5_takeWord_9 (by omega) ?_
    first | exact ⟨Or.inl ⟨rfl, by omega, cT_step ht sth_7⟩, sth_7.2.2⟩ | exact ⟨Or.inr ⟨rfl, by omega, ht⟩, cFr_rf M⟩
abbrev q_X5_takeSign (M : jM) (b : Int → Int) (q : Int) (c : Int) : Int → jM → Prop := fun r N => ((r = 1 ∧ (lK b q = 3 ∧ lV b q = c) ∧ cT b N (lNx b q)) ∨ (r = 0 ∧ ¬ (lK b q = 3 ∧ lV b q = c) ∧ cT b N q)) ∧ cFr M N
set_option maxHeartbeats 4000000 in
set_option maxRecDepth 20000 in
theorem c_X5_takeSign {X : jX} (M : jM) (b : Int → Int) (q : Int) (c : Int) (h_ctyped : 0 ≤ M 71 0 ∧ M 71 0 ≤ 900) (h_ctext : ∀ i, -128 ≤ M 72 i ∧ M 72 i ≤ 127) (ht : cT b M q) (hc : isSg c) : jC yX5_takeSign D_X5_takeSign X FJ shJ [jR 71, jI c] M (jqI (q_X5_takeSign M b q c)) := by
  refine jC_of (by decide) rfl (fun ad => Nat.le_of_ble_eq_true rfl) (by decide) ?_
  show jG D_X5_takeSign X FJ shJ 0 0 (jqI (q_X5_takeSign M b q c)) 0 [(0, jR 71), (1, jI c)] [] M
  have tt := (cT_tok ht).2.1
  have hcs := cK_sign (b := b) (q := q) hc
  refine j_aload_n 0 dX5_takeSign_0 rfl rfl ?_
  refine j_geti (k' := 2) f_X5_41 o_71_2 dX5_takeSign_1 rfl ?_
  refine j_iload_n 1 dX5_takeSign_4 rfl rfl ?_
  refine j_icmp_eq (tgt := 10) dX5_takeSign_5 (by decide) (fun c5_1 => ?_) (fun c5_1 => ?_)
  · skip
    refine j_aload_n 0 dX5_takeSign_10 rfl rfl ?_
    refine j_callVv l_X5_38 ⟨Nat.le_of_ble_eq_true rfl, Nat.le_of_ble_eq_true rfl⟩ ⟨rfl, rfl⟩ dX5_takeSign_11 ob_71 (c_X5_step M b h_ctyped h_ctext ht.1 (cT_pre ht h_ctyped)) rfl rfl (Nat.le_of_ble_eq_true rfl) (fun M_3 h_4 => ?_)
    have sth_4 := h_4
    unfold q_X5_step at sth_4
    have frh_4 := sth_4.2.2.1
    refine j_iconst dX5_takeSign_14 (by decide) ?_
    refine j_zret rfl rfl rfl rfl dX5_takeSign_15 (by omega) ?_
    first | exact ⟨Or.inl ⟨rfl, by omega, cT_step ht sth_4⟩, sth_4.2.2⟩ | exact ⟨Or.inr ⟨rfl, by omega, ht⟩, cFr_rf M⟩
  · skip
    refine j_iconst dX5_takeSign_8 (by decide) ?_
    refine j_zret rfl rfl rfl rfl dX5_takeSign_9 (by omega) ?_
    first | exact ⟨Or.inl ⟨rfl, by omega, cT_step ht sth_4⟩, sth_4.2.2⟩ | exact ⟨Or.inr ⟨rfl, by omega, ht⟩, cFr_rf M⟩
abbrev q_X5_takeNumber (M : jM) (b : Int → Int) (q : Int) (lo hi : Int) : Int → jM → Prop := fun r N => ((r = lV b q ∧ (lK b q = 2 ∧ lo ≤ lV b q ∧ lV b q ≤ hi) ∧ cT b N (lNx b q)) ∨ (r = -9 ∧ ¬ (lK b q = 2 ∧ lo ≤ lV b q ∧ lV b q ≤ hi) ∧ cT b N q)) ∧ cFr M N
set_option maxHeartbeats 4000000 in
set_option maxRecDepth 20000 in
theorem c_X5_takeNumber {X : jX} (M : jM) (b : Int → Int) (q : Int) (lo hi : Int) (h_ctyped : 0 ≤ M 71 0 ∧ M 71 0 ≤ 900) (h_ctext : ∀ i, -128 ≤ M 72 i ∧ M 72 i ≤ 127) (ht : cT b M q) : jC yX5_takeNumber D_X5_takeNumber X FJ shJ [jR 71, jI lo, jI hi] M (jqI (q_X5_takeNumber M b q lo hi)) := by
  refine jC_of (by decide) rfl (fun ad => Nat.le_of_ble_eq_true rfl) (by decide) ?_
  show jG D_X5_takeNumber X FJ shJ 0 0 (jqI (q_X5_takeNumber M b q lo hi)) 0 [(0, jR 71), (1, jI lo), (2, jI hi)] [] M
  have tt := cT_tok ht
  have tt2 := tt.2.1
  have tt5 := tt.2.2.2.1
  have hcs := cK_num (b := b) (q := q)
  refine j_aload_n 0 dX5_takeNumber_0 rfl rfl ?_
  refine j_geti (k' := 2) f_X5_41 o_71_2 dX5_takeNumber_1 rfl ?_
  refine j_bipush dX5_takeNumber_4 (by decide) ?_
  refine j_icmp_ne (tgt := 25) dX5_takeNumber_6 (by decide) (fun c6_1 => ?_) (fun c6_1 => ?_)
  · skip
    refine j_bipush dX5_takeNumber_25 (by decide) ?_
    refine j_iret rfl rfl rfl rfl dX5_takeNumber_27 ?_
    first | exact ⟨Or.inl ⟨by omega, by omega, cT_step ht st⟩, st.2.2⟩ | exact ⟨Or.inr ⟨rfl, by omega, ht⟩, cFr_rf M⟩
  · skip
    refine j_aload_n 0 dX5_takeNumber_9 rfl rfl ?_
    refine j_geti (k' := 5) f_X5_68 o_71_5 dX5_takeNumber_10 rfl ?_
    refine j_iload_n 1 dX5_takeNumber_13 rfl rfl ?_
    refine j_icmp_lt (tgt := 25) dX5_takeNumber_14 (by decide) (fun c14_2 => ?_) (fun c14_2 => ?_)
    · skip
      refine j_bipush dX5_takeNumber_25 (by decide) ?_
      refine j_iret rfl rfl rfl rfl dX5_takeNumber_27 ?_
      first | exact ⟨Or.inl ⟨by omega, by omega, cT_step ht st⟩, st.2.2⟩ | exact ⟨Or.inr ⟨rfl, by omega, ht⟩, cFr_rf M⟩
    · skip
      refine j_aload_n 0 dX5_takeNumber_17 rfl rfl ?_
      refine j_geti (k' := 5) f_X5_68 o_71_5 dX5_takeNumber_18 rfl ?_
      refine j_iload_n 2 dX5_takeNumber_21 rfl rfl ?_
      refine j_icmp_le (tgt := 28) dX5_takeNumber_22 (by decide) (fun c22_3 => ?_) (fun c22_3 => ?_)
      · skip
        refine j_aload_n 0 dX5_takeNumber_28 rfl rfl ?_
        refine j_geti (k' := 5) f_X5_68 o_71_5 dX5_takeNumber_29 rfl ?_
        refine j_nm (fun v3_4 ev3_4 => ?_)
        refine j_istore_n (ls' := [(0, jR 71), (1, jI lo), (2, jI hi), (3, jI v3_4)]) dX5_takeNumber_32 rfl (by decide) rfl ?_
        refine j_aload_n 0 dX5_takeNumber_33 rfl rfl ?_
        refine j_callVv l_X5_38 ⟨Nat.le_of_ble_eq_true rfl, Nat.le_of_ble_eq_true rfl⟩ ⟨rfl, rfl⟩ dX5_takeNumber_34 ob_71 (c_X5_step M _ h_ctyped h_ctext ht.1 (cT_pre ht h_ctyped)) rfl rfl (Nat.le_of_ble_eq_true rfl) (fun M_6 h_7 => ?_)
        have sth_7 := h_7
        unfold q_X5_step at sth_7
        have frh_7 := sth_7.2.2.1
        refine j_iload_n 3 dX5_takeNumber_37 rfl rfl ?_
        refine j_iret rfl rfl rfl rfl dX5_takeNumber_38 ?_
        first | exact ⟨Or.inl ⟨by omega, by omega, cT_step ht sth_7⟩, sth_7.2.2⟩ | exact ⟨Or.inr ⟨rfl, by omega, ht⟩, cFr_rf M⟩
      · skip
        refine j_bipush dX5_takeNumber_25 (by decide) ?_
        refine j_iret rfl rfl rfl rfl dX5_takeNumber_27 ?_
        first | exact ⟨Or.inl ⟨by omega, by omega, cT_step ht sth_7⟩, sth_7.2.2⟩ | exact ⟨Or.inr ⟨rfl, by omega, ht⟩, cFr_rf M⟩
abbrev q_X9_isWell (M : jM)   : Int → jM → Prop := fun r N => ((r = 1 ∧ (M 74 19 < 0)) ∨ (r = 0 ∧ ¬ (M 74 19 < 0))) ∧ N = M
set_option maxHeartbeats 4000000 in
set_option maxRecDepth 20000 in
theorem c_X9_isWell {X : jX} (M : jM)    : jC yX9_isWell D_X9_isWell X FJ shJ [jR 74] M (jqI (q_X9_isWell M)) := by
  refine jC_of (by decide) rfl (fun ad => Nat.le_of_ble_eq_true rfl) (by decide) ?_
  show jG D_X9_isWell X FJ shJ 0 0 (jqI (q_X9_isWell M)) 0 [(0, jR 74)] [] M
  refine j_aload_n 0 dX9_isWell_0 rfl rfl ?_
  refine j_geti (k' := 19) f_X9_200 o_74_19 dX9_isWell_1 rfl ?_
  have hJ_1 : ∀ zz : Int, (0 ≤ (M 74 19) ∧ zz = 0) ∨ (¬ (0 ≤ (M 74 19)) ∧ zz = 1) → jG D_X9_isWell X FJ shJ 0 0 (jqI (q_X9_isWell M)) 12 [(0, jR 74)] (jI zz :: []) M := by
    intro t_2 et_2
    refine j_zret rfl rfl rfl rfl dX9_isWell_12 (by omega) ?_
    exact ⟨by omega, rfl⟩
  refine j_if_ge (tgt := 11) dX9_isWell_4 (by decide) (fun c4_3 => ?_) (fun c4_3 => ?_)
  · skip
    refine j_iconst dX9_isWell_11 (by decide) ?_
    exact hJ_1 _ (Or.inl ⟨c4_3, rfl⟩)
  · skip
    refine j_iconst dX9_isWell_7 (by decide) ?_
    refine j_goto (tgt := 12) dX9_isWell_8 (by decide) ?_
    exact hJ_1 _ (Or.inr (⟨c4_3, rfl⟩))
abbrev q_X9_fails (M : jM) (b : Int → Int) (s : Int)  : jM → Prop := fun N => rP b N (fl s) ∧ rF2 M N
set_option maxHeartbeats 4000000 in
set_option maxRecDepth 20000 in
theorem c_X9_fails {X : jX} (M : jM) (b : Int → Int) (s : Int)  (hp : rP b M s) : jC yX9_fails D_X9_fails X FJ shJ [jR 74] M (jqV (q_X9_fails M b s)) := by
  refine jC_of (by decide) rfl (fun ad => Nat.le_of_ble_eq_true rfl) (by decide) ?_
  show jG D_X9_fails X FJ shJ 0 0 (jqV (q_X9_fails M b s)) 0 [(0, jR 74)] [] M
  refine j_aload_n 0 dX9_fails_0 rfl rfl ?_
  refine j_aload_n 0 dX9_fails_1 rfl rfl ?_
  refine j_geti (k' := 19) f_X9_200 o_74_19 dX9_fails_2 rfl ?_
  have hJ_1 : ∀ zz : Int, (0 ≤ (M 74 19) ∧ zz = (M 74 19)) ∨ (¬ (0 ≤ (M 74 19)) ∧ zz = (M 74 17)) → jG D_X9_fails X FJ shJ 0 0 (jqV (q_X9_fails M b s)) 19 [(0, jR 74)] (jI zz :: jR 74 :: []) M := by
    intro t_2 et_2
    refine j_puti (k' := 19) f_X9_200 o_74_19 dX9_fails_19 rfl ?_
    refine j_nmM (fun M_3 eM_3 => ?_)
    refine j_vret rfl rfl rfl rfl dX9_fails_22 ?_
    have e : M_3 = jup M 74 19 (if M 74 19 < 0 then M 74 17 else M 74 19) := by rw [eM_3]; congr 1; split <;> omega
    rw [e]
    exact ⟨rP_fl hp, rF2_19 M _⟩
  refine j_if_ge (tgt := 15) dX9_fails_5 (by decide) (fun c5_4 => ?_) (fun c5_4 => ?_)
  · skip
    refine j_aload_n 0 dX9_fails_15 rfl rfl ?_
    refine j_geti (k' := 19) f_X9_200 o_74_19 dX9_fails_16 rfl ?_
    exact hJ_1 _ (Or.inl ⟨c5_4, rfl⟩)
  · skip
    refine j_aload_n 0 dX9_fails_8 rfl rfl ?_
    refine j_geti (k' := 17) f_X9_188 o_74_17 dX9_fails_9 rfl ?_
    refine j_goto (tgt := 19) dX9_fails_12 (by decide) ?_
    exact hJ_1 _ (Or.inr (⟨c5_4, rfl⟩))
abbrev q_X9_isSign (M : jM) (b : Int → Int) (s : Int) (c : Int) : Int → jM → Prop := fun r N => ((r = 1 ∧ (0 ≤ s ∧ lK b s = 3 ∧ lV b s = c)) ∨ (r = 0 ∧ ¬ (0 ≤ s ∧ lK b s = 3 ∧ lV b s = c))) ∧ N = M
set_option maxHeartbeats 4000000 in
set_option maxRecDepth 20000 in
theorem c_X9_isSign {X : jX} (M : jM) (b : Int → Int) (s : Int) (c : Int) (hp : rP b M s) : jC yX9_isSign D_X9_isSign X FJ shJ [jR 74, jI c] M (jqI (q_X9_isSign M b s c)) := by
  refine jC_of (by decide) rfl (fun ad => Nat.le_of_ble_eq_true rfl) (by decide) ?_
  show jG D_X9_isSign X FJ shJ 0 0 (jqI (q_X9_isSign M b s c)) 0 [(0, jR 74), (1, jI c)] [] M
  have w0 := rP_19 hp
  have w1 := fun z => rP_well hp z
  have w2 := lK_in b s
  refine j_aload_n 0 dX9_isSign_0 rfl rfl ?_
  refine j_callVi l_X9_203 ⟨Nat.le_of_ble_eq_true rfl, Nat.le_of_ble_eq_true rfl⟩ ⟨rfl, rfl⟩ dX9_isSign_1 ob_74 (c_X9_isWell M) rfl rfl (Nat.le_of_ble_eq_true rfl) (fun r_1 M_2 h_3 => ?_)
  obtain ⟨er_1, nh_3⟩ := h_3
  refine j_eqM nh_3 ?_
  clear nh_3
  have hJ_4 : ∀ zz : Int, (r_1 = 0 ∧ zz = 0) ∨ (¬ r_1 = 0 ∧ ¬ (M 74 16) = 3 ∧ zz = 0) ∨ (¬ r_1 = 0 ∧ (M 74 16) = 3 ∧ ¬ (M 74 18) = c ∧ zz = 0) ∨ (¬ r_1 = 0 ∧ (M 74 16) = 3 ∧ (M 74 18) = c ∧ zz = 1) → jG D_X9_isSign X FJ shJ 0 0 (jqI (q_X9_isSign M b s c)) 28 [(0, jR 74), (1, jI c)] (jI zz :: []) M := by
    intro t_5 et_5
    refine j_zret rfl rfl rfl rfl dX9_isSign_28 (by omega) ?_
    exact ⟨by omega, rfl⟩
  refine j_if_eq (tgt := 27) dX9_isSign_4 (by decide) (fun c4_6 => ?_) (fun c4_6 => ?_)
  · skip
    refine j_iconst dX9_isSign_27 (by decide) ?_
    exact hJ_4 _ (Or.inl ⟨c4_6, rfl⟩)
  · skip
    refine j_aload_n 0 dX9_isSign_7 rfl rfl ?_
    refine j_geti (k' := 16) f_X9_191 o_74_16 dX9_isSign_8 rfl ?_
    refine j_iconst dX9_isSign_11 (by decide) ?_
    refine j_icmp_ne (tgt := 27) dX9_isSign_12 (by decide) (fun c12_7 => ?_) (fun c12_7 => ?_)
    · skip
      refine j_iconst dX9_isSign_27 (by decide) ?_
      exact hJ_4 _ (Or.inr (Or.inl ⟨c4_6, c12_7, rfl⟩))
    · skip
      refine j_aload_n 0 dX9_isSign_15 rfl rfl ?_
      refine j_geti (k' := 18) f_X9_194 o_74_18 dX9_isSign_16 rfl ?_
      refine j_iload_n 1 dX9_isSign_19 rfl rfl ?_
      refine j_icmp_ne (tgt := 27) dX9_isSign_20 (by decide) (fun c20_8 => ?_) (fun c20_8 => ?_)
      · skip
        refine j_iconst dX9_isSign_27 (by decide) ?_
        exact hJ_4 _ (Or.inr (Or.inr (Or.inl ⟨c4_6, c12_7, c20_8, rfl⟩)))
      · skip
        refine j_iconst dX9_isSign_23 (by decide) ?_
        refine j_goto (tgt := 28) dX9_isSign_24 (by decide) ?_
        exact hJ_4 _ (Or.inr (Or.inr (Or.inr (⟨c4_6, c12_7, c20_8, rfl⟩))))
abbrev q_X9_isWord (M : jM) (b : Int → Int) (s : Int) (k : Int) : Int → jM → Prop := fun r N => ((r = 1 ∧ (0 ≤ s ∧ lK b s = 1 ∧ lV b s = k)) ∨ (r = 0 ∧ ¬ (0 ≤ s ∧ lK b s = 1 ∧ lV b s = k))) ∧ N = M
set_option maxHeartbeats 4000000 in
set_option maxRecDepth 20000 in
theorem c_X9_isWord {X : jX} (M : jM) (b : Int → Int) (s : Int) (k : Int) (hp : rP b M s) : jC yX9_isWord D_X9_isWord X FJ shJ [jR 74, jI k] M (jqI (q_X9_isWord M b s k)) := by
  refine jC_of (by decide) rfl (fun ad => Nat.le_of_ble_eq_true rfl) (by decide) ?_
  show jG D_X9_isWord X FJ shJ 0 0 (jqI (q_X9_isWord M b s k)) 0 [(0, jR 74), (1, jI k)] [] M
  have w0 := rP_19 hp
  have w1 := fun z => rP_well hp z
  have w2 := lK_in b s
  refine j_aload_n 0 dX9_isWord_0 rfl rfl ?_
  refine j_callVi l_X9_203 ⟨Nat.le_of_ble_eq_true rfl, Nat.le_of_ble_eq_true rfl⟩ ⟨rfl, rfl⟩ dX9_isWord_1 ob_74 (c_X9_isWell M) rfl rfl (Nat.le_of_ble_eq_true rfl) (fun r_1 M_2 h_3 => ?_)
  obtain ⟨er_1, nh_3⟩ := h_3
  refine j_eqM nh_3 ?_
  clear nh_3
  have hJ_4 : ∀ zz : Int, (r_1 = 0 ∧ zz = 0) ∨ (¬ r_1 = 0 ∧ ¬ (M 74 16) = 1 ∧ zz = 0) ∨ (¬ r_1 = 0 ∧ (M 74 16) = 1 ∧ ¬ (M 74 18) = k ∧ zz = 0) ∨ (¬ r_1 = 0 ∧ (M 74 16) = 1 ∧ (M 74 18) = k ∧ zz = 1) → jG D_X9_isWord X FJ shJ 0 0 (jqI (q_X9_isWord M b s k)) 28 [(0, jR 74), (1, jI k)] (jI zz :: []) M := by
    intro t_5 et_5
    refine j_zret rfl rfl rfl rfl dX9_isWord_28 (by omega) ?_
    exact ⟨by omega, rfl⟩
  refine j_if_eq (tgt := 27) dX9_isWord_4 (by decide) (fun c4_6 => ?_) (fun c4_6 => ?_)
  · skip
    refine j_iconst dX9_isWord_27 (by decide) ?_
    exact hJ_4 _ (Or.inl ⟨c4_6, rfl⟩)
  · skip
    refine j_aload_n 0 dX9_isWord_7 rfl rfl ?_
    refine j_geti (k' := 16) f_X9_191 o_74_16 dX9_isWord_8 rfl ?_
    refine j_iconst dX9_isWord_11 (by decide) ?_
    refine j_icmp_ne (tgt := 27) dX9_isWord_12 (by decide) (fun c12_7 => ?_) (fun c12_7 => ?_)
    · skip
      refine j_iconst dX9_isWord_27 (by decide) ?_
      exact hJ_4 _ (Or.inr (Or.inl ⟨c4_6, c12_7, rfl⟩))
    · skip
      refine j_aload_n 0 dX9_isWord_15 rfl rfl ?_
      refine j_geti (k' := 18) f_X9_194 o_74_18 dX9_isWord_16 rfl ?_
      refine j_iload_n 1 dX9_isWord_19 rfl rfl ?_
      refine j_icmp_ne (tgt := 27) dX9_isWord_20 (by decide) (fun c20_8 => ?_) (fun c20_8 => ?_)
      · skip
        refine j_iconst dX9_isWord_27 (by decide) ?_
        exact hJ_4 _ (Or.inr (Or.inr (Or.inl ⟨c4_6, c12_7, c20_8, rfl⟩)))
      · skip
        refine j_iconst dX9_isWord_23 (by decide) ?_
        refine j_goto (tgt := 28) dX9_isWord_24 (by decide) ?_
        exact hJ_4 _ (Or.inr (Or.inr (Or.inr (⟨c4_6, c12_7, c20_8, rfl⟩))))
abbrev q_X9_takesSign (M : jM) (b : Int → Int) (s : Int) (c : Int) : jM → Prop := fun N => rP b N (tkS b c s) ∧ rF2 M N
set_option maxHeartbeats 4000000 in
set_option maxRecDepth 20000 in
theorem c_X9_takesSign {X : jX} (M : jM) (b : Int → Int) (s : Int) (c : Int) (h_rtyped : 0 ≤ M 74 14 ∧ M 74 14 ≤ 900) (h_rtext : ∀ i, 0 ≤ M 84 i ∧ M 84 i ≤ 255) (h_rwords : ∀ k, 0 ≤ k → k < 16 → M 75 k = wVal k) (hp : rP b M s) : jC yX9_takesSign D_X9_takesSign X FJ shJ [jR 74, jI c] M (jqV (q_X9_takesSign M b s c)) := by
  refine jC_of (by decide) rfl (fun ad => Nat.le_of_ble_eq_true rfl) (by decide) ?_
  show jG D_X9_takesSign X FJ shJ 0 0 (jqV (q_X9_takesSign M b s c)) 0 [(0, jR 74), (1, jI c)] [] M
  refine j_aload_n 0 dX9_takesSign_0 rfl rfl ?_
  refine j_iload_n 1 dX9_takesSign_1 rfl rfl ?_
  refine j_callVi l_X9_207 ⟨Nat.le_of_ble_eq_true rfl, Nat.le_of_ble_eq_true rfl⟩ ⟨rfl, rfl⟩ dX9_takesSign_2 ob_74 (c_X9_isSign M b s c hp) rfl rfl (Nat.le_of_ble_eq_true rfl) (fun r_1 M_2 h_3 => ?_)
  obtain ⟨er_1, nh_3⟩ := h_3
  refine j_eqM nh_3 ?_
  clear nh_3
  refine j_if_eq (tgt := 15) dX9_takesSign_5 (by decide) (fun c5_4 => ?_) (fun c5_4 => ?_)
  · skip
    refine j_aload_n 0 dX9_takesSign_15 rfl rfl ?_
    refine j_callVv l_X9_213 ⟨Nat.le_of_ble_eq_true rfl, Nat.le_of_ble_eq_true rfl⟩ ⟨rfl, rfl⟩ dX9_takesSign_16 ob_74 (c_X9_fails M b s hp) rfl rfl (Nat.le_of_ble_eq_true rfl) (fun M_6 h_7 => ?_)
    obtain ⟨rkh_7, fkh_7⟩ := h_7
    have frh_7 := fkh_7.1
    refine j_vret rfl rfl rfl rfl dX9_takesSign_19 ?_
    first | exact ⟨by unfold tkS; rw [if_neg (by omega), if_pos (by omega)]; exact rP_adv hp (by omega) adh_7, rF2_of adh_7.2.2⟩ | (refine ⟨?_, fkh_7⟩; have e : tkS b c s = fl s := (by unfold tkS fl; by_cases z : s < 0; (· rw [if_pos z, if_pos z]); (· rw [if_neg z, if_neg z, if_neg (by omega)])); rw [e]; exact rkh_7)
  · skip
    refine j_aload_n 0 dX9_takesSign_8 rfl rfl ?_
    refine j_callVv l_X9_210 ⟨Nat.le_of_ble_eq_true rfl, Nat.le_of_ble_eq_true rfl⟩ ⟨rfl, rfl⟩ dX9_takesSign_9 ob_74 (c_X9_advances M b h_rtyped h_rtext h_rwords hp.1 (rP_pre hp (by omega) h_rtyped h_rtext)) rfl rfl (Nat.le_of_ble_eq_true rfl) (fun M_9 h_10 => ?_)
    have adh_10 := h_10
    unfold q_X9_advances at adh_10
    have frh_10 := adh_10.2.2.1
    refine j_goto (tgt := 19) dX9_takesSign_12 (by decide) ?_
    refine j_vret rfl rfl rfl rfl dX9_takesSign_19 ?_
    first | exact ⟨by unfold tkS; rw [if_neg (by omega), if_pos (by omega)]; exact rP_adv hp (by omega) adh_10, rF2_of adh_10.2.2⟩ | (refine ⟨?_, fkh_10⟩; have e : tkS b c s = fl s := (by unfold tkS fl; by_cases z : s < 0; (· rw [if_pos z, if_pos z]); (· rw [if_neg z, if_neg z, if_neg (by omega)])); rw [e]; exact rkh_10)
abbrev q_X9_takesWord (M : jM) (b : Int → Int) (s : Int) (k : Int) : jM → Prop := fun N => rP b N (tkW b k s) ∧ rF2 M N
set_option maxHeartbeats 4000000 in
set_option maxRecDepth 20000 in
theorem c_X9_takesWord {X : jX} (M : jM) (b : Int → Int) (s : Int) (k : Int) (h_rtyped : 0 ≤ M 74 14 ∧ M 74 14 ≤ 900) (h_rtext : ∀ i, 0 ≤ M 84 i ∧ M 84 i ≤ 255) (h_rwords : ∀ k, 0 ≤ k → k < 16 → M 75 k = wVal k) (hp : rP b M s) : jC yX9_takesWord D_X9_takesWord X FJ shJ [jR 74, jI k] M (jqV (q_X9_takesWord M b s k)) := by
  refine jC_of (by decide) rfl (fun ad => Nat.le_of_ble_eq_true rfl) (by decide) ?_
  show jG D_X9_takesWord X FJ shJ 0 0 (jqV (q_X9_takesWord M b s k)) 0 [(0, jR 74), (1, jI k)] [] M
  refine j_aload_n 0 dX9_takesWord_0 rfl rfl ?_
  refine j_iload_n 1 dX9_takesWord_1 rfl rfl ?_
  refine j_callVi l_X9_216 ⟨Nat.le_of_ble_eq_true rfl, Nat.le_of_ble_eq_true rfl⟩ ⟨rfl, rfl⟩ dX9_takesWord_2 ob_74 (c_X9_isWord M b s k hp) rfl rfl (Nat.le_of_ble_eq_true rfl) (fun r_1 M_2 h_3 => ?_)
  obtain ⟨er_1, nh_3⟩ := h_3
  refine j_eqM nh_3 ?_
  clear nh_3
  refine j_if_eq (tgt := 15) dX9_takesWord_5 (by decide) (fun c5_4 => ?_) (fun c5_4 => ?_)
  · skip
    refine j_aload_n 0 dX9_takesWord_15 rfl rfl ?_
    refine j_callVv l_X9_213 ⟨Nat.le_of_ble_eq_true rfl, Nat.le_of_ble_eq_true rfl⟩ ⟨rfl, rfl⟩ dX9_takesWord_16 ob_74 (c_X9_fails M b s hp) rfl rfl (Nat.le_of_ble_eq_true rfl) (fun M_6 h_7 => ?_)
    obtain ⟨rkh_7, fkh_7⟩ := h_7
    have frh_7 := fkh_7.1
    refine j_vret rfl rfl rfl rfl dX9_takesWord_19 ?_
    first | exact ⟨by unfold tkW; rw [if_neg (by omega), if_pos (by omega)]; exact rP_adv hp (by omega) adh_7, rF2_of adh_7.2.2⟩ | (refine ⟨?_, fkh_7⟩; have e : tkW b k s = fl s := (by unfold tkW fl; by_cases z : s < 0; (· rw [if_pos z, if_pos z]); (· rw [if_neg z, if_neg z, if_neg (by omega)])); rw [e]; exact rkh_7)
  · skip
    refine j_aload_n 0 dX9_takesWord_8 rfl rfl ?_
    refine j_callVv l_X9_210 ⟨Nat.le_of_ble_eq_true rfl, Nat.le_of_ble_eq_true rfl⟩ ⟨rfl, rfl⟩ dX9_takesWord_9 ob_74 (c_X9_advances M b h_rtyped h_rtext h_rwords hp.1 (rP_pre hp (by omega) h_rtyped h_rtext)) rfl rfl (Nat.le_of_ble_eq_true rfl) (fun M_9 h_10 => ?_)
    have adh_10 := h_10
    unfold q_X9_advances at adh_10
    have frh_10 := adh_10.2.2.1
    refine j_goto (tgt := 19) dX9_takesWord_12 (by decide) ?_
    refine j_vret rfl rfl rfl rfl dX9_takesWord_19 ?_
    first | exact ⟨by unfold tkW; rw [if_neg (by omega), if_pos (by omega)]; exact rP_adv hp (by omega) adh_10, rF2_of adh_10.2.2⟩ | (refine ⟨?_, fkh_10⟩; have e : tkW b k s = fl s := (by unfold tkW fl; by_cases z : s < 0; (· rw [if_pos z, if_pos z]); (· rw [if_neg z, if_neg z, if_neg (by omega)])); rw [e]; exact rkh_10)
