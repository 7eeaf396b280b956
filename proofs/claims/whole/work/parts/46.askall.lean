abbrev q_X0_ask (M : jM) (f : Int) (hf : jA f) (h m d : Int) : jM → Prop := fun N => N f 13 = fCustom (M 10 h) (M 15 h) (M 11 h) ∧ (∀ k, 0 ≤ k → k < M f 0 → N (f + 11) k = (if (d < M (f + 2) k ∨ M (f + 3) k < d ∨ (¬ M (f + 4) k = -9 ∧ M (f + 4) k ≤ d)) then 0 else vBot (rpn (eTest ((M 12 h + d) / 360) ((M 13 h + d) / 360) (M 10 h) (M 2 m) (M 11 h) m) (sPre (M (f + 9)) (M (f + 7) k) (M (f + 8) k - M (f + 7) k).toNat)))) ∧ (∀ c, c ≠ f → c ≠ f + 10 → c ≠ f + 11 → N c = M c) ∧ (∀ k, k ≠ 13 → N f k = M f k)
set_option maxHeartbeats 4000000 in
set_option maxRecDepth 20000 in
theorem c_X0_ask {X : jX} (M : jM) (f : Int) (hf : jA f) (h m d : Int) (h_cgrade : ∀ i, 0 ≤ M 15 i ∧ M 15 i ≤ 3) (h_cpapers : ∀ i, 0 ≤ M 11 i ∧ M 11 i ≤ 3) (h_cfrom : ∀ i, 0 ≤ M 12 i ∧ M 12 i ≤ 99999) (h_cto : ∀ i, 0 ≤ M 13 i ∧ M 13 i ≤ 10799) (h_ckind : ∀ i, 0 ≤ M 10 i ∧ M 10 i ≤ 5) (h_ctrade : ∀ i, 0 ≤ M 2 i ∧ M 2 i ≤ 3) (hr : 0 ≤ M f 0 ∧ M f 0 ≤ 16) (h0 : 0 ≤ h ∧ h < 24) (hm0 : 0 ≤ m ∧ m < 6) (hd0 : 0 ≤ d ∧ d ≤ 359) (hst : ∀ r0, 0 ≤ r0 → r0 < M f 0 → (0 ≤ M (f + 7) r0 ∧ M (f + 7) r0 ≤ M (f + 8) r0 ∧ M (f + 8) r0 ≤ 900) ∧ ∀ k, M (f + 7) r0 ≤ k → k < M (f + 8) r0 → 0 ≤ M (f + 9) k ∧ M (f + 9) k < 110000) : jC yX0_ask D_X0_ask X FJ shJ [jR f, jI h, jI m, jI d] M (jqV (q_X0_ask M f hf h m d)) := by
  refine jC_of (by decide) rfl (fun ad => Nat.le_of_ble_eq_true rfl) (by decide) ?_
  show jG D_X0_ask X FJ shJ 0 0 (jqV (q_X0_ask M f hf h m d)) 0 [(0, jR f), (1, jI h), (2, jI m), (3, jI d)] [] M
  have hf2 : f = 47 ∨ f = 59 := hf
  refine j_aload_n 0 dX0_ask_0 rfl rfl ?_
  refine j_aload_n 0 dX0_ask_1 rfl rfl ?_
  refine j_getr f_X0_45 (ra_14 hf) dX0_ask_2 ?_
  refine j_aload_n 0 dX0_ask_5 rfl rfl ?_
  refine j_getr f_X0_45 (ra_14 hf) dX0_ask_6 ?_
  refine j_getr f_X0_85 r_9_1 dX0_ask_9 ?_
  have hkd := h_ckind h
  refine j_iload_n 1 dX0_ask_12 rfl rfl ?_
  refine j_iald a_10 dX0_ask_13 (by omega) (by omega) ?_
  have g_1 := h_ckind h
  refine j_iload_n 1 dX0_ask_14 rfl rfl ?_
  refine j_callVi l_X0_96 ⟨Nat.le_of_ble_eq_true rfl, Nat.le_of_ble_eq_true rfl⟩ ⟨rfl, rfl⟩ dX0_ask_15 ob_9 (c_X3_customAs M ((M 10 h)) h h_cgrade h_cpapers (by first | assumption | omega) (by first | assumption | omega)) rfl rfl (Nat.le_of_ble_eq_true rfl) (fun r_2 M_3 h_4 => ?_)
  obtain ⟨er_2, nh_4⟩ := h_4
  refine j_eqM nh_4 ?_
  clear nh_4
  refine j_puti (k' := 13) f_X0_99 (oa_13 hf) dX0_ask_18 rfl ?_
  refine j_nmM (fun M_5 eM_5 => ?_)
  refine j_iconst dX0_ask_21 (by decide) ?_
  refine j_istore (ls' := [(0, jR f), (1, jI h), (2, jI m), (3, jI d), (4, jI 0)]) dX0_ask_22 (by decide) rfl ?_
  have lp24_6 : ∀ n24 : Nat, ∀ (v4 : Int), ∀ N24 : jM, (0 ≤ v4 ∧ v4 ≤ M f 0) ∧ (N24 f 13 = fCustom (M 10 h) (M 15 h) (M 11 h)) ∧ (∀ k, 0 ≤ k → k < v4 → N24 (f + 11) k = (if (d < M (f + 2) k ∨ M (f + 3) k < d ∨ (¬ M (f + 4) k = -9 ∧ M (f + 4) k ≤ d)) then 0 else vBot (rpn (eTest ((M 12 h + d) / 360) ((M 13 h + d) / 360) (M 10 h) (M 2 m) (M 11 h) m) (sPre (M (f + 9)) (M (f + 7) k) (M (f + 8) k - M (f + 7) k).toNat)))) ∧ (∀ c, c ≠ f → c ≠ f + 10 → c ≠ f + 11 → N24 c = M c) ∧ (∀ k, k ≠ 13 → N24 f k = M f k) → (M f 0 - v4).toNat < n24 → jG D_X0_ask X FJ shJ 0 0 (jqV (q_X0_ask M f hf h m d)) 24 [(0, jR f), (1, jI h), (2, jI m), (3, jI d), (4, jI v4)] ([]) N24 := by
    intro n24
    induction n24 with
    | zero => intro v4 N24 _ hz; exact absurd hz (Nat.not_lt_zero _)
    | succ n24 ih24 =>
      intro v4 N24 hinv hm
      obtain ⟨h1, hc, hb, hk, hf0⟩ := hinv
      refine j_iload 4 dX0_ask_24 rfl ?_
      refine j_aload_n 0 dX0_ask_26 rfl rfl ?_
      refine j_geti (k' := 0) f_X0_53 (oa_0 hf) dX0_ask_27 rfl ?_
      refine j_eq (hf0 0 (by decide)) ?_
      refine j_icmp_ge (tgt := 55) dX0_ask_30 (by decide) (fun c30_7 => ?_) (fun c30_7 => ?_)
      · skip
        refine j_vret rfl rfl rfl rfl dX0_ask_55 ?_
        exact ⟨hc, fun k k0 k1 => hb k k0 (by omega), hk, hf0⟩
      · skip
        have h7 := hk (f + 7) (by omega) (by omega) (by omega)
        have h8 := hk (f + 8) (by omega) (by omega) (by omega)
        have h9 := hk (f + 9) (by omega) (by omega) (by omega)
        have hu := hst v4 h1.1 (by omega)
        refine j_aload_n 0 dX0_ask_33 rfl rfl ?_
        refine j_getr f_X0_42 (ra_12 hf) dX0_ask_34 ?_
        refine j_iload 4 dX0_ask_37 rfl ?_
        refine j_aload_n 0 dX0_ask_39 rfl rfl ?_
        refine j_iload 4 dX0_ask_40 rfl ?_
        refine j_iload_n 1 dX0_ask_42 rfl rfl ?_
        refine j_iload_n 2 dX0_ask_43 rfl rfl ?_
        refine j_iload_n 3 dX0_ask_44 rfl rfl ?_
        refine j_callVi l_X0_102 ⟨Nat.le_of_ble_eq_true rfl, Nat.le_of_ble_eq_true rfl⟩ ⟨rfl, rfl⟩ dX0_ask_45 (oba hf) (c_X0_binding N24 f hf v4 h m d (by rw [(hk 12 (by omega) (by omega) (by omega))]; exact h_cfrom) (by rw [(hk 13 (by omega) (by omega) (by omega))]; exact h_cto) (by rw [(hk 10 (by omega) (by omega) (by omega))]; exact h_ckind) (by rw [(hk 2 (by omega) (by omega) (by omega))]; exact h_ctrade) (by rw [(hk 11 (by omega) (by omega) (by omega))]; exact h_cpapers) (by omega) (by omega) (by omega) (by omega) (by rw [h7, h8]; exact hu.1) (by rw [h7, h8, h9]; exact hu.2)) rfl rfl (Nat.le_of_ble_eq_true rfl) (fun r_8 M_9 h_10 => ?_)
        obtain ⟨eb, frh_10⟩ := h_10
        refine j_iast (aa_11 hf) dX0_ask_48 (by omega) (by omega) ?_
        refine j_nmM (fun M_11 eM_11 => ?_)
        obtain ⟨v4_12, ev4_12⟩ : ∃ y : Int, y = v4 + 1 := ⟨_, rfl⟩
        refine j_iinc (y := v4_12) (ls' := [(0, jR f), (1, jI h), (2, jI m), (3, jI d), (4, jI v4_12)]) 4 dX0_ask_49 rfl ev4_12 (by omega) (by decide) rfl ?_
        refine j_goto (tgt := 24) dX0_ask_52 (by decide) ?_
        exact ih24 v4_12 M_11 ⟨by omega, by rw [eM_11, jup_cellk (by omega), frh_10 f (by omega)]; exact hc, by intro k k0 k1; rw [eM_11, jup_at]; by_cases hj : k = v4; (· rw [if_pos hj, hj, eb, h7, h8, h9, hk (f + 2) (by omega) (by omega) (by omega), hk (f + 3) (by omega) (by omega) (by omega), hk (f + 4) (by omega) (by omega) (by omega), hk 12 (by omega) (by omega) (by omega), hk 13 (by omega) (by omega) (by omega), hk 10 (by omega) (by omega) (by omega), hk 2 (by omega) (by omega) (by omega), hk 11 (by omega) (by omega) (by omega)]); (· rw [if_neg hj, frh_10 (f + 11) (by omega)]; exact hb k k0 (by omega)), by intro c z1 z2 z3; rw [eM_11, jup_cell z3, frh_10 c z2]; exact hk c z1 z2 z3, by intro k z; rw [eM_11, jup_cellk (by omega), frh_10 f (by omega)]; exact hf0 k z⟩ (by omega)
  exact lp24_6 _ 0 M_5 ⟨by omega, by rw [eM_5, jup_self]; assumption, by intro k a b; omega, by intro c z1 z2 z3; rw [eM_5, jup_cell z1], by intro k z; rw [eM_5, jup_ne (by omega)]⟩ (Nat.lt_succ_self _)
