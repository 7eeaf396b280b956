abbrev q_X0_find (M : jM) (f : Int) (hf : jA f) (x : Int) : Int → jM → Prop := fun r N => ((r = -9 ∧ ∀ j, 0 ≤ j → j < M f 0 → ¬ M (f + 1) j = x) ∨ ((0 ≤ r ∧ r < M f 0) ∧ M (f + 1) r = x ∧ ∀ j, 0 ≤ j → j < r → ¬ M (f + 1) j = x)) ∧ N = M
set_option maxHeartbeats 4000000 in
set_option maxRecDepth 20000 in
theorem c_X0_find {X : jX} (M : jM) (f : Int) (hf : jA f) (x : Int) (hr : 0 ≤ M f 0 ∧ M f 0 ≤ 16) : jC yX0_find D_X0_find X FJ shJ [jR f, jI x] M (jqI (q_X0_find M f hf x)) := by
  refine jC_of (by decide) rfl (fun ad => Nat.le_of_ble_eq_true rfl) (by decide) ?_
  show jG D_X0_find X FJ shJ 0 0 (jqI (q_X0_find M f hf x)) 0 [(0, jR f), (1, jI x)] [] M
  refine j_iconst dX0_find_0 (by decide) ?_
  refine j_istore_n (ls' := [(0, jR f), (1, jI x), (2, jI 0)]) dX0_find_1 rfl (by decide) rfl ?_
  have lp2_1 : ∀ n2 : Nat, ∀ (v2 : Int), (0 ≤ v2 ∧ v2 ≤ M f 0) ∧ (∀ j, 0 ≤ j → j < v2 → ¬ M (f + 1) j = x) → (M f 0 - v2).toNat < n2 → jG D_X0_find X FJ shJ 0 0 (jqI (q_X0_find M f hf x)) 2 [(0, jR f), (1, jI x), (2, jI v2)] ([]) M := by
    intro n2
    induction n2 with
    | zero => intro v2  _ hz; exact absurd hz (Nat.not_lt_zero _)
    | succ n2 ih2 =>
      intro v2  hinv hm
      obtain ⟨h1, h2⟩ := hinv
      refine j_iload_n 2 dX0_find_2 rfl rfl ?_
      refine j_aload_n 0 dX0_find_3 rfl rfl ?_
      refine j_geti (k' := 0) f_X0_53 (oa_0 hf) dX0_find_4 rfl ?_
      refine j_icmp_ge (tgt := 28) dX0_find_7 (by decide) (fun c7_2 => ?_) (fun c7_2 => ?_)
      · skip
        refine j_bipush dX0_find_28 (by decide) ?_
        refine j_iret rfl rfl rfl rfl dX0_find_30 ?_
        exact ⟨Or.inl ⟨rfl, fun j j0 j1 => h2 j j0 (by omega)⟩, rfl⟩
      · skip
        refine j_aload_n 0 dX0_find_10 rfl rfl ?_
        refine j_getr f_X0_11 (ra_1 hf) dX0_find_11 ?_
        refine j_iload_n 2 dX0_find_14 rfl rfl ?_
        refine j_iald (aa_1 hf) dX0_find_15 (by omega) (by omega) ?_
        refine j_iload_n 1 dX0_find_16 rfl rfl ?_
        refine j_icmp_ne (tgt := 22) dX0_find_17 (by decide) (fun c17_3 => ?_) (fun c17_3 => ?_)
        · skip
          obtain ⟨v2_4, ev2_4⟩ : ∃ y : Int, y = v2 + 1 := ⟨_, rfl⟩
          refine j_iinc (y := v2_4) (ls' := [(0, jR f), (1, jI x), (2, jI v2_4)]) 2 dX0_find_22 rfl ev2_4 (by omega) (by decide) rfl ?_
          refine j_goto (tgt := 2) dX0_find_25 (by decide) ?_
          exact ih2 v2_4 ⟨by omega, by intro j j0 j1; by_cases hj : j = v2; (· rw [hj]; assumption); (· exact h2 j j0 (by omega))⟩ (by omega)
        · skip
          refine j_iload_n 2 dX0_find_20 rfl rfl ?_
          refine j_iret rfl rfl rfl rfl dX0_find_21 ?_
          exact ⟨Or.inr ⟨⟨h1.1, by omega⟩, by assumption, h2⟩, rfl⟩
  exact lp2_1 _ 0 ⟨by omega, by intro j a b; omega⟩ (Nat.lt_succ_self _)
