abbrev q_X0_firstQuarrel (M : jM) (f : Int) (hf : jA f)  : Int → jM → Prop := fun r N => (qF (fun a b => ((2 ≤ M (f + 11) a ∧ ¬ M (f + 6) (a * 7 + 1) = -1) ∧ (2 ≤ M (f + 11) b ∧ ¬ M (f + 6) (b * 7 + 2) = -1) ∧ M (f + 6) (b * 7 + 2) ≤ M (f + 6) (a * 7 + 1)) ∨ ((2 ≤ M (f + 11) b ∧ ¬ M (f + 6) (b * 7 + 1) = -1) ∧ (2 ≤ M (f + 11) a ∧ ¬ M (f + 6) (a * 7 + 2) = -1) ∧ M (f + 6) (a * 7 + 2) ≤ M (f + 6) (b * 7 + 1))) (M (f + 1)) (M f 0) r) ∧ N = M
set_option maxHeartbeats 4000000 in
set_option maxRecDepth 20000 in
theorem c_X0_firstQuarrel {X : jX} (M : jM) (f : Int) (hf : jA f)  (hr : 0 ≤ M f 0 ∧ M f 0 ≤ 16) (hnb : ∀ j, 0 ≤ j → j < M f 0 → 0 ≤ M (f + 1) j ∧ M (f + 1) j ≤ 99) : jC yX0_firstQuarrel D_X0_firstQuarrel X FJ shJ [jR f] M (jqI (q_X0_firstQuarrel M f hf)) := by
  refine jC_of (by decide) rfl (fun ad => Nat.le_of_ble_eq_true rfl) (by decide) ?_
  show jG D_X0_firstQuarrel X FJ shJ 0 0 (jqI (q_X0_firstQuarrel M f hf)) 0 [(0, jR f)] [] M
  refine j_iconst dX0_firstQuarrel_0 (by decide) ?_
  refine j_istore_n (ls' := [(0, jR f), (1, jI 0)]) dX0_firstQuarrel_1 rfl (by decide) rfl ?_
  have lp2_1 : ∀ n2 : Nat, ∀ (v1 : Int), (0 ≤ v1 ∧ v1 ≤ M f 0) ∧ (∀ a b, 0 ≤ a → a < b → b < M f 0 → (fun a b => ((2 ≤ M (f + 11) a ∧ ¬ M (f + 6) (a * 7 + 1) = -1) ∧ (2 ≤ M (f + 11) b ∧ ¬ M (f + 6) (b * 7 + 2) = -1) ∧ M (f + 6) (b * 7 + 2) ≤ M (f + 6) (a * 7 + 1)) ∨ ((2 ≤ M (f + 11) b ∧ ¬ M (f + 6) (b * 7 + 1) = -1) ∧ (2 ≤ M (f + 11) a ∧ ¬ M (f + 6) (a * 7 + 2) = -1) ∧ M (f + 6) (a * 7 + 2) ≤ M (f + 6) (b * 7 + 1))) a b → v1 ≤ a) → (M f 0 - v1).toNat < n2 → jG D_X0_firstQuarrel X FJ shJ 0 0 (jqI (q_X0_firstQuarrel M f hf)) 2 [(0, jR f), (1, jI v1)] ([]) M := by
    intro n2
    induction n2 with
    | zero => intro v1  _ hz; exact absurd hz (Nat.not_lt_zero _)
    | succ n2 ih2 =>
      intro v1  hinv hm
      obtain ⟨h1, h2⟩ := hinv
      refine j_iload_n 1 dX0_firstQuarrel_2 rfl rfl ?_
      refine j_aload_n 0 dX0_firstQuarrel_3 rfl rfl ?_
      refine j_geti (k' := 0) f_X0_53 (oa_0 hf) dX0_firstQuarrel_4 rfl ?_
      refine j_icmp_ge (tgt := 69) dX0_firstQuarrel_7 (by decide) (fun c7_2 => ?_) (fun c7_2 => ?_)
      · skip
        refine j_bipush dX0_firstQuarrel_69 (by decide) ?_
        refine j_iret rfl rfl rfl rfl dX0_firstQuarrel_71 ?_
        exact ⟨Or.inl ⟨rfl, fun a b a0 ab bn q => by have := h2 a b a0 ab bn q; omega⟩, rfl⟩
      · skip
        refine j_iload_n 1 dX0_firstQuarrel_10 rfl rfl ?_
        refine j_iconst dX0_firstQuarrel_11 (by decide) ?_
        refine j_iadd dX0_firstQuarrel_12 (by omega) ?_
        refine j_nm (fun v2_3 ev2_3 => ?_)
        refine j_istore_n (ls' := [(0, jR f), (1, jI v1), (2, jI v2_3)]) dX0_firstQuarrel_13 rfl (by decide) rfl ?_
        have lp14_4 : ∀ n14 : Nat, ∀ (v2 : Int), (v1 < v2 ∧ v2 ≤ M f 0) ∧ (∀ a b, 0 ≤ a → a < b → b < M f 0 → (fun a b => ((2 ≤ M (f + 11) a ∧ ¬ M (f + 6) (a * 7 + 1) = -1) ∧ (2 ≤ M (f + 11) b ∧ ¬ M (f + 6) (b * 7 + 2) = -1) ∧ M (f + 6) (b * 7 + 2) ≤ M (f + 6) (a * 7 + 1)) ∨ ((2 ≤ M (f + 11) b ∧ ¬ M (f + 6) (b * 7 + 1) = -1) ∧ (2 ≤ M (f + 11) a ∧ ¬ M (f + 6) (a * 7 + 2) = -1) ∧ M (f + 6) (a * 7 + 2) ≤ M (f + 6) (b * 7 + 1))) a b → v1 < a ∨ (v1 = a ∧ v2 ≤ b)) → (M f 0 - v2).toNat < n14 → jG D_X0_firstQuarrel X FJ shJ 0 0 (jqI (q_X0_firstQuarrel M f hf)) 14 [(0, jR f), (1, jI v1), (2, jI v2)] ([]) M := by
          intro n14
          induction n14 with
          | zero => intro v2  _ hz; exact absurd hz (Nat.not_lt_zero _)
          | succ n14 ih14 =>
            intro v2  hinv hm
            obtain ⟨g1, h3⟩ := hinv
            refine j_iload_n 2 dX0_firstQuarrel_14 rfl rfl ?_
            refine j_aload_n 0 dX0_firstQuarrel_15 rfl rfl ?_
            refine j_geti (k' := 0) f_X0_53 (oa_0 hf) dX0_firstQuarrel_16 rfl ?_
            refine j_icmp_ge (tgt := 63) dX0_firstQuarrel_19 (by decide) (fun c19_5 => ?_) (fun c19_5 => ?_)
            · skip
              obtain ⟨v1_6, ev1_6⟩ : ∃ y : Int, y = v1 + 1 := ⟨_, rfl⟩
              refine j_iinc (y := v1_6) (ls' := [(0, jR f), (1, jI v1_6), (2, jI v2)]) 1 dX0_firstQuarrel_63 rfl ev1_6 (by omega) (by decide) rfl ?_
              refine j_goto (tgt := 2) dX0_firstQuarrel_66 (by decide) ?_
              refine j_sub (ls' := [(0, jR f), (1, jI v1_6)]) [0, 1] rfl ?_
              exact ih2 v1_6 ⟨by omega, by intro a b a0 ab bn q; have := h3 a b a0 ab bn q; omega⟩ (by omega)
            · skip
              refine j_aload_n 0 dX0_firstQuarrel_22 rfl rfl ?_
              refine j_iload_n 1 dX0_firstQuarrel_23 rfl rfl ?_
              refine j_iload_n 2 dX0_firstQuarrel_24 rfl rfl ?_
              refine j_callVi l_X0_112 ⟨Nat.le_of_ble_eq_true rfl, Nat.le_of_ble_eq_true rfl⟩ ⟨rfl, rfl⟩ dX0_firstQuarrel_25 (oba hf) (c_X0_startsTooLate M f hf v1 v2 (by first | assumption | omega)) rfl rfl (Nat.le_of_ble_eq_true rfl) (fun r_7 M_8 h_9 => ?_)
              obtain ⟨er_7, nh_9⟩ := h_9
              refine j_eqM nh_9 ?_
              clear nh_9
              refine j_if_ne (tgt := 40) dX0_firstQuarrel_28 (by decide) (fun c28_10 => ?_) (fun c28_10 => ?_)
              · skip
                have b1 := hnb v1 (by omega) (by omega)
                have b2 := hnb v2 (by omega) (by omega)
                refine j_bipush dX0_firstQuarrel_40 (by decide) ?_
                refine j_aload_n 0 dX0_firstQuarrel_42 rfl rfl ?_
                refine j_getr f_X0_11 (ra_1 hf) dX0_firstQuarrel_43 ?_
                refine j_iload_n 1 dX0_firstQuarrel_46 rfl rfl ?_
                refine j_iald (aa_1 hf) dX0_firstQuarrel_47 (by omega) (by omega) ?_
                refine j_imul dX0_firstQuarrel_48 (by omega) ?_
                refine j_aload_n 0 dX0_firstQuarrel_49 rfl rfl ?_
                refine j_getr f_X0_11 (ra_1 hf) dX0_firstQuarrel_50 ?_
                refine j_iload_n 2 dX0_firstQuarrel_53 rfl rfl ?_
                refine j_iald (aa_1 hf) dX0_firstQuarrel_54 (by omega) (by omega) ?_
                refine j_iadd dX0_firstQuarrel_55 (by omega) ?_
                refine j_iret rfl rfl rfl rfl dX0_firstQuarrel_56 ?_
                exact ⟨Or.inr ⟨v1, v2, ⟨h1.1, by omega, by omega⟩, by (show _ ∨ _; omega), rfl, h3⟩, rfl⟩
              · skip
                refine j_aload_n 0 dX0_firstQuarrel_31 rfl rfl ?_
                refine j_iload_n 2 dX0_firstQuarrel_32 rfl rfl ?_
                refine j_iload_n 1 dX0_firstQuarrel_33 rfl rfl ?_
                refine j_callVi l_X0_112 ⟨Nat.le_of_ble_eq_true rfl, Nat.le_of_ble_eq_true rfl⟩ ⟨rfl, rfl⟩ dX0_firstQuarrel_34 (oba hf) (c_X0_startsTooLate M f hf v2 v1 (by first | assumption | omega)) rfl rfl (Nat.le_of_ble_eq_true rfl) (fun r_11 M_12 h_13 => ?_)
                obtain ⟨er_11, nh_13⟩ := h_13
                refine j_eqM nh_13 ?_
                clear nh_13
                refine j_if_eq (tgt := 57) dX0_firstQuarrel_37 (by decide) (fun c37_14 => ?_) (fun c37_14 => ?_)
                · skip
                  obtain ⟨v2_15, ev2_15⟩ : ∃ y : Int, y = v2 + 1 := ⟨_, rfl⟩
                  refine j_iinc (y := v2_15) (ls' := [(0, jR f), (1, jI v1), (2, jI v2_15)]) 2 dX0_firstQuarrel_57 rfl ev2_15 (by omega) (by decide) rfl ?_
                  refine j_goto (tgt := 14) dX0_firstQuarrel_60 (by decide) ?_
                  exact ih14 v2_15 ⟨by omega, by intro a b a0 ab bn q; have q1 := h3 a b a0 ab bn q; by_cases e : v1 = a ∧ v2 = b; (· rw [← e.1, ← e.2] at q; exfalso; omega); (· omega)⟩ (by omega)
                · skip
                  have b1 := hnb v1 (by omega) (by omega)
                  have b2 := hnb v2 (by omega) (by omega)
                  refine j_bipush dX0_firstQuarrel_40 (by decide) ?_
                  refine j_aload_n 0 dX0_firstQuarrel_42 rfl rfl ?_
                  refine j_getr f_X0_11 (ra_1 hf) dX0_firstQuarrel_43 ?_
                  refine j_iload_n 1 dX0_firstQuarrel_46 rfl rfl ?_
                  refine j_iald (aa_1 hf) dX0_firstQuarrel_47 (by omega) (by omega) ?_
                  refine j_imul dX0_firstQuarrel_48 (by omega) ?_
                  refine j_aload_n 0 dX0_firstQuarrel_49 rfl rfl ?_
                  refine j_getr f_X0_11 (ra_1 hf) dX0_firstQuarrel_50 ?_
                  refine j_iload_n 2 dX0_firstQuarrel_53 rfl rfl ?_
                  refine j_iald (aa_1 hf) dX0_firstQuarrel_54 (by omega) (by omega) ?_
                  refine j_iadd dX0_firstQuarrel_55 (by omega) ?_
                  refine j_iret rfl rfl rfl rfl dX0_firstQuarrel_56 ?_
                  exact ⟨Or.inr ⟨v1, v2, ⟨h1.1, by omega, by omega⟩, by (show _ ∨ _; omega), rfl, h3⟩, rfl⟩
        exact lp14_4 _ v2_3 ⟨by omega, by intro a b a0 ab bn q; have := h2 a b a0 ab bn q; omega⟩ (Nat.lt_succ_self _)
  exact lp2_1 _ 0 ⟨by omega, by intro a b a0 _ _ _; exact a0⟩ (Nat.lt_succ_self _)
