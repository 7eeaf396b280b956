abbrev q_X5_readCond (M : jM) (b : Int → Int) (q f : Int) (hf : jA f)  : Int → jM → Prop := fun r N => rcP b f M N (pCd b 901 q [] true 0 0) r
set_option maxHeartbeats 4000000 in
set_option maxRecDepth 20000 in
theorem c_X5_readCond {X : jX} (M : jM) (b : Int → Int) (q f : Int) (hf : jA f)  (h_ctyped : 0 ≤ M 71 0 ∧ M 71 0 ≤ 900) (h_ctext : ∀ i, -128 ≤ M 72 i ∧ M 72 i ≤ 127) (ht : cT b M q) (h6 : M 71 6 = f) (hru : 1 ≤ M f 0 ∧ M f 0 ≤ 16) (hst : 0 ≤ M f 9 ∧ M f 9 ≤ q - 1) (hto : M (f + 8) (M f 0 - 1) = M f 9) (hq : 1 ≤ q) : jC yX5_readCond D_X5_readCond X FJ shJ [jR 71] M (jqI (q_X5_readCond M b q f hf)) := by
  refine jC_of (by decide) rfl (fun ad => Nat.le_of_ble_eq_true rfl) (by decide) ?_
  show jG D_X5_readCond X FJ shJ 0 0 (jqI (q_X5_readCond M b q f hf)) 0 [(0, jR 71)] [] M
  have hf2 : f = 47 ∨ f = 59 := hf
  have hbk := cT_bok ht h_ctyped
  refine j_iconst dX5_readCond_0 (by decide) ?_
  refine j_istore_n (ls' := [(0, jR 71), (1, jI 0)]) dX5_readCond_1 rfl (by decide) rfl ?_
  refine j_iconst dX5_readCond_2 (by decide) ?_
  refine j_istore_n (ls' := [(0, jR 71), (1, jI 0), (2, jI 0)]) dX5_readCond_3 rfl (by decide) rfl ?_
  refine j_aload_n 0 dX5_readCond_4 rfl rfl ?_
  refine j_iconst dX5_readCond_5 (by decide) ?_
  refine j_puti (k' := 7) f_X5_153 o_71_7 dX5_readCond_6 rfl ?_
  refine j_nmM (fun M_1 eM_1 => ?_)
  refine j_aload_n 0 dX5_readCond_9 rfl rfl ?_
  refine j_iconst dX5_readCond_10 (by decide) ?_
  refine j_puti (k' := 9) f_X5_156 o_71_9 dX5_readCond_11 rfl ?_
  refine j_nmM (fun M_2 eM_2 => ?_)
  refine j_iconst dX5_readCond_14 (by decide) ?_
  refine j_istore_n (ls' := [(0, jR 71), (1, jI 0), (2, jI 0), (3, jI 0)]) dX5_readCond_15 rfl (by decide) rfl ?_
  have lp16_3 : ∀ n16 : Nat, ∀ (v1 v2 v3 : Int), ∀ N16 : jM, (rcI b f q M N16 (pCd b 901 q [] true 0 0) v1 v2 v3) → (900 - v3).toNat < n16 → jG D_X5_readCond X FJ shJ 0 0 (jqI (q_X5_readCond M b q f hf)) 16 [(0, jR 71), (1, jI v1), (2, jI v2), (3, jI v3)] ([]) N16 := by
    intro n16
    induction n16 with
    | zero => intro v1 v2 v3 N16 _ hz; exact absurd hz (Nat.not_lt_zero _)
    | succ n16 ih16 =>
      intro v1 v2 v3 N16 hinv hm
      have hI := hinv
      obtain ⟨s, r, w, o, p, hv1, hv2, hR, hg, hS, hv3⟩ := hI
      have hcf1 := hS.2.2.1.1
      have hcf3 := hS.2.2.1.2.2.1
      have tq0 := (cT_tok hS.1).2.2.2.2.1
      have e710 : N16 71 0 = M 71 0 := hcf3 0 (by decide) (by decide) (by decide) (by decide) (by decide) (by decide)
      have tq : 0 ≤ s ∧ s ≤ M 71 0 := by omega
      have hpp := gWf_o _ _ _ _ hg
      have gw := gW_in hg
      refine j_iload_n 3 dX5_readCond_16 rfl rfl ?_
      refine j_sipush dX5_readCond_17 (by decide) ?_
      refine j_icmp_ge (tgt := 194) dX5_readCond_20 (by decide) (fun c20_4 => ?_) (fun c20_4 => ?_)
      · skip
        refine j_iconst dX5_readCond_194 (by decide) ?_
        refine j_zret rfl rfl rfl rfl dX5_readCond_195 (by omega) ?_
        exfalso; omega
      · skip
        rw [show (901 - v3).toNat = (900 - v3).toNat + 1 by omega] at hR
        refine j_iload_n 2 dX5_readCond_23 rfl rfl ?_
        refine j_if_ne (tgt := 43) dX5_readCond_24 (by decide) (fun c24_5 => ?_) (fun c24_5 => ?_)
        · skip
          have hw : w = false := by rcases hv2 with ⟨z, y⟩ | ⟨z, y⟩; (· omega); (· exact z)
          subst hw
          refine j_iload_n 2 dX5_readCond_43 rfl rfl ?_
          refine j_if_ne (tgt := 79) dX5_readCond_44 (by decide) (fun c44_6 => ?_) (fun c44_6 => ?_)
          · skip
            refine j_iload_n 2 dX5_readCond_79 rfl rfl ?_
            refine j_if_ne (tgt := 102) dX5_readCond_80 (by decide) (fun c80_7 => ?_) (fun c80_7 => ?_)
            · skip
              refine j_iload_n 1 dX5_readCond_102 rfl rfl ?_
              refine j_if_le (tgt := 125) dX5_readCond_103 (by decide) (fun c103_8 => ?_) (fun c103_8 => ?_)
              · skip
                have tc : cT b N16 s := by first | exact hS.1 | exact (tk_no tk (by omega)).2
                have sc : rcS b f (M f 9) M N16 s (s - 1) r p := by first | exact hS | exact rcS_fr hf2 hS fk tc
                have n41 : ¬ (lK b s = 3 ∧ lV b s = 41 ∧ 0 < o) := by first | omega | (have y := (tk_no tk (by omega)).1; exact fun z => y ⟨z.1, z.2.1⟩)
                refine j_aload_n 0 dX5_readCond_125 rfl rfl ?_
                refine j_bipush dX5_readCond_126 (by decide) ?_
                refine j_callVi l_X5_98 ⟨Nat.le_of_ble_eq_true rfl, Nat.le_of_ble_eq_true rfl⟩ ⟨rfl, rfl⟩ dX5_readCond_128 ob_71 (c_X5_takeSign N16 b s 38 (by rw [(hcf3 0 (by decide) (by decide) (by decide) (by decide) (by decide) (by decide))]; exact h_ctyped) (by rw [(hcf1 72 (by decide) (by decide) (by omega) (by omega) (by omega))]; exact h_ctext) tc (by decide)) rfl rfl (Nat.le_of_ble_eq_true rfl) (fun r_9 M_10 h_11 => ?_)
                obtain ⟨tkh_11, fkh_11⟩ := h_11
                have frh_11 := fkh_11.1
                refine j_if_eq (tgt := 149) dX5_readCond_131 (by decide) (fun c131_12 => ?_) (fun c131_12 => ?_)
                · skip
                  have t2 : cT b M_10 s := (tk_no tkh_11 (by omega)).2
                  have n2 := (tk_no tkh_11 (by omega)).1
                  have s2 := rcS_fr hf2 sc fkh_11 t2
                  refine j_aload_n 0 dX5_readCond_149 rfl rfl ?_
                  refine j_bipush dX5_readCond_150 (by decide) ?_
                  refine j_callVi l_X5_98 ⟨Nat.le_of_ble_eq_true rfl, Nat.le_of_ble_eq_true rfl⟩ ⟨rfl, rfl⟩ dX5_readCond_152 ob_71 (c_X5_takeSign M_10 b s 124 (by rw [(Eq.trans (fkh_11.2 0 (by decide) (by decide) (by decide) (by decide)) (hcf3 0 (by decide) (by decide) (by decide) (by decide) (by decide) (by decide)))]; exact h_ctyped) (by rw [(Eq.trans (frh_11 72 (by decide)) (hcf1 72 (by decide) (by decide) (by omega) (by omega) (by omega)))]; exact h_ctext) t2 (by decide)) rfl rfl (Nat.le_of_ble_eq_true rfl) (fun r_13 M_14 h_15 => ?_)
                  obtain ⟨tkh_15, fkh_15⟩ := h_15
                  have frh_15 := fkh_15.1
                  refine j_if_eq (tgt := 173) dX5_readCond_155 (by decide) (fun c155_16 => ?_) (fun c155_16 => ?_)
                  · skip
                    have t3 : cT b M_14 s := (tk_no tkh_15 (by omega)).2
                    have n3 := (tk_no tkh_15 (by omega)).1
                    have s3 := rcS_fr hf2 s2 fkh_15 t3
                    rw [pCd_e (fun z => z.2.elim (fun y => n2 ⟨z.1, y⟩) (fun y => n3 ⟨z.1, y⟩)) n41] at hR
                    refine j_aload_n 0 dX5_readCond_173 rfl rfl ?_
                    refine j_iconst dX5_readCond_174 (by decide) ?_
                    refine j_callVv l_X5_169 ⟨Nat.le_of_ble_eq_true rfl, Nat.le_of_ble_eq_true rfl⟩ ⟨rfl, rfl⟩ dX5_readCond_175 ob_71 (c_X5_release M_14 f hf (M f 9) (cAllT r.reverse).1 (cAllT r.reverse).2 1 s3.2.1 gw.1 (by omega) ⟨by have := s3.2.2.2.2; omega, by omega⟩) rfl rfl (Nat.le_of_ble_eq_true rfl) (fun M_18 h_19 => ?_)
                    obtain ⟨rlh_19, rfh_19, rsh_19, rkh_19⟩ := h_19
                    refine j_iload_n 1 dX5_readCond_178 rfl rfl ?_
                    have hJ_20 : ∀ zz : Int, (¬ v1 = 0 ∧ zz = 0) ∨ (v1 = 0 ∧ zz = 1) → jG D_X5_readCond X FJ shJ 0 0 (jqI (q_X5_readCond M b q f hf)) 187 [(0, jR 71), (1, jI v1), (2, jI v2), (3, jI v3)] (jI zz :: []) M_18 := by
                      intro t_21 et_21
                      refine j_zret rfl rfl rfl rfl dX5_readCond_187 (by omega) ?_
                      show rcP b f M M_18 (pCd b 901 q [] true 0 0) t_21
                      by_cases ho : 0 < o
                      · rw [if_pos ho] at hR; rw [← hR, show t_21 = 0 by omega]; exact rcP_no (by show fl s < 0; unfold fl; rw [if_neg (by omega)]; omega) (by show _ = -1 - fl s; unfold fl; rw [if_neg (by omega), rkh_19 3 (by decide), (cT_tok s3.1).1]; omega) (cCF_tr s3.2.2.1 rfh_19)
                      · rw [if_neg ho] at hR; rw [show t_21 = 1 by omega]; exact rcP_yes hf2 hR tq.1 s3 rlh_19 rfh_19 rsh_19 rkh_19
                    refine j_if_ne (tgt := 186) dX5_readCond_179 (by decide) (fun c179_22 => ?_) (fun c179_22 => ?_)
                    · skip
                      refine j_iconst dX5_readCond_186 (by decide) ?_
                      exact hJ_20 _ (Or.inl ⟨c179_22, rfl⟩)
                    · skip
                      refine j_iconst dX5_readCond_182 (by decide) ?_
                      refine j_goto (tgt := 187) dX5_readCond_183 (by decide) ?_
                      exact hJ_20 _ (Or.inr (⟨c179_22, rfl⟩))
                  · skip
                    have ty := tk_yes tkh_15 (by omega)
                    have s124 := rcS_fr hf2 s2 fkh_15 ty.2
                    have nx := lNx_lt hbk tq.1 tq.2 (by omega)
                    rw [pCd_sg ⟨ty.1.1, Or.inr ty.1.2⟩, ty.1.2] at hR
                    refine j_aload_n 0 dX5_readCond_158 rfl rfl ?_
                    refine j_iconst dX5_readCond_159 (by decide) ?_
                    refine j_callVv l_X5_169 ⟨Nat.le_of_ble_eq_true rfl, Nat.le_of_ble_eq_true rfl⟩ ⟨rfl, rfl⟩ dX5_readCond_160 ob_71 (c_X5_release M_14 f hf (M f 9) (cAllT r.reverse).1 (cAllT r.reverse).2 1 s124.2.1 gw.1 (by omega) ⟨by have := s124.2.2.2.2; omega, by omega⟩) rfl rfl (Nat.le_of_ble_eq_true rfl) (fun M_24 h_25 => ?_)
                    obtain ⟨rlh_25, rfh_25, rsh_25, rkh_25⟩ := h_25
                    have rl124 := rlh_25
                    have rf124 := rfh_25
                    have rs124 := rsh_25
                    have rk124 := rkh_25
                    refine j_aload_n 0 dX5_readCond_163 rfl rfl ?_
                    refine j_iconst dX5_readCond_164 (by decide) ?_
                    refine j_callVv l_X5_162 ⟨Nat.le_of_ble_eq_true rfl, Nat.le_of_ble_eq_true rfl⟩ ⟨rfl, rfl⟩ dX5_readCond_165 ob_71 (c_X5_waitFor M_24 1 (by have := (cC_len rl124).1; have := cRel_len 1 (cAllT r.reverse).1 (cAllT r.reverse).2; omega)) rfl rfl (Nat.le_of_ble_eq_true rfl) (fun M_27 h_28 => ?_)
                    have eM_27 := h_28
                    unfold q_X5_waitFor at eM_27
                    have frh_28 : ∀ c, c ≠ 71 → c ≠ 73 → M_27 c = M_24 c := fun c z1 z2 => by rw [eM_27, jup_cell z1, jup_cell z2]
                    have fkh_28 : ∀ k, k ≠ 9 → M_27 71 k = M_24 71 k := fun k z => by rw [eM_27, jup_ne (by omega), jup_cellk (by decide)]
                    have s8n : rcS b f (M f 9) M M_27 (lNx b s) (s - 1 + 1) ((124, 0) :: r) p := by rw [eM_27]; exact rcS_sign hf2 (Or.inr rfl) s124 rl124 rf124 rs124 rk124
                    refine j_iconst dX5_readCond_168 (by decide) ?_
                    refine j_istore_n (ls' := [(0, jR 71), (1, jI v1), (2, jI 0), (3, jI v3)]) dX5_readCond_169 rfl (by decide) rfl ?_
                    refine j_goto (tgt := 188) dX5_readCond_170 (by decide) ?_
                    obtain ⟨v3_29, ev3_29⟩ : ∃ y : Int, y = v3 + 1 := ⟨_, rfl⟩
                    refine j_iinc (y := v3_29) (ls' := [(0, jR 71), (1, jI v1), (2, jI 0), (3, jI v3_29)]) 3 dX5_readCond_188 rfl ev3_29 (by omega) (by decide) rfl ?_
                    refine j_goto (tgt := 16) dX5_readCond_191 (by decide) ?_
                    exact ih16 v1 0 v3_29 M_27 (by rw [show (900 - v3).toNat = (901 - v3_29).toNat by omega] at hR; first | exact ⟨lNx b s, p33 r, true, o, p, by omega, Or.inl ⟨rfl, by omega⟩, hR, (p33_wf hg).1, rcS_w s3n (by omega), by omega⟩ | exact ⟨lNx b s, (40, 0) :: r, true, o + 1, p, by omega, Or.inl ⟨rfl, by omega⟩, hR, gWf_op (by omega) hg, rcS_w s4n (by omega), by omega⟩ | exact ⟨pT3 b s, (pTo b (lV b s) (lNx b s), pTn b s) :: r, false, o, p + 1, by omega, Or.inr ⟨rfl, by omega⟩, hR, gWf_ts (by omega) pto (by omega) hg, rcS_w s5n (by omega), by omega⟩ | exact ⟨lNx b s, (41, 0) :: r, false, o - 1, p, by omega, Or.inr ⟨rfl, by omega⟩, hR, gWf_cl (by omega) hg, rcS_w s6n (by omega), by omega⟩ | exact ⟨lNx b s, (38, 0) :: r, true, o, p, by omega, Or.inl ⟨rfl, by omega⟩, hR, gWf_sg (Or.inl rfl) hg, rcS_w s7n (by omega), by omega⟩ | exact ⟨lNx b s, (124, 0) :: r, true, o, p, by omega, Or.inl ⟨rfl, by omega⟩, hR, gWf_sg (Or.inr rfl) hg, rcS_w s8n (by omega), by omega⟩) (by omega)
                · skip
                  have ty := tk_yes tkh_11 (by omega)
                  have s38 := rcS_fr hf2 sc fkh_11 ty.2
                  have nx := lNx_lt hbk tq.1 tq.2 (by omega)
                  rw [pCd_sg ⟨ty.1.1, Or.inl ty.1.2⟩, ty.1.2] at hR
                  refine j_aload_n 0 dX5_readCond_134 rfl rfl ?_
                  refine j_iconst dX5_readCond_135 (by decide) ?_
                  refine j_callVv l_X5_169 ⟨Nat.le_of_ble_eq_true rfl, Nat.le_of_ble_eq_true rfl⟩ ⟨rfl, rfl⟩ dX5_readCond_136 ob_71 (c_X5_release M_10 f hf (M f 9) (cAllT r.reverse).1 (cAllT r.reverse).2 2 s38.2.1 gw.1 (by omega) ⟨by have := s38.2.2.2.2; omega, by omega⟩) rfl rfl (Nat.le_of_ble_eq_true rfl) (fun M_31 h_32 => ?_)
                  obtain ⟨rlh_32, rfh_32, rsh_32, rkh_32⟩ := h_32
                  have rl38 := rlh_32
                  have rf38 := rfh_32
                  have rs38 := rsh_32
                  have rk38 := rkh_32
                  refine j_aload_n 0 dX5_readCond_139 rfl rfl ?_
                  refine j_iconst dX5_readCond_140 (by decide) ?_
                  refine j_callVv l_X5_162 ⟨Nat.le_of_ble_eq_true rfl, Nat.le_of_ble_eq_true rfl⟩ ⟨rfl, rfl⟩ dX5_readCond_141 ob_71 (c_X5_waitFor M_31 2 (by have := (cC_len rl38).1; have := cRel_len 2 (cAllT r.reverse).1 (cAllT r.reverse).2; omega)) rfl rfl (Nat.le_of_ble_eq_true rfl) (fun M_34 h_35 => ?_)
                  have eM_34 := h_35
                  unfold q_X5_waitFor at eM_34
                  have frh_35 : ∀ c, c ≠ 71 → c ≠ 73 → M_34 c = M_31 c := fun c z1 z2 => by rw [eM_34, jup_cell z1, jup_cell z2]
                  have fkh_35 : ∀ k, k ≠ 9 → M_34 71 k = M_31 71 k := fun k z => by rw [eM_34, jup_ne (by omega), jup_cellk (by decide)]
                  have s7n : rcS b f (M f 9) M M_34 (lNx b s) (s - 1 + 1) ((38, 0) :: r) p := by rw [eM_34]; exact rcS_sign hf2 (Or.inl rfl) s38 rl38 rf38 rs38 rk38
                  refine j_iconst dX5_readCond_144 (by decide) ?_
                  refine j_istore_n (ls' := [(0, jR 71), (1, jI v1), (2, jI 0), (3, jI v3)]) dX5_readCond_145 rfl (by decide) rfl ?_
                  refine j_goto (tgt := 188) dX5_readCond_146 (by decide) ?_
                  obtain ⟨v3_36, ev3_36⟩ : ∃ y : Int, y = v3 + 1 := ⟨_, rfl⟩
                  refine j_iinc (y := v3_36) (ls' := [(0, jR 71), (1, jI v1), (2, jI 0), (3, jI v3_36)]) 3 dX5_readCond_188 rfl ev3_36 (by omega) (by decide) rfl ?_
                  refine j_goto (tgt := 16) dX5_readCond_191 (by decide) ?_
                  exact ih16 v1 0 v3_36 M_34 (by rw [show (900 - v3).toNat = (901 - v3_36).toNat by omega] at hR; first | exact ⟨lNx b s, p33 r, true, o, p, by omega, Or.inl ⟨rfl, by omega⟩, hR, (p33_wf hg).1, rcS_w s3n (by omega), by omega⟩ | exact ⟨lNx b s, (40, 0) :: r, true, o + 1, p, by omega, Or.inl ⟨rfl, by omega⟩, hR, gWf_op (by omega) hg, rcS_w s4n (by omega), by omega⟩ | exact ⟨pT3 b s, (pTo b (lV b s) (lNx b s), pTn b s) :: r, false, o, p + 1, by omega, Or.inr ⟨rfl, by omega⟩, hR, gWf_ts (by omega) pto (by omega) hg, rcS_w s5n (by omega), by omega⟩ | exact ⟨lNx b s, (41, 0) :: r, false, o - 1, p, by omega, Or.inr ⟨rfl, by omega⟩, hR, gWf_cl (by omega) hg, rcS_w s6n (by omega), by omega⟩ | exact ⟨lNx b s, (38, 0) :: r, true, o, p, by omega, Or.inl ⟨rfl, by omega⟩, hR, gWf_sg (Or.inl rfl) hg, rcS_w s7n (by omega), by omega⟩ | exact ⟨lNx b s, (124, 0) :: r, true, o, p, by omega, Or.inl ⟨rfl, by omega⟩, hR, gWf_sg (Or.inr rfl) hg, rcS_w s8n (by omega), by omega⟩) (by omega)
              · skip
                refine j_aload_n 0 dX5_readCond_106 rfl rfl ?_
                refine j_bipush dX5_readCond_107 (by decide) ?_
                refine j_callVi l_X5_98 ⟨Nat.le_of_ble_eq_true rfl, Nat.le_of_ble_eq_true rfl⟩ ⟨rfl, rfl⟩ dX5_readCond_109 ob_71 (c_X5_takeSign N16 b s 41 (by rw [(hcf3 0 (by decide) (by decide) (by decide) (by decide) (by decide) (by decide))]; exact h_ctyped) (by rw [(hcf1 72 (by decide) (by decide) (by omega) (by omega) (by omega))]; exact h_ctext) hS.1 (by decide)) rfl rfl (Nat.le_of_ble_eq_true rfl) (fun r_37 M_38 h_39 => ?_)
                obtain ⟨tkh_39, fkh_39⟩ := h_39
                have frh_39 := fkh_39.1
                refine j_if_eq (tgt := 125) dX5_readCond_112 (by decide) (fun c112_40 => ?_) (fun c112_40 => ?_)
                · skip
                  have tc : cT b M_38 s := by first | exact hS.1 | exact (tk_no tkh_39 (by omega)).2
                  have sc : rcS b f (M f 9) M M_38 s (s - 1) r p := by first | exact hS | exact rcS_fr hf2 hS fkh_39 tc
                  have n41 : ¬ (lK b s = 3 ∧ lV b s = 41 ∧ 0 < o) := by first | omega | (have y := (tk_no tkh_39 (by omega)).1; exact fun z => y ⟨z.1, z.2.1⟩)
                  refine j_aload_n 0 dX5_readCond_125 rfl rfl ?_
                  refine j_bipush dX5_readCond_126 (by decide) ?_
                  refine j_callVi l_X5_98 ⟨Nat.le_of_ble_eq_true rfl, Nat.le_of_ble_eq_true rfl⟩ ⟨rfl, rfl⟩ dX5_readCond_128 ob_71 (c_X5_takeSign M_38 b s 38 (by rw [(Eq.trans (fkh_39.2 0 (by decide) (by decide) (by decide) (by decide)) (hcf3 0 (by decide) (by decide) (by decide) (by decide) (by decide) (by decide)))]; exact h_ctyped) (by rw [(Eq.trans (frh_39 72 (by decide)) (hcf1 72 (by decide) (by decide) (by omega) (by omega) (by omega)))]; exact h_ctext) tc (by decide)) rfl rfl (Nat.le_of_ble_eq_true rfl) (fun r_41 M_42 h_43 => ?_)
                  obtain ⟨tkh_43, fkh_43⟩ := h_43
                  have frh_43 := fkh_43.1
                  refine j_if_eq (tgt := 149) dX5_readCond_131 (by decide) (fun c131_44 => ?_) (fun c131_44 => ?_)
                  · skip
                    have t2 : cT b M_42 s := (tk_no tkh_43 (by omega)).2
                    have n2 := (tk_no tkh_43 (by omega)).1
                    have s2 := rcS_fr hf2 sc fkh_43 t2
                    refine j_aload_n 0 dX5_readCond_149 rfl rfl ?_
                    refine j_bipush dX5_readCond_150 (by decide) ?_
                    refine j_callVi l_X5_98 ⟨Nat.le_of_ble_eq_true rfl, Nat.le_of_ble_eq_true rfl⟩ ⟨rfl, rfl⟩ dX5_readCond_152 ob_71 (c_X5_takeSign M_42 b s 124 (by rw [(Eq.trans (fkh_43.2 0 (by decide) (by decide) (by decide) (by decide)) (Eq.trans (fkh_39.2 0 (by decide) (by decide) (by decide) (by decide)) (hcf3 0 (by decide) (by decide) (by decide) (by decide) (by decide) (by decide))))]; exact h_ctyped) (by rw [(Eq.trans (frh_43 72 (by decide)) (Eq.trans (frh_39 72 (by decide)) (hcf1 72 (by decide) (by decide) (by omega) (by omega) (by omega))))]; exact h_ctext) t2 (by decide)) rfl rfl (Nat.le_of_ble_eq_true rfl) (fun r_45 M_46 h_47 => ?_)
                    obtain ⟨tkh_47, fkh_47⟩ := h_47
                    have frh_47 := fkh_47.1
                    refine j_if_eq (tgt := 173) dX5_readCond_155 (by decide) (fun c155_48 => ?_) (fun c155_48 => ?_)
                    · skip
                      have t3 : cT b M_46 s := (tk_no tkh_47 (by omega)).2
                      have n3 := (tk_no tkh_47 (by omega)).1
                      have s3 := rcS_fr hf2 s2 fkh_47 t3
                      rw [pCd_e (fun z => z.2.elim (fun y => n2 ⟨z.1, y⟩) (fun y => n3 ⟨z.1, y⟩)) n41] at hR
                      refine j_aload_n 0 dX5_readCond_173 rfl rfl ?_
                      refine j_iconst dX5_readCond_174 (by decide) ?_
                      refine j_callVv l_X5_169 ⟨Nat.le_of_ble_eq_true rfl, Nat.le_of_ble_eq_true rfl⟩ ⟨rfl, rfl⟩ dX5_readCond_175 ob_71 (c_X5_release M_46 f hf (M f 9) (cAllT r.reverse).1 (cAllT r.reverse).2 1 s3.2.1 gw.1 (by omega) ⟨by have := s3.2.2.2.2; omega, by omega⟩) rfl rfl (Nat.le_of_ble_eq_true rfl) (fun M_50 h_51 => ?_)
                      obtain ⟨rlh_51, rfh_51, rsh_51, rkh_51⟩ := h_51
                      refine j_iload_n 1 dX5_readCond_178 rfl rfl ?_
                      have hJ_52 : ∀ zz : Int, (¬ v1 = 0 ∧ zz = 0) ∨ (v1 = 0 ∧ zz = 1) → jG D_X5_readCond X FJ shJ 0 0 (jqI (q_X5_readCond M b q f hf)) 187 [(0, jR 71), (1, jI v1), (2, jI v2), (3, jI v3)] (jI zz :: []) M_50 := by
                        intro t_53 et_53
                        refine j_zret rfl rfl rfl rfl dX5_readCond_187 (by omega) ?_
                        show rcP b f M M_50 (pCd b 901 q [] true 0 0) t_53
                        by_cases ho : 0 < o
                        · rw [if_pos ho] at hR; rw [← hR, show t_53 = 0 by omega]; exact rcP_no (by show fl s < 0; unfold fl; rw [if_neg (by omega)]; omega) (by show _ = -1 - fl s; unfold fl; rw [if_neg (by omega), rkh_51 3 (by decide), (cT_tok s3.1).1]; omega) (cCF_tr s3.2.2.1 rfh_51)
                        · rw [if_neg ho] at hR; rw [show t_53 = 1 by omega]; exact rcP_yes hf2 hR tq.1 s3 rlh_51 rfh_51 rsh_51 rkh_51
                      refine j_if_ne (tgt := 186) dX5_readCond_179 (by decide) (fun c179_54 => ?_) (fun c179_54 => ?_)
                      · skip
                        refine j_iconst dX5_readCond_186 (by decide) ?_
                        exact hJ_52 _ (Or.inl ⟨c179_54, rfl⟩)
                      · skip
                        refine j_iconst dX5_readCond_182 (by decide) ?_
                        refine j_goto (tgt := 187) dX5_readCond_183 (by decide) ?_
                        exact hJ_52 _ (Or.inr (⟨c179_54, rfl⟩))
                    · skip
                      have ty := tk_yes tkh_47 (by omega)
                      have s124 := rcS_fr hf2 s2 fkh_47 ty.2
                      have nx := lNx_lt hbk tq.1 tq.2 (by omega)
                      rw [pCd_sg ⟨ty.1.1, Or.inr ty.1.2⟩, ty.1.2] at hR
                      refine j_aload_n 0 dX5_readCond_158 rfl rfl ?_
                      refine j_iconst dX5_readCond_159 (by decide) ?_
                      refine j_callVv l_X5_169 ⟨Nat.le_of_ble_eq_true rfl, Nat.le_of_ble_eq_true rfl⟩ ⟨rfl, rfl⟩ dX5_readCond_160 ob_71 (c_X5_release M_46 f hf (M f 9) (cAllT r.reverse).1 (cAllT r.reverse).2 1 s124.2.1 gw.1 (by omega) ⟨by have := s124.2.2.2.2; omega, by omega⟩) rfl rfl (Nat.le_of_ble_eq_true rfl) (fun M_56 h_57 => ?_)
                      obtain ⟨rlh_57, rfh_57, rsh_57, rkh_57⟩ := h_57
                      have rl124 := rlh_57
                      have rf124 := rfh_57
                      have rs124 := rsh_57
                      have rk124 := rkh_57
                      refine j_aload_n 0 dX5_readCond_163 rfl rfl ?_
                      refine j_iconst dX5_readCond_164 (by decide) ?_
                      refine j_callVv l_X5_162 ⟨Nat.le_of_ble_eq_true rfl, Nat.le_of_ble_eq_true rfl⟩ ⟨rfl, rfl⟩ dX5_readCond_165 ob_71 (c_X5_waitFor M_56 1 (by have := (cC_len rl124).1; have := cRel_len 1 (cAllT r.reverse).1 (cAllT r.reverse).2; omega)) rfl rfl (Nat.le_of_ble_eq_true rfl) (fun M_59 h_60 => ?_)
                      have eM_59 := h_60
                      unfold q_X5_waitFor at eM_59
                      have frh_60 : ∀ c, c ≠ 71 → c ≠ 73 → M_59 c = M_56 c := fun c z1 z2 => by rw [eM_59, jup_cell z1, jup_cell z2]
                      have fkh_60 : ∀ k, k ≠ 9 → M_59 71 k = M_56 71 k := fun k z => by rw [eM_59, jup_ne (by omega), jup_cellk (by decide)]
                      have s8n : rcS b f (M f 9) M M_59 (lNx b s) (s - 1 + 1) ((124, 0) :: r) p := by rw [eM_59]; exact rcS_sign hf2 (Or.inr rfl) s124 rl124 rf124 rs124 rk124
                      refine j_iconst dX5_readCond_168 (by decide) ?_
                      refine j_istore_n (ls' := [(0, jR 71), (1, jI v1), (2, jI 0), (3, jI v3)]) dX5_readCond_169 rfl (by decide) rfl ?_
                      refine j_goto (tgt := 188) dX5_readCond_170 (by decide) ?_
                      obtain ⟨v3_61, ev3_61⟩ : ∃ y : Int, y = v3 + 1 := ⟨_, rfl⟩
                      refine j_iinc (y := v3_61) (ls' := [(0, jR 71), (1, jI v1), (2, jI 0), (3, jI v3_61)]) 3 dX5_readCond_188 rfl ev3_61 (by omega) (by decide) rfl ?_
                      refine j_goto (tgt := 16) dX5_readCond_191 (by decide) ?_
                      exact ih16 v1 0 v3_61 M_59 (by rw [show (900 - v3).toNat = (901 - v3_61).toNat by omega] at hR; first | exact ⟨lNx b s, p33 r, true, o, p, by omega, Or.inl ⟨rfl, by omega⟩, hR, (p33_wf hg).1, rcS_w s3n (by omega), by omega⟩ | exact ⟨lNx b s, (40, 0) :: r, true, o + 1, p, by omega, Or.inl ⟨rfl, by omega⟩, hR, gWf_op (by omega) hg, rcS_w s4n (by omega), by omega⟩ | exact ⟨pT3 b s, (pTo b (lV b s) (lNx b s), pTn b s) :: r, false, o, p + 1, by omega, Or.inr ⟨rfl, by omega⟩, hR, gWf_ts (by omega) pto (by omega) hg, rcS_w s5n (by omega), by omega⟩ | exact ⟨lNx b s, (41, 0) :: r, false, o - 1, p, by omega, Or.inr ⟨rfl, by omega⟩, hR, gWf_cl (by omega) hg, rcS_w s6n (by omega), by omega⟩ | exact ⟨lNx b s, (38, 0) :: r, true, o, p, by omega, Or.inl ⟨rfl, by omega⟩, hR, gWf_sg (Or.inl rfl) hg, rcS_w s7n (by omega), by omega⟩ | exact ⟨lNx b s, (124, 0) :: r, true, o, p, by omega, Or.inl ⟨rfl, by omega⟩, hR, gWf_sg (Or.inr rfl) hg, rcS_w s8n (by omega), by omega⟩) (by omega)
                  · skip
                    have ty := tk_yes tkh_43 (by omega)
                    have s38 := rcS_fr hf2 sc fkh_43 ty.2
                    have nx := lNx_lt hbk tq.1 tq.2 (by omega)
                    rw [pCd_sg ⟨ty.1.1, Or.inl ty.1.2⟩, ty.1.2] at hR
                    refine j_aload_n 0 dX5_readCond_134 rfl rfl ?_
                    refine j_iconst dX5_readCond_135 (by decide) ?_
                    refine j_callVv l_X5_169 ⟨Nat.le_of_ble_eq_true rfl, Nat.le_of_ble_eq_true rfl⟩ ⟨rfl, rfl⟩ dX5_readCond_136 ob_71 (c_X5_release M_42 f hf (M f 9) (cAllT r.reverse).1 (cAllT r.reverse).2 2 s38.2.1 gw.1 (by omega) ⟨by have := s38.2.2.2.2; omega, by omega⟩) rfl rfl (Nat.le_of_ble_eq_true rfl) (fun M_63 h_64 => ?_)
                    obtain ⟨rlh_64, rfh_64, rsh_64, rkh_64⟩ := h_64
                    have rl38 := rlh_64
                    have rf38 := rfh_64
                    have rs38 := rsh_64
                    have rk38 := rkh_64
                    refine j_aload_n 0 dX5_readCond_139 rfl rfl ?_
                    refine j_iconst dX5_readCond_140 (by decide) ?_
                    refine j_callVv l_X5_162 ⟨Nat.le_of_ble_eq_true rfl, Nat.le_of_ble_eq_true rfl⟩ ⟨rfl, rfl⟩ dX5_readCond_141 ob_71 (c_X5_waitFor M_63 2 (by have := (cC_len rl38).1; have := cRel_len 2 (cAllT r.reverse).1 (cAllT r.reverse).2; omega)) rfl rfl (Nat.le_of_ble_eq_true rfl) (fun M_66 h_67 => ?_)
                    have eM_66 := h_67
                    unfold q_X5_waitFor at eM_66
                    have frh_67 : ∀ c, c ≠ 71 → c ≠ 73 → M_66 c = M_63 c := fun c z1 z2 => by rw [eM_66, jup_cell z1, jup_cell z2]
                    have fkh_67 : ∀ k, k ≠ 9 → M_66 71 k = M_63 71 k := fun k z => by rw [eM_66, jup_ne (by omega), jup_cellk (by decide)]
                    have s7n : rcS b f (M f 9) M M_66 (lNx b s) (s - 1 + 1) ((38, 0) :: r) p := by rw [eM_66]; exact rcS_sign hf2 (Or.inl rfl) s38 rl38 rf38 rs38 rk38
                    refine j_iconst dX5_readCond_144 (by decide) ?_
                    refine j_istore_n (ls' := [(0, jR 71), (1, jI v1), (2, jI 0), (3, jI v3)]) dX5_readCond_145 rfl (by decide) rfl ?_
                    refine j_goto (tgt := 188) dX5_readCond_146 (by decide) ?_
                    obtain ⟨v3_68, ev3_68⟩ : ∃ y : Int, y = v3 + 1 := ⟨_, rfl⟩
                    refine j_iinc (y := v3_68) (ls' := [(0, jR 71), (1, jI v1), (2, jI 0), (3, jI v3_68)]) 3 dX5_readCond_188 rfl ev3_68 (by omega) (by decide) rfl ?_
                    refine j_goto (tgt := 16) dX5_readCond_191 (by decide) ?_
                    exact ih16 v1 0 v3_68 M_66 (by rw [show (900 - v3).toNat = (901 - v3_68).toNat by omega] at hR; first | exact ⟨lNx b s, p33 r, true, o, p, by omega, Or.inl ⟨rfl, by omega⟩, hR, (p33_wf hg).1, rcS_w s3n (by omega), by omega⟩ | exact ⟨lNx b s, (40, 0) :: r, true, o + 1, p, by omega, Or.inl ⟨rfl, by omega⟩, hR, gWf_op (by omega) hg, rcS_w s4n (by omega), by omega⟩ | exact ⟨pT3 b s, (pTo b (lV b s) (lNx b s), pTn b s) :: r, false, o, p + 1, by omega, Or.inr ⟨rfl, by omega⟩, hR, gWf_ts (by omega) pto (by omega) hg, rcS_w s5n (by omega), by omega⟩ | exact ⟨lNx b s, (41, 0) :: r, false, o - 1, p, by omega, Or.inr ⟨rfl, by omega⟩, hR, gWf_cl (by omega) hg, rcS_w s6n (by omega), by omega⟩ | exact ⟨lNx b s, (38, 0) :: r, true, o, p, by omega, Or.inl ⟨rfl, by omega⟩, hR, gWf_sg (Or.inl rfl) hg, rcS_w s7n (by omega), by omega⟩ | exact ⟨lNx b s, (124, 0) :: r, true, o, p, by omega, Or.inl ⟨rfl, by omega⟩, hR, gWf_sg (Or.inr rfl) hg, rcS_w s8n (by omega), by omega⟩) (by omega)
                · skip
                  have ty := tk_yes tkh_39 (by omega)
                  have s41 := rcS_fr hf2 hS fkh_39 ty.2
                  have nx := lNx_lt hbk tq.1 tq.2 (by omega)
                  rw [pCd_41 ty.1 (by omega)] at hR
                  obtain ⟨v1_69, ev1_69⟩ : ∃ y : Int, y = v1 + (-1) := ⟨_, rfl⟩
                  refine j_iinc (y := v1_69) (ls' := [(0, jR 71), (1, jI v1_69), (2, jI v2), (3, jI v3)]) 1 dX5_readCond_115 rfl ev1_69 (by omega) (by decide) rfl ?_
                  refine j_aload_n 0 dX5_readCond_118 rfl rfl ?_
                  refine j_callVv l_X5_172 ⟨Nat.le_of_ble_eq_true rfl, Nat.le_of_ble_eq_true rfl⟩ ⟨rfl, rfl⟩ dX5_readCond_119 ob_71 (c_X5_close M_38 f hf (M f 9) (cAllT r.reverse).1 (cAllT r.reverse).2 s41.2.1 gw.1 ⟨by have := s41.2.2.2.2; omega, by omega⟩) rfl rfl (Nat.le_of_ble_eq_true rfl) (fun M_71 h_72 => ?_)
                  obtain ⟨rlh_72, rfh_72, rsh_72, rkh_72⟩ := h_72
                  have s6n : rcS b f (M f 9) M M_71 (lNx b s) (s - 1) ((41, 0) :: r) p := rcS_mv hf2 s41 (by rw [cAll_41]; exact rlh_72) rfh_72 rsh_72 rkh_72
                  refine j_goto (tgt := 188) dX5_readCond_122 (by decide) ?_
                  obtain ⟨v3_73, ev3_73⟩ : ∃ y : Int, y = v3 + 1 := ⟨_, rfl⟩
                  refine j_iinc (y := v3_73) (ls' := [(0, jR 71), (1, jI v1_69), (2, jI v2), (3, jI v3_73)]) 3 dX5_readCond_188 rfl ev3_73 (by omega) (by decide) rfl ?_
                  refine j_goto (tgt := 16) dX5_readCond_191 (by decide) ?_
                  exact ih16 v1_69 v2 v3_73 M_71 (by rw [show (900 - v3).toNat = (901 - v3_73).toNat by omega] at hR; first | exact ⟨lNx b s, p33 r, true, o, p, by omega, Or.inl ⟨rfl, by omega⟩, hR, (p33_wf hg).1, rcS_w s3n (by omega), by omega⟩ | exact ⟨lNx b s, (40, 0) :: r, true, o + 1, p, by omega, Or.inl ⟨rfl, by omega⟩, hR, gWf_op (by omega) hg, rcS_w s4n (by omega), by omega⟩ | exact ⟨pT3 b s, (pTo b (lV b s) (lNx b s), pTn b s) :: r, false, o, p + 1, by omega, Or.inr ⟨rfl, by omega⟩, hR, gWf_ts (by omega) pto (by omega) hg, rcS_w s5n (by omega), by omega⟩ | exact ⟨lNx b s, (41, 0) :: r, false, o - 1, p, by omega, Or.inr ⟨rfl, by omega⟩, hR, gWf_cl (by omega) hg, rcS_w s6n (by omega), by omega⟩ | exact ⟨lNx b s, (38, 0) :: r, true, o, p, by omega, Or.inl ⟨rfl, by omega⟩, hR, gWf_sg (Or.inl rfl) hg, rcS_w s7n (by omega), by omega⟩ | exact ⟨lNx b s, (124, 0) :: r, true, o, p, by omega, Or.inl ⟨rfl, by omega⟩, hR, gWf_sg (Or.inr rfl) hg, rcS_w s8n (by omega), by omega⟩) (by omega)
            · skip
              exact absurd c80_7 c44_6
          · skip
            exact absurd c44_6 c24_5
        · skip
          have hw : w = true := by rcases hv2 with ⟨z, y⟩ | ⟨z, y⟩; (· exact z); (· omega)
          subst hw
          refine j_aload_n 0 dX5_readCond_27 rfl rfl ?_
          refine j_bipush dX5_readCond_28 (by decide) ?_
          refine j_callVi l_X5_98 ⟨Nat.le_of_ble_eq_true rfl, Nat.le_of_ble_eq_true rfl⟩ ⟨rfl, rfl⟩ dX5_readCond_30 ob_71 (c_X5_takeSign N16 b s 33 (by rw [(hcf3 0 (by decide) (by decide) (by decide) (by decide) (by decide) (by decide))]; exact h_ctyped) (by rw [(hcf1 72 (by decide) (by decide) (by omega) (by omega) (by omega))]; exact h_ctext) hS.1 (by decide)) rfl rfl (Nat.le_of_ble_eq_true rfl) (fun r_74 M_75 h_76 => ?_)
          obtain ⟨tkh_76, fkh_76⟩ := h_76
          have frh_76 := fkh_76.1
          refine j_if_eq (tgt := 43) dX5_readCond_33 (by decide) (fun c33_77 => ?_) (fun c33_77 => ?_)
          · skip
            have t0 : cT b M_75 s := (tk_no tkh_76 (by omega)).2
            have n0 := (tk_no tkh_76 (by omega)).1
            have s0 := rcS_fr hf2 hS fkh_76 t0
            refine j_iload_n 2 dX5_readCond_43 rfl rfl ?_
            refine j_if_ne (tgt := 79) dX5_readCond_44 (by decide) (fun c44_78 => ?_) (fun c44_78 => ?_)
            · skip
              exact absurd c24_5 c44_78
            · skip
              refine j_aload_n 0 dX5_readCond_47 rfl rfl ?_
              refine j_geti (k' := 2) f_X5_41 o_71_2 dX5_readCond_48 rfl ?_
              refine j_bipush dX5_readCond_51 (by decide) ?_
              refine j_icmp_ne (tgt := 79) dX5_readCond_53 (by decide) (fun c53_79 => ?_) (fun c53_79 => ?_)
              · skip
                have nk40 : ¬ (lK b s = 3 ∧ lV b s = 40) := fun z => by have y := (cK_sign (b := b) (q := s) (c := 40) (by decide)).2 z; have := (cT_tok s0.1).2.1; omega
                refine j_iload_n 2 dX5_readCond_79 rfl rfl ?_
                refine j_if_ne (tgt := 102) dX5_readCond_80 (by decide) (fun c80_80 => ?_) (fun c80_80 => ?_)
                · skip
                  exact absurd c44_78 c80_80
                · skip
                  refine j_aload_n 0 dX5_readCond_83 rfl rfl ?_
                  refine j_callVi l_X5_166 ⟨Nat.le_of_ble_eq_true rfl, Nat.le_of_ble_eq_true rfl⟩ ⟨rfl, rfl⟩ dX5_readCond_84 ob_71 (c_X5_readTest M_75 b s f hf (M f 9) (cAllT r.reverse).1 (cAllT r.reverse).2 (by rw [(Eq.trans (fkh_76.2 0 (by decide) (by decide) (by decide) (by decide)) (hcf3 0 (by decide) (by decide) (by decide) (by decide) (by decide) (by decide)))]; exact h_ctyped) (by rw [(Eq.trans (frh_76 72 (by decide)) (hcf1 72 (by decide) (by decide) (by omega) (by omega) (by omega)))]; exact h_ctext) t0 s0.2.1 (by have := s0.2.2.2.1; omega) (by have := s0.2.2.2.2; have := (cC_len s0.2.1).1; omega)) rfl rfl (Nat.le_of_ble_eq_true rfl) (fun r_81 M_82 h_83 => ?_)
                  have rth_83 := h_83
                  unfold q_X5_readTest at rth_83
                  refine j_if_ne (tgt := 92) dX5_readCond_87 (by decide) (fun c87_84 => ?_) (fun c87_84 => ?_)
                  · skip
                    have rtY := rtP_yes rth_83 (by omega)
                    have rtC := rtY.2.2.2.1
                    have c7 := s0.2.2.2.1
                    rw [pCd_t1 ⟨rtY.1.1, rtY.1.2.1, by omega⟩ rtY.2.1] at hR
                    have p3 := pT3_in hbk tq.1 tq.2 rtY.1.1
                    have pto := pTo_in b (lV b s) (lNx b s)
                    refine j_aload_n 0 dX5_readCond_92 rfl rfl ?_
                    refine j_iconst dX5_readCond_93 (by decide) ?_
                    refine j_callVv l_X5_169 ⟨Nat.le_of_ble_eq_true rfl, Nat.le_of_ble_eq_true rfl⟩ ⟨rfl, rfl⟩ dX5_readCond_94 ob_71 (c_X5_release M_82 f hf (M f 9) (cAllT r.reverse).1 ((cAllT r.reverse).2 ++ [(pTo b (lV b s) (lNx b s) + 4) * 10000 + pTn b s]) 3 rtC gw.1 (by omega) ⟨by have a1 := s0.2.2.2.2; have a2 := rtY.2.2.2.2.2.1; have a3 := rtY.2.2.2.2.2.2.1; omega, by omega⟩) rfl rfl (Nat.le_of_ble_eq_true rfl) (fun M_86 h_87 => ?_)
                    obtain ⟨rlh_87, rfh_87, rsh_87, rkh_87⟩ := h_87
                    have s5n := rcS_ts hf2 pto s0 rtY.2.2.2.2.2.2.2 rtY.2.2.1 rtY.2.2.2.2.1 rtY.2.2.2.2.2.1 rtY.2.2.2.2.2.2.1 rlh_87 rfh_87 rsh_87 rkh_87
                    refine j_iconst dX5_readCond_97 (by decide) ?_
                    refine j_istore_n (ls' := [(0, jR 71), (1, jI v1), (2, jI 1), (3, jI v3)]) dX5_readCond_98 rfl (by decide) rfl ?_
                    refine j_goto (tgt := 188) dX5_readCond_99 (by decide) ?_
                    obtain ⟨v3_88, ev3_88⟩ : ∃ y : Int, y = v3 + 1 := ⟨_, rfl⟩
                    refine j_iinc (y := v3_88) (ls' := [(0, jR 71), (1, jI v1), (2, jI 1), (3, jI v3_88)]) 3 dX5_readCond_188 rfl ev3_88 (by omega) (by decide) rfl ?_
                    refine j_goto (tgt := 16) dX5_readCond_191 (by decide) ?_
                    exact ih16 v1 1 v3_88 M_86 (by rw [show (900 - v3).toNat = (901 - v3_88).toNat by omega] at hR; first | exact ⟨lNx b s, p33 r, true, o, p, by omega, Or.inl ⟨rfl, by omega⟩, hR, (p33_wf hg).1, rcS_w s3n (by omega), by omega⟩ | exact ⟨lNx b s, (40, 0) :: r, true, o + 1, p, by omega, Or.inl ⟨rfl, by omega⟩, hR, gWf_op (by omega) hg, rcS_w s4n (by omega), by omega⟩ | exact ⟨pT3 b s, (pTo b (lV b s) (lNx b s), pTn b s) :: r, false, o, p + 1, by omega, Or.inr ⟨rfl, by omega⟩, hR, gWf_ts (by omega) pto (by omega) hg, rcS_w s5n (by omega), by omega⟩ | exact ⟨lNx b s, (41, 0) :: r, false, o - 1, p, by omega, Or.inr ⟨rfl, by omega⟩, hR, gWf_cl (by omega) hg, rcS_w s6n (by omega), by omega⟩ | exact ⟨lNx b s, (38, 0) :: r, true, o, p, by omega, Or.inl ⟨rfl, by omega⟩, hR, gWf_sg (Or.inl rfl) hg, rcS_w s7n (by omega), by omega⟩ | exact ⟨lNx b s, (124, 0) :: r, true, o, p, by omega, Or.inl ⟨rfl, by omega⟩, hR, gWf_sg (Or.inr rfl) hg, rcS_w s8n (by omega), by omega⟩) (by omega)
                  · skip
                    refine j_iconst dX5_readCond_90 (by decide) ?_
                    refine j_zret rfl rfl rfl rfl dX5_readCond_91 (by omega) ?_
                    show rcP b f M M_82 (pCd b 901 q [] true 0 0) 0
                    have c7 := s0.2.2.2.1
                    rcases rtP_no rth_83 (by omega) with ⟨a1, a2, a3⟩ | ⟨a1, a2⟩
                    · rw [pCd_t0 ⟨a1.1, a1.2.1, by omega⟩ a2] at hR; rw [← hR]; exact rcP_no a2 a3 (cCF_tr s0.2.2.1 rth_83.2)
                    · rw [pCd_no n0 nk40 (fun z => a1 ⟨z.1, z.2.1, by omega⟩)] at hR; rw [← hR]; exact rcP_no (by show fl s < 0; unfold fl; rw [if_neg (by omega)]; omega) (by show _ = -1 - fl s; unfold fl; rw [if_neg (by omega), a2]; omega) (cCF_tr s0.2.2.1 rth_83.2)
              · skip
                have k40 := (cK_sign (b := b) (q := s) (c := 40) (by decide)).1 (by have := (cT_tok s0.1).2.1; omega)
                have nx := lNx_lt hbk tq.1 tq.2 (by omega)
                obtain ⟨v1_89, ev1_89⟩ : ∃ y : Int, y = v1 + 1 := ⟨_, rfl⟩
                refine j_iinc (y := v1_89) (ls' := [(0, jR 71), (1, jI v1_89), (2, jI v2), (3, jI v3)]) 1 dX5_readCond_56 rfl ev1_89 (by omega) (by decide) rfl ?_
                refine j_iload_n 1 dX5_readCond_59 rfl rfl ?_
                refine j_bipush dX5_readCond_60 (by decide) ?_
                refine j_icmp_le (tgt := 67) dX5_readCond_62 (by decide) (fun c62_90 => ?_) (fun c62_90 => ?_)
                · skip
                  rw [pCd_40 k40 (by omega)] at hR
                  refine j_aload_n 0 dX5_readCond_67 rfl rfl ?_
                  refine j_iconst dX5_readCond_68 (by decide) ?_
                  refine j_callVv l_X5_162 ⟨Nat.le_of_ble_eq_true rfl, Nat.le_of_ble_eq_true rfl⟩ ⟨rfl, rfl⟩ dX5_readCond_69 ob_71 (c_X5_waitFor M_75 0 (by have := (cC_len s0.2.1).1; omega)) rfl rfl (Nat.le_of_ble_eq_true rfl) (fun M_92 h_93 => ?_)
                  have eM_92 := h_93
                  unfold q_X5_waitFor at eM_92
                  have frh_93 : ∀ c, c ≠ 71 → c ≠ 73 → M_92 c = M_75 c := fun c z1 z2 => by rw [eM_92, jup_cell z1, jup_cell z2]
                  have fkh_93 : ∀ k, k ≠ 9 → M_92 71 k = M_75 71 k := fun k z => by rw [eM_92, jup_ne (by omega), jup_cellk (by decide)]
                  have s40 : rcS b f (M f 9) M M_92 s (s - 1 + 1) ((40, 0) :: r) p := by rw [eM_92]; exact rcS_push hf2 s0 cAll_40
                  have t40 := s40.1
                  refine j_aload_n 0 dX5_readCond_72 rfl rfl ?_
                  refine j_callVv l_X5_38 ⟨Nat.le_of_ble_eq_true rfl, Nat.le_of_ble_eq_true rfl⟩ ⟨rfl, rfl⟩ dX5_readCond_73 ob_71 (c_X5_step M_92 b (by rw [(Eq.trans (fkh_93 0 (by decide)) (Eq.trans (fkh_76.2 0 (by decide) (by decide) (by decide) (by decide)) (hcf3 0 (by decide) (by decide) (by decide) (by decide) (by decide) (by decide))))]; exact h_ctyped) (by rw [(Eq.trans (frh_93 72 (by decide) (by decide)) (Eq.trans (frh_76 72 (by decide)) (hcf1 72 (by decide) (by decide) (by omega) (by omega) (by omega))))]; exact h_ctext) t40.1 (cT_pre t40 (by rw [(Eq.trans (fkh_93 0 (by decide)) (Eq.trans (fkh_76.2 0 (by decide) (by decide) (by decide) (by decide)) (hcf3 0 (by decide) (by decide) (by decide) (by decide) (by decide) (by decide))))]; exact h_ctyped))) rfl rfl (Nat.le_of_ble_eq_true rfl) (fun M_95 h_96 => ?_)
                  have sth_96 := h_96
                  unfold q_X5_step at sth_96
                  have frh_96 := sth_96.2.2.1
                  have s4n := rcS_fr hf2 s40 sth_96.2.2 (cT_step t40 sth_96)
                  refine j_goto (tgt := 188) dX5_readCond_76 (by decide) ?_
                  obtain ⟨v3_97, ev3_97⟩ : ∃ y : Int, y = v3 + 1 := ⟨_, rfl⟩
                  refine j_iinc (y := v3_97) (ls' := [(0, jR 71), (1, jI v1_89), (2, jI v2), (3, jI v3_97)]) 3 dX5_readCond_188 rfl ev3_97 (by omega) (by decide) rfl ?_
                  refine j_goto (tgt := 16) dX5_readCond_191 (by decide) ?_
                  exact ih16 v1_89 v2 v3_97 M_95 (by rw [show (900 - v3).toNat = (901 - v3_97).toNat by omega] at hR; first | exact ⟨lNx b s, p33 r, true, o, p, by omega, Or.inl ⟨rfl, by omega⟩, hR, (p33_wf hg).1, rcS_w s3n (by omega), by omega⟩ | exact ⟨lNx b s, (40, 0) :: r, true, o + 1, p, by omega, Or.inl ⟨rfl, by omega⟩, hR, gWf_op (by omega) hg, rcS_w s4n (by omega), by omega⟩ | exact ⟨pT3 b s, (pTo b (lV b s) (lNx b s), pTn b s) :: r, false, o, p + 1, by omega, Or.inr ⟨rfl, by omega⟩, hR, gWf_ts (by omega) pto (by omega) hg, rcS_w s5n (by omega), by omega⟩ | exact ⟨lNx b s, (41, 0) :: r, false, o - 1, p, by omega, Or.inr ⟨rfl, by omega⟩, hR, gWf_cl (by omega) hg, rcS_w s6n (by omega), by omega⟩ | exact ⟨lNx b s, (38, 0) :: r, true, o, p, by omega, Or.inl ⟨rfl, by omega⟩, hR, gWf_sg (Or.inl rfl) hg, rcS_w s7n (by omega), by omega⟩ | exact ⟨lNx b s, (124, 0) :: r, true, o, p, by omega, Or.inl ⟨rfl, by omega⟩, hR, gWf_sg (Or.inr rfl) hg, rcS_w s8n (by omega), by omega⟩) (by omega)
                · skip
                  rw [pCd_40x k40 (by omega)] at hR
                  refine j_iconst dX5_readCond_65 (by decide) ?_
                  refine j_zret rfl rfl rfl rfl dX5_readCond_66 (by omega) ?_
                  show rcP b f M M_75 (pCd b 901 q [] true 0 0) 0
                  rw [← hR]
                  exact rcP_no (by show fl s < 0; unfold fl; rw [if_neg (by omega)]; omega) (by show _ = -1 - fl s; unfold fl; rw [if_neg (by omega), (cT_tok s0.1).1]; omega) s0.2.2.1
          · skip
            have ty := tk_yes tkh_76 (by omega)
            have s33 := rcS_fr hf2 hS fkh_76 ty.2
            have nx := lNx_lt hbk tq.1 tq.2 (by omega)
            rw [pCd_33 ty.1] at hR
            refine j_aload_n 0 dX5_readCond_36 rfl rfl ?_
            refine j_callVv l_X5_159 ⟨Nat.le_of_ble_eq_true rfl, Nat.le_of_ble_eq_true rfl⟩ ⟨rfl, rfl⟩ dX5_readCond_37 ob_71 (c_X5_turnNext M_75 (by have := (cC_len s33.2.1).1; omega)) rfl rfl (Nat.le_of_ble_eq_true rfl) (fun M_99 h_100 => ?_)
            have tnh_100 := h_100
            unfold q_X5_turnNext at tnh_100
            have s3n := rcS_turn hf2 hg s33 tnh_100
            refine j_goto (tgt := 188) dX5_readCond_40 (by decide) ?_
            obtain ⟨v3_101, ev3_101⟩ : ∃ y : Int, y = v3 + 1 := ⟨_, rfl⟩
            refine j_iinc (y := v3_101) (ls' := [(0, jR 71), (1, jI v1), (2, jI v2), (3, jI v3_101)]) 3 dX5_readCond_188 rfl ev3_101 (by omega) (by decide) rfl ?_
            refine j_goto (tgt := 16) dX5_readCond_191 (by decide) ?_
            exact ih16 v1 v2 v3_101 M_99 (by rw [show (900 - v3).toNat = (901 - v3_101).toNat by omega] at hR; first | exact ⟨lNx b s, p33 r, true, o, p, by omega, Or.inl ⟨rfl, by omega⟩, hR, (p33_wf hg).1, rcS_w s3n (by omega), by omega⟩ | exact ⟨lNx b s, (40, 0) :: r, true, o + 1, p, by omega, Or.inl ⟨rfl, by omega⟩, hR, gWf_op (by omega) hg, rcS_w s4n (by omega), by omega⟩ | exact ⟨pT3 b s, (pTo b (lV b s) (lNx b s), pTn b s) :: r, false, o, p + 1, by omega, Or.inr ⟨rfl, by omega⟩, hR, gWf_ts (by omega) pto (by omega) hg, rcS_w s5n (by omega), by omega⟩ | exact ⟨lNx b s, (41, 0) :: r, false, o - 1, p, by omega, Or.inr ⟨rfl, by omega⟩, hR, gWf_cl (by omega) hg, rcS_w s6n (by omega), by omega⟩ | exact ⟨lNx b s, (38, 0) :: r, true, o, p, by omega, Or.inl ⟨rfl, by omega⟩, hR, gWf_sg (Or.inl rfl) hg, rcS_w s7n (by omega), by omega⟩ | exact ⟨lNx b s, (124, 0) :: r, true, o, p, by omega, Or.inl ⟨rfl, by omega⟩, hR, gWf_sg (Or.inr rfl) hg, rcS_w s8n (by omega), by omega⟩) (by omega)
  exact lp16_3 _ 0 0 0 M_2 (by exact ⟨q, [], true, 0, 0, by omega, Or.inl ⟨rfl, by omega⟩, rfl, ⟨rfl, rfl, rfl⟩, by rw [eM_2, eM_1]; exact rcS_0 hf2 ht h6 hru hst hto, by omega⟩) (Nat.lt_succ_self _)
