/-! ===== the calls one by one: papers, the text, the ACT, the court ===== -/
theorem bF_cg {pp pp' : Int → Int} {h : Int} : ∀ (n : Nat), (∀ j, 9 * h ≤ j → j < 9 * h + 3 * (n : Int) → pp' j = pp j) → bFrom pp' h n = bFrom pp h n ∧ bTo pp' h n = bTo pp h n
  | 0, _ => ⟨rfl, rfl⟩
  | n + 1, H => by
    have ih := bF_cg n (fun j a b => H j a (by omega))
    have e0 := H (9 * h + 3 * (n : Int)) (by omega) (by omega)
    have e1 := H (9 * h + 3 * (n : Int) + 1) (by omega) (by omega)
    have e2 := H (9 * h + 3 * (n : Int) + 2) (by omega) (by omega)
    unfold bFrom bTo pLeast pMost
    rw [ih.1, ih.2, e0, e1, e2]
    exact ⟨rfl, rfl⟩
theorem nNar_ne {M : jM} {h a b c x : Int} (hx : x ≠ h) : nNarrow M h a b c x = M c x := by
  unfold nNarrow
  have g : ∀ (K : jM) (c' v : Int), jup K c' h v c x = K c x := fun K c' v => jup_ne (fun z => hx z.2)
  (repeat' split) <;> simp only [g]
theorem nNar_at (M : jM) (h a b : Int) : (¬ M 14 h = 0 ∧ nNarrow M h a b = M) ∨ (M 14 h = 0 ∧ min (M 13 h) b < max (M 12 h) a ∧ nNarrow M h a b 12 h = 0 ∧ nNarrow M h a b 13 h = 10799 ∧ nNarrow M h a b 14 h = 1) ∨ (M 14 h = 0 ∧ max (M 12 h) a ≤ min (M 13 h) b ∧ nNarrow M h a b 12 h = max (M 12 h) a ∧ nNarrow M h a b 13 h = min (M 13 h) b ∧ nNarrow M h a b 14 h = 0) := by
  unfold nNarrow
  by_cases z : ¬ M 14 h = 0
  · rw [if_pos z]; exact Or.inl ⟨z, rfl⟩
  · have z' : M 14 h = 0 := by omega
    rw [if_neg z]
    by_cases y : min (M 13 h) b < max (M 12 h) a
    · rw [if_pos y]
      refine Or.inr (Or.inl ⟨z', y, ?_, ?_, ?_⟩) <;> simp only [jup_c, Int.reduceEq, ↓reduceIte, up]
    · rw [if_neg y]
      refine Or.inr (Or.inr ⟨z', by omega, ?_, ?_, ?_⟩) <;> simp only [jup_c, Int.reduceEq, ↓reduceIte, up]
      exact z'
theorem fPaper_ok {nh : Int} {np : Int → Int} {h s n d : Int} (q : 0 ≤ fPaper nh np h s n d) : (0 ≤ h ∧ h < nh ∧ 0 ≤ s ∧ s ≤ 2 ∧ 0 ≤ n ∧ (s = 0 → n ≤ 9999) ∧ (s = 1 → n ≤ 32) ∧ (s = 2 → n ≤ 30) ∧ (0 < s → 0 ≤ d ∧ d ≤ 359)) ∧ np h ≠ 3 := by
  unfold fPaper at q
  split at q
  · rename_i z; split at q
    · omega
    · exact ⟨z, by assumption⟩
  · omega
def p83 (pp : Int → Int) (k s n d : Int) : Int → Int := up (up (up pp k s) (k + 1) n) (k + 2) d
theorem p83_0 (pp : Int → Int) (k s n d : Int) : p83 pp k s n d k = s ∧ p83 pp k s n d (k + 1) = n ∧ p83 pp k s n d (k + 2) = d := by
  unfold p83 up
  refine ⟨?_, ?_, ?_⟩
  · rw [if_neg (by omega), if_neg (by omega), if_pos rfl]
  · rw [if_neg (by omega), if_pos rfl]
  · rw [if_pos rfl]
theorem p83_ne {pp : Int → Int} {k s n d j : Int} (h : j < k ∨ k + 2 < j) : p83 pp k s n d j = pp j := by
  unfold p83 up
  rw [if_neg (by omega), if_neg (by omega), if_neg (by omega)]
theorem p83_ok {pp : Int → Int} {i s n d : Int} (hp : pOk pp) (hs : (0 ≤ s ∧ s ≤ 2) ∧ (0 ≤ n ∧ n ≤ 9999) ∧ (s = 0 ∨ (0 ≤ d ∧ d ≤ 359))) : pOk (p83 pp (3 * i) s n d) := by
  intro j
  by_cases e : j = i
  · rw [e, (p83_0 pp (3 * i) s n d).1, (p83_0 pp (3 * i) s n d).2.1, (p83_0 pp (3 * i) s n d).2.2]
    exact hs
  · rw [p83_ne (by omega), p83_ne (by omega), p83_ne (by omega)]
    exact hp j
theorem b83 {pp : Int → Int} {h s n d : Int} (c : Nat) : bFrom (p83 pp (9 * h + 3 * (c : Int)) s n d) h (c + 1) = max (bFrom pp h c) (cLeast s n d) ∧ bTo (p83 pp (9 * h + 3 * (c : Int)) s n d) h (c + 1) = min (bTo pp h c) (cMost s n d) := by
  have g := bF_cg (pp := pp) (pp' := p83 pp (9 * h + 3 * (c : Int)) s n d) (h := h) c (fun j a b => p83_ne (by omega))
  have z := p83_0 pp (9 * h + 3 * (c : Int)) s n d
  show max (bFrom (p83 pp (9 * h + 3 * (c : Int)) s n d) h c) (pLeast (p83 pp (9 * h + 3 * (c : Int)) s n d) (9 * h + 3 * (c : Int))) = max (bFrom pp h c) (cLeast s n d) ∧ min (bTo (p83 pp (9 * h + 3 * (c : Int)) s n d) h c) (pMost (p83 pp (9 * h + 3 * (c : Int)) s n d) (9 * h + 3 * (c : Int))) = min (bTo pp h c) (cMost s n d)
  rw [g.1, g.2]
  unfold pLeast pMost cLeast cMost
  rw [z.1, z.2.1, z.2.2]
  generalize bFrom pp h c = B
  generalize bTo pp h c = T
  by_cases s0 : s = 0
  · rw [if_pos s0, if_pos s0, if_pos s0, if_pos s0]; exact ⟨rfl, rfl⟩
  · by_cases s1 : s = 1
    · rw [if_neg s0, if_neg s0, if_neg s0, if_neg s0, if_pos s1, if_pos s1, if_pos s1, if_pos s1]
      exact ⟨by omega, by omega⟩
    · rw [if_neg s0, if_neg s0, if_neg s0, if_neg s0, if_neg s1, if_neg s1, if_neg s1, if_neg s1]
      exact ⟨by omega, by omega⟩
theorem gH_paper {M O : jM} {h s n d : Int} (I : gH M) (q : 0 ≤ fPaper (M 9 0) (M 11) h s n d) (e9 : O 9 0 = M 9 0) (e74 : O 74 8 = M 74 8) (o10 : O 10 = M 10) (o15 : O 15 = M 15) (o80 : O 80 = M 80) (o81 : O 81 = M 81) (o11 : O 11 = up (M 11) h (M 11 h + 1)) (o82 : O 82 = up (M 82) h (M 11 h + 1)) (o83 : O 83 = p83 (M 83) (9 * h + 3 * M 11 h) s n d)
    (o12 : O 12 = nNarrow M h (cLeast s n d) (cMost s n d) 12) (o13 : O 13 = nNarrow M h (cLeast s n d) (cMost s n d) 13) (o14 : O 14 = nNarrow M h (cLeast s n d) (cMost s n d) 14) : gH O := by
  obtain ⟨⟨a1, a2, a3, a4, a5, a6, a7⟩, ⟨b1, b2, b3, b4⟩, c, dd, e⟩ := I
  obtain ⟨q1, q2⟩ := fPaper_ok q
  have c3 := a3 h
  have hb := dd h q1.1 q1.2.1
  have at_ := nNar_at M h (cLeast s n d) (cMost s n d)
  have x12 := a5 h
  have x13 := a6 h
  have x14 := a7 h
  have nn : M 82 h = M 11 h := by rw [b4]
  have r12 : ∀ i, 0 ≤ O 12 i ∧ O 12 i ≤ 99999 := fun i => by
    rw [o12]
    by_cases z : i = h
    · rw [z]
      rcases at_ with ⟨_, y⟩ | ⟨_, _, y, _⟩ | ⟨_, y0, y, _⟩
      · rw [y]; exact x12
      · rw [y]; omega
      · rw [y]; omega
    · rw [nNar_ne z]; exact a5 i
  have r13 : ∀ i, 0 ≤ O 13 i ∧ O 13 i ≤ 10799 := fun i => by
    rw [o13]
    by_cases z : i = h
    · rw [z]
      rcases at_ with ⟨_, y⟩ | ⟨_, _, _, y, _⟩ | ⟨_, y0, _, y, _⟩
      · rw [y]; exact x13
      · rw [y]; omega
      · rw [y]; omega
    · rw [nNar_ne z]; exact a6 i
  have r14 : ∀ i, 0 ≤ O 14 i ∧ O 14 i ≤ 1 := fun i => by
    rw [o14]
    by_cases z : i = h
    · rw [z]
      rcases at_ with ⟨_, y⟩ | ⟨_, _, _, _, y⟩ | ⟨_, _, _, _, y⟩
      · rw [y]; exact x14
      · rw [y]; omega
      · rw [y]; omega
    · rw [nNar_ne z]; exact a7 i
  refine ⟨⟨by rw [e9]; exact a1, by rw [o10]; exact a2, by rw [o11]; exact up_in a3 (by omega), by rw [o15]; exact a4, r12, r13, r14⟩, ⟨by rw [e9, e74]; exact b1, by rw [o10, o80]; exact b2, by rw [o15, o81]; exact b3, by rw [o11, o82, b4]⟩, ?_, fun x x0 x1 => ?_, fun x x0 => ?_⟩
  · rw [o83, show 9 * h + 3 * M 11 h = 3 * (3 * h + M 11 h) by omega]
    refine p83_ok c ⟨by omega, ?_, ?_⟩
    · rcases (show s = 0 ∨ s = 1 ∨ s = 2 by omega) with z | z | z
      · have := q1.2.2.2.2.2.1 z; omega
      · have := q1.2.2.2.2.2.2.1 z; omega
      · have := q1.2.2.2.2.2.2.2.1 z; omega
    · by_cases z : s = 0
      · exact Or.inl z
      · exact Or.inr (q1.2.2.2.2.2.2.2.2 (by omega))
  · rw [e9] at x1
    unfold bnT
    rw [o82, o83, o12, o13, o14]
    by_cases z : x = h
    · rw [z, up_self, toNat_s c3.1]
      have g := b83 (pp := M 83) (h := h) (s := s) (n := n) (d := d) (M 11 h).toNat
      rw [toNat_c c3.1] at g
      rw [g.1, g.2]
      unfold bnT at hb
      rw [nn] at hb
      rcases at_ with ⟨y0, y⟩ | ⟨y0, y1, y2, y3, y4⟩ | ⟨y0, y1, y2, y3, y4⟩
      · rw [y]
        rcases hb with ⟨w, _⟩ | ⟨w1, w2, w3, w4⟩
        · exact absurd w y0
        · exact Or.inr ⟨w1, w2, w3, by omega⟩
      · rw [y2, y3, y4]
        rcases hb with ⟨_, w2, w3, w4⟩ | ⟨w, _⟩
        · rw [w2, w3] at y1
          exact Or.inr ⟨rfl, rfl, rfl, y1⟩
        · omega
      · rw [y2, y3, y4]
        rcases hb with ⟨_, w2, w3, w4⟩ | ⟨w, _⟩
        · rw [w2, w3] at y1 ⊢
          exact Or.inl ⟨rfl, rfl, rfl, y1⟩
        · omega
    · rw [up_ne z, nNar_ne z, nNar_ne z, nNar_ne z]
      have x3 := a3 x
      rw [b4] at x3
      have g := bF_cg (pp := M 83) (pp' := p83 (M 83) (9 * h + 3 * M 11 h) s n d) (h := x) (M 82 x).toNat (fun j a b => p83_ne (by omega))
      rw [g.1, g.2]
      exact dd x x0 x1
  · rw [e9] at x0
    rw [o14, o82, up_ne (by omega), nNar_ne (by omega)]
    exact e x x0
theorem kc_paper {M N : jM} {h s n d r : Int} (h8 : q_X8_paper M h s n d r N) : rSm M N := by
  intro c hc
  obtain ⟨_, e⟩ := h8
  rw [e]
  split
  · unfold nPaper
    rw [jup_cell (by omega), nNarrow_fr (by omega) (by omega) (by omega)]
  · rfl

set_option maxHeartbeats 4000000 in
theorem T_paper {f g : Int} {Z : pSt} {M N O : jM} {h s n d r r' : Int} (I : jIn f g Z M) (h8 : q_X8_paper M h s n d r N) (h9 : q_X9_paper N h s n d r' O) : r = r' ∧ ∃ f g Z, jIn f g Z O := by
  have k : rSm M N := kc_paper h8
  have hA := jA_or (af_f I).1
  simp only [q_X9_paper, tn_74_3 k I, tn_76 k I, tn_77 k I, tn_78 k I, tn_79 k I, tn_94 k I, tn_95 k I, tn_96 k I, tn_74_8 k I, tn_80 k I, tn_81 k I, tn_82 k I, tn_74_27 k I, tn_89 k I, tn_90 k I, tn_91 k I, tn_92 k I, tn_93 k I, tn_97 k I, tn_98 k I, tn_74_38 k I, tn_74_41 k I, tn_99 k I, tn_100 k I, tn_104 k I, tn_101 k I, tn_103 k I, tn_105 k I, tn_102 k I, tn_106 k I, tn_74_14 k I, tn_74_1 k I] at h9
  obtain ⟨a1, e8⟩ := h8
  obtain ⟨a2, e9⟩ := h9
  refine ⟨a1.trans a2.symm, f, g, Z, ?_⟩
  by_cases q : 0 ≤ fPaper (M 9 0) (M 11) h s n d
  · rw [if_pos q] at e8 e9
    have nf : ∀ c, c ≠ 11 → c ≠ 12 → c ≠ 13 → c ≠ 14 → N c = M c := fun c b1 b2 b3 b4 => by
      rw [e8]; unfold nPaper; rw [jup_cell b1, nNarrow_fr b2 b3 b4]
    have nq : ∀ c, c ≠ 11 → N c = nNarrow M h (cLeast s n d) (cMost s n d) c := fun c b1 => by
      rw [e8]; unfold nPaper; rw [jup_cell b1]
    have n11 : N 11 = up (M 11) h (M 11 h + 1) := by
      rw [e8]; unfold nPaper; rw [jup_c, if_pos rfl, nNarrow_fr (by decide) (by decide) (by decide)]
    have of : ∀ c, c ≠ 74 → c ≠ 83 → c ≠ 82 → O c = N c := fun c b1 b2 b3 => by
      rw [e9, jup_cell b3, jup_cell b2, jup_cell b2, jup_cell b2, jup_cell b1]
    have o82 : O 82 = up (M 82) h (M 11 h + 1) := by rw [e9]; simp only [jup_c, Int.reduceEq, ↓reduceIte]; rw [nf 82 (by decide) (by decide) (by decide) (by decide)]
    have o83 : O 83 = p83 (M 83) (9 * h + 3 * M 11 h) s n d := by rw [e9]; simp only [jup_c, Int.reduceEq, ↓reduceIte]; rw [nf 83 (by decide) (by decide) (by decide) (by decide)]; rfl
    have f74 : ∀ k, k ≠ 0 → O 74 k = M 74 k := fun k b => by
      rw [e9]; simp only [jup_c, Int.reduceEq, ↓reduceIte]; rw [up_ne b, nf 74 (by decide) (by decide) (by decide) (by decide)]
    have fr : ∀ c, c ∉ ([74, 82, 83, 11, 12, 13, 14] : List Int) → O c = M c := by
      intro c hc
      simp only [List.mem_cons, List.not_mem_nil, or_false, not_or] at hc
      obtain ⟨b0, b1, b2, b3, b4, b5, b6⟩ := hc
      rw [of c b0 b2 b1, nf c b3 b4 b5 b6]
    exact ⟨gM_f (fun c q => fr c (nin_of q (by decide))) (by rw [fr 1 (by decide)]) (f74 3 (by decide)) I.1,
      gH_paper I.2.1 q (by rw [fr 9 (by decide)]) (f74 8 (by decide)) (fr 10 (by decide)) (fr 15 (by decide)) (fr 80 (by decide)) (fr 81 (by decide)) (by rw [of 11 (by decide) (by decide) (by decide)]; exact n11) o82 o83 (by rw [of 12 (by decide) (by decide) (by decide)]; exact nq 12 (by decide)) (by rw [of 13 (by decide) (by decide) (by decide)]; exact nq 13 (by decide)) (by rw [of 14 (by decide) (by decide) (by decide)]; exact nq 14 (by decide)),
      gL_f (fun c q => fr c (nin_of q (by decide))) (by rw [fr 16 (by decide)]) (f74 27 (by decide)) (by rw [fr 1 (by decide)]) I.2.2.1,
      gT_f (fun c q => fr c (nin_of q (by decide))) I.2.2.2.1,
      gC_f (fun c q => fr c (nin_of q (by decide))) (by rw [fr 36 (by decide)]) (by rw [fr 36 (by decide)]) (f74 38 (by decide)) (f74 41 (by decide)) I.2.2.2.2.1,
      gR_f (fun c q => fr c (nin_of q (by decide))) I.2.2.2.2.2.1,
      gX_f (fr 72 (by decide)) (fr 84 (by decide)) (by rw [fr 71 (by decide)]) (f74 14 (by decide)) I.2.2.2.2.2.2.1,
      gW_f (fr 75 (by decide)) I.2.2.2.2.2.2.2.1,
      gA_f (fun c a b => fr c (by simp only [List.mem_cons, List.not_mem_nil, or_false, not_or]; omega)) (by rw [fr f (by simp only [List.mem_cons, List.not_mem_nil, or_false, not_or]; omega)]) (by rw [fr f (by simp only [List.mem_cons, List.not_mem_nil, or_false, not_or]; omega)]) (by rw [fr 0 (by decide)]) (by rw [fr 0 (by decide)]) (fun i _ => by rw [fr 85 (by decide)]) (fun i _ => by rw [fr 86 (by decide)]) (f74 20 (by decide)) I.2.2.2.2.2.2.2.2.1,
      (by unfold gZ; rw [show O 0 9 = M 0 9 from (by rw [fr 0 (by decide)]), show O 74 1 = M 74 1 from (f74 1 (by decide))]; exact I.2.2.2.2.2.2.2.2.2)⟩
  · rw [if_neg q] at e8 e9
    exact jIn_q (N := N) (by rw [e8]; exact sC_rf f M) (by rw [e9]; exact sR_j N) I
theorem fFall_in {sd ch co : Int → Int} {i : Int} (h : ∀ k, 0 ≤ sd k ∧ sd k ≤ 1) : ∀ (n : Nat) (k : Int), 0 ≤ fFall sd ch co i n k ∧ fFall sd ch co i n k ≤ 1
  | 0, k => h k
  | n + 1, k => by
    unfold fFall
    split
    · omega
    · exact fFall_in h n k
theorem kc_appeal {M N : jM} {i r : Int} (h8 : q_X8_appeal M i r N) : rSm M N := fun c hc => h8.2.2 c (by omega)
set_option maxHeartbeats 4000000 in
theorem T_appeal {f g : Int} {Z : pSt} {M N O : jM} {i r r' : Int} (I : jIn f g Z M) (h8 : q_X8_appeal M i r N) (h9 : q_X9_appeal N i r' O) : r = r' ∧ ∃ f g Z, jIn f g Z O := by
  have k : rSm M N := kc_appeal h8
  have hA := jA_or (af_f I).1
  simp only [q_X9_appeal, tn_74_3 k I, tn_76 k I, tn_77 k I, tn_78 k I, tn_79 k I, tn_94 k I, tn_95 k I, tn_96 k I, tn_74_8 k I, tn_80 k I, tn_81 k I, tn_82 k I, tn_74_27 k I, tn_89 k I, tn_90 k I, tn_91 k I, tn_92 k I, tn_93 k I, tn_97 k I, tn_98 k I, tn_74_38 k I, tn_74_41 k I, tn_99 k I, tn_100 k I, tn_104 k I, tn_101 k I, tn_103 k I, tn_105 k I, tn_102 k I, tn_106 k I, tn_74_14 k I, tn_74_1 k I] at h9
  obtain ⟨a1, n42, e8⟩ := h8
  obtain ⟨a2, o105, e9⟩ := h9
  refine ⟨a1.trans a2.symm, f, g, Z, ?_⟩
  have f74 : ∀ k, k ≠ 0 → O 74 k = M 74 k := fun k b => by rw [e9 74 (by decide), jup_ne (fun z => b z.2), e8 74 (by decide)]
  have fr : ∀ c, c ∉ ([74, 105, 42] : List Int) → O c = M c := by
    intro c hc
    simp only [List.mem_cons, List.not_mem_nil, or_false, not_or] at hc
    obtain ⟨b0, b1, b2⟩ := hc
    rw [e9 c b1, jup_cell b0, e8 c b2]
  have o42 : O 42 = N 42 := by rw [e9 42 (by decide), jup_cell (by decide)]
  have eo : O 42 = O 105 := by rw [o42, n42, o105]
  have r42 : ∀ k, 0 ≤ O 42 k ∧ O 42 k ≤ 1 := by
    rw [o42, n42]
    split
    · exact fFall_in (af_cstands I) _
    · exact af_cstands I
  exact ⟨gM_f (fun c q => fr c (nin_of q (by decide))) (by rw [fr 1 (by decide)]) (f74 3 (by decide)) I.1,
    gH_f (fun c q => fr c (nin_of q (by decide))) (by rw [fr 9 (by decide)]) (f74 8 (by decide)) I.2.1,
    gL_f (fun c q => fr c (nin_of q (by decide))) (by rw [fr 16 (by decide)]) (f74 27 (by decide)) (by rw [fr 1 (by decide)]) I.2.2.1,
    gT_f (fun c q => fr c (nin_of q (by decide))) I.2.2.2.1,
    (by obtain ⟨⟨a1, a2, a3, a4, a5, a6, a7, a8, a9⟩, b1, b2, b3, b4, b5, b6, b7, b8, b9⟩ := I.2.2.2.2.1; exact ⟨⟨by rw [fr 36 (by decide)]; exact a1, by rw [fr 36 (by decide)]; exact a2, by rw [fr 37 (by decide)]; exact a3, by rw [fr 38 (by decide)]; exact a4, by rw [fr 39 (by decide)]; exact a5, by rw [fr 40 (by decide)]; exact a6, by rw [fr 41 (by decide)]; exact a7, r42, by rw [fr 43 (by decide)]; exact a9⟩, by rw [fr 36 (by decide), f74 38 (by decide)]; exact b1, by rw [fr 36 (by decide), f74 41 (by decide)]; exact b2, by rw [fr 37 (by decide), fr 99 (by decide)]; exact b3, by rw [fr 38 (by decide), fr 100 (by decide)]; exact b4, by rw [fr 39 (by decide), fr 104 (by decide)]; exact b5, by rw [fr 40 (by decide), fr 101 (by decide)]; exact b6, by rw [fr 41 (by decide), fr 103 (by decide)]; exact b7, eo, by rw [fr 43 (by decide), fr 102 (by decide)]; exact b9⟩),
    gR_f (fun c q => fr c (nin_of q (by decide))) I.2.2.2.2.2.1,
    gX_f (fr 72 (by decide)) (fr 84 (by decide)) (by rw [fr 71 (by decide)]) (f74 14 (by decide)) I.2.2.2.2.2.2.1,
    gW_f (fr 75 (by decide)) I.2.2.2.2.2.2.2.1,
    gA_f (fun c a b => fr c (by simp only [List.mem_cons, List.not_mem_nil, or_false, not_or]; omega)) (by rw [fr f (by simp only [List.mem_cons, List.not_mem_nil, or_false, not_or]; omega)]) (by rw [fr f (by simp only [List.mem_cons, List.not_mem_nil, or_false, not_or]; omega)]) (by rw [fr 0 (by decide)]) (by rw [fr 0 (by decide)]) (fun i _ => by rw [fr 85 (by decide)]) (fun i _ => by rw [fr 86 (by decide)]) (f74 20 (by decide)) I.2.2.2.2.2.2.2.2.1,
    (by unfold gZ; rw [show O 0 9 = M 0 9 from (by rw [fr 0 (by decide)]), show O 74 1 = M 74 1 from (f74 1 (by decide))]; exact I.2.2.2.2.2.2.2.2.2)⟩
theorem kc_type {M N : jM} {v n r : Int} (h8 : q_X8_type M v n r N) : rSm M N := by
  intro c hc
  rcases h8.1 with ⟨_, ⟨_, _, z⟩ | ⟨_, _, _, _, z⟩⟩ | ⟨_, _, z⟩
  · rw [z]
  · exact z c (by omega) (by omega)
  · rw [z]
set_option maxHeartbeats 4000000 in
theorem T_type {f g : Int} {Z : pSt} {M N O : jM} {v n r r' : Int} (I : jIn f g Z M) (h8 : q_X8_type M v n r N) (h9 : q_X9_type N v n r' O) : r = r' ∧ ∃ f g Z, jIn f g Z O := by
  have k : rSm M N := kc_type h8
  have hA := jA_or (af_f I).1
  have x14 : jup N 74 0 0 74 14 = M 71 0 := by rw [jup_ne (by decide)]; exact tn_74_14 k I
  have q : N = M → O = jup N 74 0 0 → ∃ f g Z, jIn f g Z O := fun z y => ⟨f, g, Z, jIn_q (N := N) (by rw [z]; exact sC_rf f M) (by rw [y]; exact sR_j N) I⟩
  obtain ⟨c8, k8⟩ := h8
  obtain ⟨c9, k9⟩ := h9
  rcases c8 with ⟨p, ⟨p1, p2, p3⟩ | ⟨p1, p2, p3, p4, p5⟩⟩ | ⟨p, p2, p3⟩
  · rcases c9 with ⟨_, ⟨s1, s2, s3⟩ | ⟨s1, s2, s3, s4, s5⟩⟩ | ⟨s, _, _⟩
    · exact ⟨by rw [p2, s2], q p3 s3⟩
    · rw [x14] at s1; omega
    · exact absurd p s
  · rcases c9 with ⟨_, ⟨s1, s2, s3⟩ | ⟨s1, s2, s3, s4, s5⟩⟩ | ⟨s, _, _⟩
    · rw [x14] at s1; omega
    · rw [x14] at s2 s3 s4
      refine ⟨by rw [p2, s2], f, g, Z, ?_⟩
      have x84 : jup N 74 0 0 84 = M 84 := by rw [jup_cell (by decide)]; exact k 84 (by decide)
      rw [x84] at s4
      have f74 : ∀ k, k ≠ 14 → k ≠ 0 → O 74 k = M 74 k := fun j b0 b1 => by rw [k9 j b0 b1, k 74 (by decide)]
      have o71 : ∀ j, O 71 j = N 71 j := fun j => by rw [s5 71 (by decide) (by decide), jup_cellk (by decide)]
      have o72 : ∀ j, O 72 j = tyF tyC (M 72) (M 71 0) v n j := fun j => by rw [s5 72 (by decide) (by decide), jup_cellk (by decide)]; exact p4 j
      have fr : ∀ c, c ∉ ([71, 72, 74, 84] : List Int) → O c = M c := by
        intro c hc
        simp only [List.mem_cons, List.not_mem_nil, or_false, not_or] at hc
        obtain ⟨b0, b1, b2, b3⟩ := hc
        rw [s5 c b2 b3, jup_cell b2, p5 c b0 b1]
      have gx : gX O := by
        obtain ⟨x1, x2, x3, x4, x5⟩ := I.2.2.2.2.2.2.1
        refine ⟨by rw [o71, p3]; omega, fun j => ?_, fun j => ?_, by rw [o71, p3, s3], fun j => ?_⟩
        · rw [o72]; unfold tyF
          split
          · exact (ty_eq (by omega)).2.2
          · exact x2 j
        · rw [s4]; unfold tyF
          split
          · exact (ty_eq (by omega)).2.1
          · exact x3 j
        · rw [o72, s4]; unfold tyF
          split
          · exact (ty_eq (by omega)).1
          · exact x5 j
      exact ⟨gM_f (fun c q => fr c (nin_of q (by decide))) (by rw [fr 1 (by decide)]) (f74 3 (by decide) (by decide)) I.1,
        gH_f (fun c q => fr c (nin_of q (by decide))) (by rw [fr 9 (by decide)]) (f74 8 (by decide) (by decide)) I.2.1,
        gL_f (fun c q => fr c (nin_of q (by decide))) (by rw [fr 16 (by decide)]) (f74 27 (by decide) (by decide)) (by rw [fr 1 (by decide)]) I.2.2.1,
        gT_f (fun c q => fr c (nin_of q (by decide))) I.2.2.2.1,
        gC_f (fun c q => fr c (nin_of q (by decide))) (by rw [fr 36 (by decide)]) (by rw [fr 36 (by decide)]) (f74 38 (by decide) (by decide)) (f74 41 (by decide) (by decide)) I.2.2.2.2.1,
        gR_f (fun c q => fr c (nin_of q (by decide))) I.2.2.2.2.2.1,
        gx,
        gW_f (fr 75 (by decide)) I.2.2.2.2.2.2.2.1,
        gA_f (fun c a b => fr c (by simp only [List.mem_cons, List.not_mem_nil, or_false, not_or]; omega)) (by rw [fr f (by simp only [List.mem_cons, List.not_mem_nil, or_false, not_or]; omega)]) (by rw [fr f (by simp only [List.mem_cons, List.not_mem_nil, or_false, not_or]; omega)]) (by rw [fr 0 (by decide)]) (by rw [fr 0 (by decide)]) (fun i _ => by rw [fr 85 (by decide)]) (fun i _ => by rw [fr 86 (by decide)]) (f74 20 (by decide) (by decide)) I.2.2.2.2.2.2.2.2.1,
        (by unfold gZ; rw [show O 0 9 = M 0 9 from (by rw [fr 0 (by decide)]), show O 74 1 = M 74 1 from (f74 1 (by decide) (by decide))]; exact I.2.2.2.2.2.2.2.2.2)⟩
    · exact absurd p s
  · rcases c9 with ⟨s, _⟩ | ⟨s, s2, s3⟩
    · exact absurd s p
    · exact ⟨by rw [p2, s2], q p3 s3⟩
theorem kc_act {f g : Int} {M N : jM} {b : Int → Int} {r : Int} (hf : jA f) (hg : jA g) (h8 : q_X8_act M b f g hf hg r N) : rSm M N := by
  intro c hc
  have := jA_or hg
  exact h8.2.1 c (by omega) (by omega) (by omega) (by omega)
set_option maxHeartbeats 4000000 in
theorem T_act {f g : Int} {Z : pSt} {M N O : jM} {r r' : Int} {b : Int → Int} (hf : jA f) (hg : jA g) (I : jIn f g Z M) (hb : cTx M = b) (h8 : q_X8_act M b f g hf hg r N) (h9 : q_X9_act N b r' O) : r = r' ∧ ∃ f g Z, jIn f g Z O := by
  have k : rSm M N := kc_act hf hg h8
  have hf' := jA_or hf
  have hg' := jA_or hg
  have fg := (af_f I).2.2
  obtain ⟨c8, n8, m8⟩ := h8
  obtain ⟨c9, n9, m9⟩ := h9
  have bk : bOk b (M 71 0) := by rw [← hb]; exact cTx_ok (af_ctyped I)
  have big : ∀ c, c ∉ ([0, 71, 73, 74, 85, 86, 47, 48, 49, 50, 51, 52, 53, 54, 55, 56, 59, 60, 61, 62, 63, 64, 65, 66, 67, 68] : List Int) → O c = M c := by
    intro c hc
    simp only [List.mem_cons, List.not_mem_nil, or_false, not_or] at hc
    rw [n9 c (by omega) (by omega) (by omega), n8 c (by omega) (by omega) (by omega) (by omega)]
  have fr := big
  have f74 : ∀ k, k ≠ 0 → (k < 14 ∨ 24 < k) → O 74 k = M 74 k := fun j b0 b1 => by rw [m9 j b0 (by omega), k 74 (by decide)]
  have o71 : O 71 = N 71 := n9 71 (by decide) (by decide) (by decide)
  have o0 : O 0 = N 0 := n9 0 (by decide) (by decide) (by decide)
  rcases c8 with ⟨p1, p2, p3, p4⟩ | ⟨p1, p2, p3, p4, p5, p6, p7⟩
  · rcases c9 with ⟨s1, s2, s3, s4, s5, s6⟩ | ⟨s1, _⟩
    · refine ⟨by rw [p2, s2], f, g, Z, ?_⟩
      have x0 : O 0 = M 0 := by rw [o0, p3]
      have x71 : O 71 0 = M 71 0 := by rw [o71, p4]
      have x14 : O 74 14 = M 74 14 := by rw [s3, k 74 (by decide)]
      have x20 : O 74 20 = M 74 20 := by rw [s4, k 74 (by decide)]
      have xf : ∀ c, f ≤ c → c ≤ f + 9 → O c = M c := fun c a b => by rw [n9 c (by omega) (by omega) (by omega), n8 c (by omega) (by omega) (by omega) (by omega)]
      exact ⟨gM_f (fun c q => fr c (nin_of q (by decide))) (by rw [fr 1 (by decide)]) (f74 3 (by decide) (by decide)) I.1,
        gH_f (fun c q => fr c (nin_of q (by decide))) (by rw [fr 9 (by decide)]) (f74 8 (by decide) (by decide)) I.2.1,
        gL_f (fun c q => fr c (nin_of q (by decide))) (by rw [fr 16 (by decide)]) (f74 27 (by decide) (by decide)) (by rw [fr 1 (by decide)]) I.2.2.1,
        gT_f (fun c q => fr c (nin_of q (by decide))) I.2.2.2.1,
        gC_f (fun c q => fr c (nin_of q (by decide))) (by rw [fr 36 (by decide)]) (by rw [fr 36 (by decide)]) (f74 38 (by decide) (by decide)) (f74 41 (by decide) (by decide)) I.2.2.2.2.1,
        gR_f (fun c q => fr c (nin_of q (by decide))) I.2.2.2.2.2.1,
        gX_f (fr 72 (by decide)) (fr 84 (by decide)) x71 x14 I.2.2.2.2.2.2.1,
        gW_f (fr 75 (by decide)) I.2.2.2.2.2.2.2.1,
        gA_f (fun c a b => xf c (by omega) b) (by rw [xf f (by omega) (by omega)]) (by rw [xf f (by omega) (by omega)]) (by rw [x0]) (by rw [x0]) (fun i z => by rw [s5 i z, k 85 (by decide)]) (fun i z => by rw [s6 i z, k 86 (by decide)]) x20 I.2.2.2.2.2.2.2.2.1,
        (by unfold gZ; rw [show O 0 9 = M 0 9 from (by rw [x0]), show O 74 1 = M 74 1 from (f74 1 (by decide) (by decide))]; exact I.2.2.2.2.2.2.2.2.2)⟩
    · omega
  · rcases c9 with ⟨s1, _⟩ | ⟨s1, s2, s3, s4⟩
    · omega
    · refine ⟨by rw [p2, s2], g, f, pTxt b, ?_⟩
      have x09 : O 0 9 = M 0 9 := by rw [o0]; exact p6 9 (by decide) (by decide)
      have xg : ∀ c, g ≤ c → c ≤ g + 9 → O c = N c := fun c a b => n9 c (by omega) (by omega) (by omega)
      have gx : gX O := by
        obtain ⟨x1, x2, x3, x4, x5⟩ := I.2.2.2.2.2.2.1
        exact ⟨by rw [o71, p7]; decide, by rw [fr 72 (by decide)]; exact x2, by rw [fr 84 (by decide)]; exact x3, by rw [o71, p7, s4], by rw [fr 72 (by decide), fr 84 (by decide)]; exact x5⟩
      have ga : gA g f (pTxt b) O := ⟨⟨hg, hf, fun z => fg z.symm⟩, ⟨by rw [o0]; exact p4, by rw [o0]; exact p5⟩, tz_txt bk p1, cAr_cg p3 xg, s3⟩
      exact ⟨gM_f (fun c q => fr c (nin_of q (by decide))) (by rw [fr 1 (by decide)]) (f74 3 (by decide) (by decide)) I.1,
        gH_f (fun c q => fr c (nin_of q (by decide))) (by rw [fr 9 (by decide)]) (f74 8 (by decide) (by decide)) I.2.1,
        gL_f (fun c q => fr c (nin_of q (by decide))) (by rw [fr 16 (by decide)]) (f74 27 (by decide) (by decide)) (by rw [fr 1 (by decide)]) I.2.2.1,
        gT_f (fun c q => fr c (nin_of q (by decide))) I.2.2.2.1,
        gC_f (fun c q => fr c (nin_of q (by decide))) (by rw [fr 36 (by decide)]) (by rw [fr 36 (by decide)]) (f74 38 (by decide) (by decide)) (f74 41 (by decide) (by decide)) I.2.2.2.2.1,
        gR_f (fun c q => fr c (nin_of q (by decide))) I.2.2.2.2.2.1,
        gx,
        gW_f (fr 75 (by decide)) I.2.2.2.2.2.2.2.1,
        ga,
        (by unfold gZ; rw [show O 0 9 = M 0 9 from x09, show O 74 1 = M 74 1 from (f74 1 (by decide) (by decide))]; exact I.2.2.2.2.2.2.2.2.2)⟩
