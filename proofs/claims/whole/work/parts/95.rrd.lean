/-! ===== the reference's drafts ===== -/
def rRs (M : jM) (j : Int) (x : pRw) : Prop := (M 85 (320 + 20 * j) = x.1 ∧ M 85 (320 + 20 * j + 1) = x.2.1 ∧ M 85 (320 + 20 * j + 2) = x.2.2.1 ∧ M 85 (320 + 20 * j + 3) = x.2.2.2.1 ∧ M 85 (320 + 20 * j + 4) = (x.2.2.2.2.2.2.length : Int) ∧ M 85 (320 + 20 * j + 5) = (x.2.2.2.2.2.1 : Int)) ∧
  rRw (M 85) (320 + 20 * j) x.2.2.2.2.1 ∧ (x.2.2.2.2.2.2 = [] ∨ (0 ≤ M 85 (320 + 20 * j + 13) ∧ M 85 (320 + 20 * j + 13) + (x.2.2.2.2.2.2.length : Int) ≤ M 74 24 ∧ rTks (M 86) (2000 + 2 * M 85 (320 + 20 * j + 13)) x.2.2.2.2.2.2))
def rAr (M : jM) (A : pSt) : Prop := M 74 21 = A.2.1 ∧ (0 ≤ M 74 24 ∧ M 74 24 ≤ A.1) ∧ ∀ j, 0 ≤ j → j < A.2.1 → rRs M j (A.2.2 j)
theorem rRs_cg {M N : jM} {j a c : Int} {x : pRw} (h : rRs M j x) (hj : 0 ≤ j ∧ 320 + 20 * j + 20 ≤ a) (h85 : ∀ i, i < a → N 85 i = M 85 i) (hc : M 74 24 = c) (h86 : ∀ i, i < 2000 + 2 * c → N 86 i = M 86 i) (h24 : c ≤ N 74 24) : rRs N j x := by
  obtain ⟨h1, h2, h3⟩ := h
  refine ⟨?_, fun w w0 w1 => by rw [h85 _ (by omega)]; exact h2 w w0 w1, ?_⟩
  · rw [h85 _ (by omega), h85 _ (by omega), h85 _ (by omega), h85 _ (by omega), h85 _ (by omega), h85 _ (by omega)]; exact h1
  · rw [h85 _ (by omega)]
    rcases h3 with z | ⟨z1, z2, z3⟩
    · exact Or.inl z
    · exact Or.inr ⟨z1, by omega, rTks_cg _ z3 (fun i _ i1 => h86 i (by omega))⟩
def pQ1 (b : Int → Int) (A : pSt) : Int := if 0 ≤ pFd b A.2.2 A.2.1 (lNx b A.1) then fl (lNx b A.1) else lNx b A.1
theorem pQ1_k {b : Int → Int} {A : pSt} (h : ¬ lK b (lNx b A.1) = 2) : pQ1 b A = lNx b A.1 := by
  have : pFd b A.2.2 A.2.1 (lNx b A.1) = -9 := by unfold pFd; rw [if_neg h]
  unfold pQ1; rw [if_neg (by omega)]
theorem pQ1_n {b : Int → Int} {A : pSt} (h : pFd b A.2.2 A.2.1 (lNx b A.1) < 0) : pQ1 b A = lNx b A.1 := by unfold pQ1; rw [if_neg (by omega)]
theorem pQ1_y {b : Int → Int} {A : pSt} (h : 0 ≤ pFd b A.2.2 A.2.1 (lNx b A.1)) : pQ1 b A = fl (lNx b A.1) := by unfold pQ1; rw [if_pos h]
/-- the row of a new RULE so far -/
def rHd (M K : jM) (a x0 x1 x2 : Int) : Prop := (∀ c, c ≠ 74 → c ≠ 85 → K c = M c) ∧ (∀ k, k ≠ 15 → k ≠ 16 → k ≠ 17 → k ≠ 18 → k ≠ 19 → K 74 k = M 74 k) ∧ (∀ j, j < a → K 85 j = M 85 j) ∧ (K 85 a = x0 ∧ K 85 (a + 1) = x1 ∧ K 85 (a + 2) = x2) ∧ ∀ j, 3 ≤ j → j ≤ 19 → K 85 (a + j) = if j = 4 then 0 else -9
theorem rHd_2 {M K N : jM} {a x0 x1 x2 : Int} (h : rHd M K a x0 x1 x2) (hf : rF2 K N) : rHd M N a x0 x1 x2 := by
  obtain ⟨h1, h2, h3, h4, h5⟩ := h
  have e := hf.1 85 (by decide)
  exact ⟨fun c a1 a2 => (hf.1 c a1).trans (h1 c a1 a2), fun k a1 a2 a3 a4 a5 => (hf.2 k a1 a2 a3 a4 a5).trans (h2 k a1 a2 a3 a4 a5), fun j z => by rw [e]; exact h3 j z, by rw [e]; exact h4, fun j z1 z2 => by rw [e]; exact h5 j z1 z2⟩
theorem rHd_a {M K : jM} {a x0 x1 x2 v : Int} (h : rHd M K a x0 x1 x2) : rHd M (jup K 85 a v) a v x1 x2 := by
  obtain ⟨h1, h2, h3, h4, h5⟩ := h
  refine ⟨fun c a1 a2 => by rw [jup_cell a2]; exact h1 c a1 a2, fun k a1 a2 a3 a4 a5 => by rw [jup_cellk (by decide)]; exact h2 k a1 a2 a3 a4 a5, fun j z => by rw [jup_ne (by omega)]; exact h3 j z, ⟨jup_self _ _ _ _, by rw [jup_ne (by omega)]; exact h4.2.1, by rw [jup_ne (by omega)]; exact h4.2.2⟩, fun j z1 z2 => by rw [jup_ne (by omega)]; exact h5 j z1 z2⟩
theorem rHd_b {M K : jM} {a x0 x1 x2 v : Int} (h : rHd M K a x0 x1 x2) : rHd M (jup K 85 (a + 1) v) a x0 v x2 := by
  obtain ⟨h1, h2, h3, h4, h5⟩ := h
  refine ⟨fun c a1 a2 => by rw [jup_cell a2]; exact h1 c a1 a2, fun k a1 a2 a3 a4 a5 => by rw [jup_cellk (by decide)]; exact h2 k a1 a2 a3 a4 a5, fun j z => by rw [jup_ne (by omega)]; exact h3 j z, ⟨by rw [jup_ne (by omega)]; exact h4.1, jup_self _ _ _ _, by rw [jup_ne (by omega)]; exact h4.2.2⟩, fun j z1 z2 => by rw [jup_ne (by omega)]; exact h5 j z1 z2⟩
theorem rHd_c {M K : jM} {a x0 x1 x2 v : Int} (h : rHd M K a x0 x1 x2) : rHd M (jup K 85 (a + 2) v) a x0 x1 v := by
  obtain ⟨h1, h2, h3, h4, h5⟩ := h
  refine ⟨fun c a1 a2 => by rw [jup_cell a2]; exact h1 c a1 a2, fun k a1 a2 a3 a4 a5 => by rw [jup_cellk (by decide)]; exact h2 k a1 a2 a3 a4 a5, fun j z => by rw [jup_ne (by omega)]; exact h3 j z, ⟨by rw [jup_ne (by omega)]; exact h4.1, by rw [jup_ne (by omega)]; exact h4.2.1, jup_self _ _ _ _⟩, fun j z1 z2 => by rw [jup_ne (by omega)]; exact h5 j z1 z2⟩
theorem rHd_0 {M M1 N : jM} {a : Int} (hf : rFr M M1) (h1 : ∀ c, c ≠ 85 → N c = M1 c) (h2 : ∀ j, N 85 j = if a ≤ j ∧ j < a + 20 then -9 else M1 85 j) : rHd M (jup N 85 (a + 4) 0) a (-9) (-9) (-9) := by
  have e := hf.1 85 (by decide)
  have g : ∀ j, 0 ≤ j → j ≤ 19 → N 85 (a + j) = -9 := fun j z1 z2 => by rw [h2, if_pos (by omega)]
  refine ⟨fun c a1 a2 => by rw [jup_cell a2, h1 c a2]; exact hf.1 c a1, fun k a1 a2 a3 a4 a5 => by rw [jup_cellk (by decide), h1 74 (by decide)]; exact hf.2 k a1 a2 a3 a4, fun j z => by rw [jup_ne (by omega), h2, if_neg (by omega), e], ⟨?_, ?_, ?_⟩, fun j z1 z2 => ?_⟩
  · have := g 0 (by omega) (by omega)
    rw [Int.add_zero] at this
    rw [jup_ne (by omega)]; exact this
  · rw [jup_ne (by omega)]; exact g 1 (by omega) (by omega)
  · rw [jup_ne (by omega)]; exact g 2 (by omega) (by omega)
  · by_cases z : j = 4
    · rw [z, jup_self, if_pos rfl]
    · rw [jup_ne (by omega), if_neg z]; exact g j (by omega) z2
theorem rQ_n {b : Int → Int} {M K : jM} {A : pSt} {a x0 x1 x2 r x n q : Int} (hR : rAr M A) (hw : rHd M K a x0 x1 x2) (ha : a = 320 + 20 * A.2.1) (h0 : 0 ≤ A.2.1) (hn : n = A.2.1) (hx : x = lV b q) (h : (r = -1 ∧ ∀ j, 0 ≤ j → j < n → ¬ K 85 (320 + 20 * j) = x) ∨ ((0 ≤ r ∧ r < n) ∧ K 85 (320 + 20 * r) = x ∧ ∀ j, 0 ≤ j → j < r → ¬ K 85 (320 + 20 * j) = x)) (hr : r < 0) : pFd b A.2.2 A.2.1 q < 0 := by
  rcases h with ⟨_, h⟩ | ⟨h, _⟩
  · rcases pFd_sp b A.2.2 q h0 with z | ⟨z, _, e, _⟩
    · omega
    · exact absurd (by rw [hw.2.2.1 _ (by omega), (hR.2.2 _ z.1 z.2).1.1, hx]; exact e) (h _ z.1 (by omega))
  · omega
theorem rQ_y {b : Int → Int} {M K : jM} {A : pSt} {r x n q : Int} (hR : rAr M A) (hw : ∀ j, j < 320 + 20 * A.2.1 → K 85 j = M 85 j) (h0 : 0 ≤ A.2.1) (hn : n = A.2.1) (hk : lK b q = 2) (hx : x = lV b q) (h : (r = -1 ∧ ∀ j, 0 ≤ j → j < n → ¬ K 85 (320 + 20 * j) = x) ∨ ((0 ≤ r ∧ r < n) ∧ K 85 (320 + 20 * r) = x ∧ ∀ j, 0 ≤ j → j < r → ¬ K 85 (320 + 20 * j) = x)) (hr : ¬ r < 0) : pFd b A.2.2 A.2.1 q = r ∧ r < A.2.1 := by
  rcases h with ⟨h, _⟩ | ⟨h, e, hl⟩
  · omega
  · have er : (A.2.2 r).1 = lV b q := by rw [← (hR.2.2 r h.1 (by omega)).1.1, ← hw _ (by omega), ← hx]; exact e
    refine ⟨?_, by omega⟩
    rcases pFd_sp b A.2.2 q h0 with ⟨_, z⟩ | ⟨z, _, e2, z3⟩
    · exact absurd er (z hk r h.1 (by omega))
    · rcases Int.lt_trichotomy (pFd b A.2.2 A.2.1 q) r with y | y | y
      · exact absurd (by rw [hw _ (by omega), (hR.2.2 _ z.1 z.2).1.1, hx]; exact e2) (hl _ z.1 y)
      · exact y
      · exact absurd er (z3 r h.1 y)
/-! behind if .. then -/
def pS2 (b : Int → Int) (A : pSt) : Int := if 0 ≤ pH6 b (pQ1 b A) then (pIf b (pH6 b (pQ1 b A))).1 else pH6 b (pQ1 b A)
def rJF (M K : jM) (a : Int) : Prop := (∀ c, c ≠ 74 → c ≠ 85 → c ≠ 86 → K c = M c) ∧ (∀ k, k ≠ 15 → k ≠ 16 → k ≠ 17 → k ≠ 18 → k ≠ 19 → k ≠ 24 → K 74 k = M 74 k) ∧ (∀ j, j < a → K 85 j = M 85 j) ∧ ∀ j, j < 2000 + 2 * M 74 24 → K 86 j = M 86 j
def rJv (b : Int → Int) (A : pSt) (M K : jM) (a : Int) : Prop := (K 85 a = nV b 1 99 (pQ1 b A) ∧ K 85 (a + 1) = pHf b (pQ1 b A) ∧ K 85 (a + 2) = pHl b (pQ1 b A) ∧ K 85 (a + 3) = -9 ∧ K 85 (a + 4) = ((pIf b (pH6 b (pQ1 b A))).2.length : Int)) ∧ rRw (K 85) a (fun _ => -9) ∧ K 74 24 = M 74 24 + ((pIf b (pH6 b (pQ1 b A))).2.length : Int) ∧
  ((pIf b (pH6 b (pQ1 b A))).2 = [] ∨ (K 85 (a + 13) = M 74 24 ∧ rTks (K 86) (2000 + 2 * M 74 24) (pIf b (pH6 b (pQ1 b A))).2))
def rI2 (b : Int → Int) (A : pSt) (M K : jM) (a : Int) : Prop := rP b K (pS2 b A) ∧ rJF M K a ∧ (0 ≤ pS2 b A → rJv b A M K a)
theorem rRw_h {K : jM} {a : Int} (h : ∀ j, 3 ≤ j → j ≤ 19 → K 85 (a + j) = if j = 4 then 0 else -9) : rRw (K 85) a (fun _ => -9) := fun w w0 w1 => by
  have := h (6 + w) (by omega) (by omega)
  rw [if_neg (by omega)] at this
  rw [show a + 6 + w = a + (6 + w) by omega]
  exact this
theorem rI2_no {b : Int → Int} {A : pSt} {M K : jM} {a : Int} (hp : rP b K (pH6 b (pQ1 b A))) (hw : rHd M K a (nV b 1 99 (pQ1 b A)) (pHf b (pQ1 b A)) (pHl b (pQ1 b A))) (hc : ¬ (0 ≤ pH6 b (pQ1 b A) ∧ lK b (pH6 b (pQ1 b A)) = 1 ∧ lV b (pH6 b (pQ1 b A)) = 2)) : rI2 b A M K a := by
  have e : 0 ≤ pH6 b (pQ1 b A) → pIf b (pH6 b (pQ1 b A)) = (pH6 b (pQ1 b A), []) := fun z => by unfold pIf; rw [if_neg (fun y => hc ⟨z, y⟩)]
  have e2 : pS2 b A = pH6 b (pQ1 b A) := by
    unfold pS2
    split
    · rename_i z; rw [e z]
    · rfl
  obtain ⟨h1, h2, h3, h4, h5⟩ := hw
  refine ⟨by rw [e2]; exact hp, ⟨fun c a1 a2 _ => h1 c a1 a2, fun k a1 a2 a3 a4 a5 _ => h2 k a1 a2 a3 a4 a5, h3, fun j _ => by rw [h1 86 (by decide) (by decide)]⟩, fun z => ?_⟩
  rw [e2] at z
  unfold rJv
  rw [e z]
  refine ⟨⟨h4.1, h4.2.1, h4.2.2, ?_, ?_⟩, rRw_h h5, ?_, Or.inl rfl⟩
  · have := h5 3 (by omega) (by omega)
    rw [if_neg (by omega)] at this
    exact this
  · have := h5 4 (by omega) (by omega)
    rw [if_pos rfl] at this
    exact this
  · rw [h2 24 (by decide) (by decide) (by decide) (by decide) (by decide)]
    show M 74 24 = M 74 24 + ((0 : Nat) : Int)
    omega
theorem rI2_yes {b : Int → Int} {A : pSt} {M K N O : jM} {a i : Int} (h0 : 0 ≤ pH6 b (pQ1 b A)) (hc : lK b (pH6 b (pQ1 b A)) = 1 ∧ lV b (pH6 b (pQ1 b A)) = 2) (hw : rHd M K a (nV b 1 99 (pQ1 b A)) (pHf b (pQ1 b A)) (pHl b (pQ1 b A))) (hd : rdP b i K N (pCd b 901 (lNx b (pH6 b (pQ1 b A))) [] true 0 0)) (hi : a = 320 + 20 * i)
    (hp : rP b O (tkW b 3 (pCd b 901 (lNx b (pH6 b (pQ1 b A))) [] true 0 0).1)) (hf : rF2 N O) : rI2 b A M O a := by
  have e : pIf b (pH6 b (pQ1 b A)) = (tkW b 3 (pCd b 901 (lNx b (pH6 b (pQ1 b A))) [] true 0 0).1, (pCd b 901 (lNx b (pH6 b (pQ1 b A))) [] true 0 0).2) := by unfold pIf; rw [if_pos hc]
  have e2 : pS2 b A = tkW b 3 (pCd b 901 (lNx b (pH6 b (pQ1 b A))) [] true 0 0).1 := by unfold pS2; rw [if_pos h0, e]
  obtain ⟨h1, h2, h3, h4, h5⟩ := hw
  obtain ⟨d1, d2, d3, d4, d5, d6⟩ := hd
  have k24 := h2 24 (by decide) (by decide) (by decide) (by decide) (by decide)
  have o85 := hf.1 85 (by decide)
  have o86 := hf.1 86 (by decide)
  refine ⟨by rw [e2]; exact hp, ⟨fun c a1 a2 a3 => by rw [hf.1 c a1, d3 c a1 a2 a3, h1 c a1 a2], fun k a1 a2 a3 a4 a5 a6 => by rw [hf.2 k a1 a2 a3 a4 a5, d4 k a1 a2 a3 a4 a5 a6, h2 k a1 a2 a3 a4 a5], fun j z => by rw [o85, d6 j (by omega) (by omega), h3 j z], fun j z => by rw [o86, d5 j (by omega), h1 86 (by decide) (by decide)]⟩, fun z => ?_⟩
  rw [e2] at z
  have zr : 0 ≤ (pCd b 901 (lNx b (pH6 b (pQ1 b A))) [] true 0 0).1 := by
    rcases Int.lt_or_le (pCd b 901 (lNx b (pH6 b (pQ1 b A))) [] true 0 0).1 0 with y | y
    · rw [tkW_neg y] at z; omega
    · exact y
  obtain ⟨g1, g2, g3, g4⟩ := d2 zr
  have nn : ∀ j, j ≠ a + 4 → j ≠ a + 13 → O 85 j = K 85 j := fun j z1 z2 => by rw [o85, d6 j (by omega) (by omega)]
  unfold rJv
  rw [e]
  refine ⟨⟨?_, ?_, ?_, ?_, ?_⟩, fun w w0 w1 => ?_, ?_, Or.inr ⟨?_, ?_⟩⟩
  · rw [nn _ (by omega) (by omega)]; exact h4.1
  · rw [nn _ (by omega) (by omega)]; exact h4.2.1
  · rw [nn _ (by omega) (by omega)]; exact h4.2.2
  · rw [nn _ (by omega) (by omega)]
    have := h5 3 (by omega) (by omega)
    rw [if_neg (by omega)] at this
    exact this
  · rw [o85, hi]; exact g2
  · rw [nn _ (by omega) (by omega)]; exact rRw_h h5 w w0 w1
  · rw [hf.2 24 (by decide) (by decide) (by decide) (by decide) (by decide), g4, k24]
  · rw [o85, hi, g3, k24]
  · rw [o86, ← k24]; exact g1
/-! behind the DUTIES -/
theorem pH6_neg {b : Int → Int} {s : Int} (h : s < 0) : pH6 b s = s := by
  have e1 : pH1 b s = s := tkN_neg h
  have e2 : pH2 b s = s := by unfold pH2; rw [e1]; exact tkW_neg h
  have e3 : pH3 b s = s := by unfold pH3; rw [e2]; exact tkN_neg h
  have e4 : pH4 b s = s := by unfold pH4; rw [e3]; exact tkS_neg h
  have e5 : pH5 b s = s := by unfold pH5; rw [e4]; exact tkN_neg h
  unfold pH6; rw [e5]; exact tkS_neg h
theorem pS2_s {b : Int → Int} {A : pSt} {n : Int} (hb : bOk b n) (h0 : 0 ≤ A.1) (hs : A.1 ≤ n) (k : lK b A.1 = 1 ∧ lV b A.1 = 0) (h16 : ¬ A.2.1 = 16) : (pS2 b A < 0 → (pStp b A).1 = pS2 b A) ∧ (0 ≤ pS2 b A → pQ1 b A = lNx b A.1 ∧ (pStp b A).1 = (pDu b 4 (pS2 b A) (fun _ => -9) 0).1 ∧ (0 ≤ (pStp b A).1 → pStp b A = ((pDu b 4 (pS2 b A) (fun _ => -9) 0).1, A.2.1 + 1, fun j => if j = A.2.1 then pNew b (lNx b A.1) else A.2.2 j) ∧ pS2 b A = (pIf b (pH6 b (lNx b A.1))).1 ∧ 0 ≤ pH6 b (lNx b A.1))) := by
  have nx := lNx_lt hb h0 hs (by omega)
  rcases Int.lt_or_le (pFd b A.2.2 A.2.1 (lNx b A.1)) 0 with y | y
  · have q := pQ1_n y
    rcases Int.lt_or_le (pH6 b (lNx b A.1)) 0 with x | x
    · have e : pS2 b A = pH6 b (lNx b A.1) := by unfold pS2; rw [q, if_neg (by omega)]
      rw [pS_h k h16 y x, e]
      exact ⟨fun _ => rfl, fun z => by omega⟩
    · have e : pS2 b A = (pIf b (pH6 b (lNx b A.1))).1 := by unfold pS2; rw [q, if_pos x]
      rcases Int.lt_or_le (pIf b (pH6 b (lNx b A.1))).1 0 with w | w
      · rw [pS_i k h16 y x w, e]
        exact ⟨fun _ => rfl, fun z => by omega⟩
      · refine ⟨fun z => by omega, fun _ => ⟨q, ?_, ?_⟩⟩
        · rw [e]
          rcases Int.lt_or_le (pDq b (lNx b A.1)).1 0 with v | v
          · rw [pS_u k h16 y x w v]
          · rw [pS_ok k h16 y x w v]
        · intro z
          rcases Int.lt_or_le (pDq b (lNx b A.1)).1 0 with v | v
          · rw [pS_u k h16 y x w v] at z
            have z' : 0 ≤ (pDq b (lNx b A.1)).1 := z
            omega
          · rw [e]
            exact ⟨pS_ok k h16 y x w v, rfl, x⟩
  · have q := pQ1_y y
    have f0 := fl_neg (show 0 ≤ lNx b A.1 by omega)
    have e : pS2 b A = fl (lNx b A.1) := by unfold pS2; rw [q, pH6_neg f0, if_neg (by omega)]
    rw [pS_d k h16 y, e]
    exact ⟨fun _ => rfl, fun z => by omega⟩
def rKF (M K : jM) : Prop := (∀ c, c ≠ 74 → c ≠ 85 → c ≠ 86 → K c = M c) ∧ (∀ k, k ≠ 15 → k ≠ 16 → k ≠ 17 → k ≠ 18 → k ≠ 19 → k ≠ 24 → K 74 k = M 74 k) ∧ (∀ j, j < 320 → K 85 j = M 85 j) ∧ ∀ j, j < 2000 → K 86 j = M 86 j
def rI3 (b : Int → Int) (A : pSt) (M K : jM) : Prop := (∃ s, rP b K s ∧ tkS b 59 s = (pStp b A).1) ∧ rKF M K ∧ (0 ≤ (pStp b A).1 → (pStp b A).2.1 = A.2.1 + 1 ∧ (0 ≤ K 74 24 ∧ K 74 24 ≤ (pStp b A).1) ∧ ∀ j, 0 ≤ j → j < (pStp b A).2.1 → rRs K j ((pStp b A).2.2 j))
theorem rKF_J {M K : jM} {a : Int} (h : rJF M K a) (ha : 320 ≤ a) (h24 : 0 ≤ M 74 24) : rKF M K := ⟨h.1, h.2.1, fun j z => h.2.2.1 j (by omega), fun j z => h.2.2.2 j (by omega)⟩
theorem rI3_no {b : Int → Int} {A : pSt} {M K : jM} {a n : Int} (hb : bOk b n) (h0 : 0 ≤ A.1) (hs : A.1 ≤ n) (k : lK b A.1 = 1 ∧ lV b A.1 = 0) (h16 : ¬ A.2.1 = 16) (h : rI2 b A M K a) (hn : pS2 b A < 0) (ha : 320 ≤ a) (h24 : 0 ≤ M 74 24) : rI3 b A M K := by
  have e := (pS2_s hb h0 hs k h16).1 hn
  exact ⟨⟨_, h.1, by rw [tkS_neg hn, e]⟩, rKF_J h.2.1 ha h24, fun z => by omega⟩
theorem rI3_yes {b : Int → Int} {A : pSt} {M K N : jM} {a n : Int} (hb : bOk b n) (h0 : 0 ≤ A.1) (hs : A.1 ≤ n) (k : lK b A.1 = 1 ∧ lV b A.1 = 0) (h16 : 0 ≤ A.2.1 ∧ A.2.1 < 16) (hR : rAr M A) (h : rI2 b A M K a) (hp : 0 ≤ pS2 b A) (ha : a = 320 + 20 * A.2.1) (hu : ruP b a K N (pDu b 4 (pS2 b A) (fun _ => -9) 0)) : rI3 b A M N := by
  obtain ⟨eq, es, ez⟩ := (pS2_s hb h0 hs k (by omega)).2 hp
  obtain ⟨_, hF, hv⟩ := h
  obtain ⟨⟨v0, v1, v2, v3, v4⟩, v5, v6, v7⟩ := hv hp
  obtain ⟨u1, u2, u3, u4, u5⟩ := hu
  have c24 := hR.2.1
  have n86 : N 86 = K 86 := u3 86 (by decide) (by decide)
  have n24 : N 74 24 = K 74 24 := u4 24 (by decide) (by decide) (by decide) (by decide) (by decide)
  refine ⟨by rw [es]; exact u1, ⟨fun c a1 a2 a3 => (u3 c a1 a2).trans (hF.1 c a1 a2 a3), fun i a1 a2 a3 a4 a5 a6 => (u4 i a1 a2 a3 a4 a5).trans (hF.2.1 i a1 a2 a3 a4 a5 a6), fun j z => by rw [u5 j (Or.inl (by omega)), hF.2.2.1 j (by omega)], fun j z => by rw [n86, hF.2.2.2 j (by omega)]⟩, fun z => ?_⟩
  obtain ⟨e1, e2, e3⟩ := ez z
  obtain ⟨w1, w2⟩ := u2 (by rw [← es]; exact z)
  have nx := lNx_lt hb h0 hs (by omega)
  have ph := pH6_in hb (show 0 ≤ lNx b A.1 by omega) nx.2
  rw [eq] at v0 v1 v2 v4 v6 v7
  have pi := pIf_in hb e3 (by omega)
  have pd := pDu_in hb 4 (pS2 b A) (fun _ => -9) 0 hp (by omega) tOk_0
  have l24 : ((pIf b (pH6 b (lNx b A.1))).2.length : Int) + pH6 b (lNx b A.1) ≤ (pIf b (pH6 b (lNx b A.1))).1 := by
    rcases pi with q | q
    · omega
    · exact q.2.2
  have dlt : pS2 b A < (pDu b 4 (pS2 b A) (fun _ => -9) 0).1 := by
    rcases pd with q | q
    · omega
    · exact q.1.1
  rw [e1]
  refine ⟨rfl, ⟨by omega, ?_⟩, fun j j0 j1 => ?_⟩
  · show N 74 24 ≤ (pDu b 4 (pS2 b A) (fun _ => -9) 0).1
    omega
  · have j1' : j < A.2.1 + 1 := j1
    show rRs N j (if j = A.2.1 then pNew b (lNx b A.1) else A.2.2 j)
    by_cases e : j = A.2.1
    · rw [if_pos e]
      have ea : 320 + 20 * j = a := by omega
      unfold rRs
      rw [ea]
      refine ⟨⟨?_, ?_, ?_, ?_, ?_, ?_⟩, ?_, ?_⟩
      · rw [u5 _ (by omega)]; exact v0
      · rw [u5 _ (by omega)]; exact v1
      · rw [u5 _ (by omega)]; exact v2
      · rw [u5 _ (by omega)]; exact v3
      · rw [u5 _ (by omega)]; exact v4
      · rw [w2, e2]; rfl
      · have g := w1
        rw [e2] at g
        exact g
      · rw [u5 _ (by omega), n86, n24]
        rcases v7 with q | ⟨q1, q2⟩
        · exact Or.inl q
        · refine Or.inr ⟨by omega, ?_, by rw [q1]; exact q2⟩
          show K 85 (a + 13) + ((pIf b (pH6 b (lNx b A.1))).2.length : Int) ≤ K 74 24
          omega
    · rw [if_neg e]
      exact rRs_cg (hR.2.2 j j0 (by omega)) ⟨j0, by omega⟩ (a := a) (fun i z => by rw [u5 i (Or.inl (by omega)), hF.2.2.1 i z]) rfl (fun i z => by rw [n86, hF.2.2.2 i z]) (by omega)
/-! what a step leaves -/
def rsF (M N : jM) : Prop := (∀ c, c ≠ 74 → c ≠ 85 → c ≠ 86 → N c = M c) ∧ (∀ k, k ≠ 15 → k ≠ 16 → k ≠ 17 → k ≠ 18 → k ≠ 19 → k ≠ 21 → k ≠ 24 → N 74 k = M 74 k) ∧ (∀ j, j < 320 → N 85 j = M 85 j) ∧ ∀ j, j < 2000 → N 86 j = M 86 j
theorem rsF_tr {M N O : jM} (h : rsF M N) (h' : rsF N O) : rsF M O := ⟨fun c a1 a2 a3 => (h'.1 c a1 a2 a3).trans (h.1 c a1 a2 a3), fun k a1 a2 a3 a4 a5 a6 a7 => (h'.2.1 k a1 a2 a3 a4 a5 a6 a7).trans (h.2.1 k a1 a2 a3 a4 a5 a6 a7), fun j z => (h'.2.2.1 j z).trans (h.2.2.1 j z), fun j z => (h'.2.2.2 j z).trans (h.2.2.2 j z)⟩
theorem rsF_2 {M N : jM} (h : rF2 M N) : rsF M N := ⟨fun c a _ _ => h.1 c a, fun k a1 a2 a3 a4 a5 _ _ => h.2 k a1 a2 a3 a4 a5, fun j _ => by rw [h.1 85 (by decide)], fun j _ => by rw [h.1 86 (by decide)]⟩
theorem rsF_K {M N : jM} (h : rKF M N) : rsF M N := ⟨h.1, fun k a1 a2 a3 a4 a5 _ a7 => h.2.1 k a1 a2 a3 a4 a5 a7, h.2.2.1, h.2.2.2⟩
def rsP (b : Int → Int) (A : pSt) (M N : jM) : Prop := rP b N (pStp b A).1 ∧ (0 ≤ (pStp b A).1 → rAr N (pStp b A)) ∧ rsF M N
theorem rsP_16 {b : Int → Int} {A : pSt} {M N : jM} (h0 : 0 ≤ A.1) (k : lK b A.1 = 1 ∧ lV b A.1 = 0) (h : A.2.1 = 16) (hp : rP b N (fl A.1)) (hf : rF2 M N) : rsP b A M N := by
  unfold rsP
  rw [pS_16 k h]
  exact ⟨hp, fun z => by have := fl_neg h0; have z' : 0 ≤ fl A.1 := z; omega, rsF_2 hf⟩
theorem rsP_x {b : Int → Int} {A : pSt} {M N : jM} (h0 : 0 ≤ A.1) (k : ¬ (lK b A.1 = 1 ∧ lV b A.1 = 0)) (k2 : ¬ (lK b A.1 = 1 ∧ lV b A.1 = 4)) (hp : rP b N (fl A.1)) (hf : rF2 M N) : rsP b A M N := by
  unfold rsP
  rw [pS_x k k2]
  exact ⟨hp, fun z => by have := fl_neg h0; have z' : 0 ≤ fl A.1 := z; omega, rsF_2 hf⟩
theorem rsP_of {b : Int → Int} {A : pSt} {M K N O : jM} {t r x : Int} (hx : x = A.2.1) (h : rI3 b A M K) (hp : rP b N (pStp b A).1) (hf : rF2 K N) (hr : (r = 1 ∧ N 74 19 < 0) ∨ (r = 0 ∧ ¬ N 74 19 < 0)) (ht : (r = 0 ∧ t = 0) ∨ (¬ r = 0 ∧ t = 1)) (hO : O = jup N 74 21 (x + t)) : rsP b A M O := by
  have w := rP_19 hp
  have ek : ∀ k, k ≠ 21 → O 74 k = N 74 k := fun k z => by rw [hO, jup_ne (by omega)]
  have ec : ∀ c, c ≠ 74 → O c = N c := fun c z => by rw [hO, jup_cell z]
  obtain ⟨_, hK, hv⟩ := h
  have hKN : rsF M N := rsF_tr (rsF_K hK) (rsF_2 hf)
  refine ⟨rP_cg hp (ec 84 (by decide)) (fun k hk => ek k (by omega)), fun z => ?_, ⟨fun c a1 a2 a3 => by rw [ec c a1]; exact hKN.1 c a1 a2 a3, fun k a1 a2 a3 a4 a5 a6 a7 => by rw [ek k a6]; exact hKN.2.1 k a1 a2 a3 a4 a5 a6 a7, fun j z => by rw [ec 85 (by decide)]; exact hKN.2.2.1 j z, fun j z => by rw [ec 86 (by decide)]; exact hKN.2.2.2 j z⟩⟩
  obtain ⟨v1, v2, v3⟩ := hv z
  have e24 : O 74 24 = K 74 24 := by rw [ek 24 (by decide), hf.2 24 (by decide) (by decide) (by decide) (by decide) (by decide)]
  have et : t = 1 := by
    have := w.2 z
    omega
  refine ⟨by rw [hO, jup_self, v1, hx, et], by rw [e24]; exact v2, fun j j0 j1 => ?_⟩
  have g := v3 j j0 j1
  exact rRs_cg g (a := 320 + 20 * j + 20) ⟨j0, Int.le_refl _⟩ (fun i _ => by rw [ec 85 (by decide), hf.1 85 (by decide)]) rfl (fun i _ => by rw [ec 86 (by decide), hf.1 86 (by decide)]) (by omega)
theorem pQ_h {b : Int → Int} {A : pSt} {n : Int} (hb : bOk b n) (h0 : 0 ≤ A.1) (hs : A.1 ≤ n) (k : lK b A.1 = 1 ∧ lV b A.1 = 0) (h : 0 ≤ pH6 b (pQ1 b A)) : A.1 < pH6 b (pQ1 b A) ∧ pH6 b (pQ1 b A) ≤ n := by
  have nx := lNx_lt hb h0 hs (by omega)
  rcases Int.lt_or_le (pFd b A.2.2 A.2.1 (lNx b A.1)) 0 with y | y
  · rw [pQ1_n y] at h ⊢
    rcases pH6_in hb (show 0 ≤ lNx b A.1 by omega) nx.2 with z | z
    · omega
    · omega
  · have f0 := fl_neg (show 0 ≤ lNx b A.1 by omega)
    rw [pQ1_y y, pH6_neg f0] at h
    omega
