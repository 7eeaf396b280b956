/-! ===== a strike, on the reference's side; its act() ===== -/
theorem pK4_neg {b : Int → Int} {s : Int} (h : pK3 b s < 0) : pK4 b s < 0 := by unfold pK4; rw [tkS_neg h]; exact h
theorem rsP_sd {b : Int → Int} {A : pSt} {M N : jM} {n : Int} (hb : bOk b n) (h0 : 0 ≤ A.1) (hs : A.1 ≤ n) (k : lK b A.1 = 1 ∧ lV b A.1 = 4) (h : pFd b A.2.2 A.2.1 (lNx b A.1) < 0) (hp : rP b N (fl (lNx b A.1))) (hf : rF2 M N) : rsP b A M N := by
  have nx := lNx_lt hb h0 hs (by omega)
  unfold rsP
  rw [pS_sd k h]
  exact ⟨hp, fun z => by have := fl_neg (show 0 ≤ lNx b A.1 by omega); have z' : 0 ≤ fl (lNx b A.1) := z; omega, rsF_2 hf⟩
theorem rsP_sn {b : Int → Int} {A : pSt} {M N : jM} (k : lK b A.1 = 1 ∧ lV b A.1 = 4) (h : 0 ≤ pFd b A.2.2 A.2.1 (lNx b A.1)) (h3 : pK4 b (lNx b A.1) < 0) (hp : rP b N (pK4 b (lNx b A.1))) (hf : rF2 M N) : rsP b A M N := by
  unfold rsP
  rw [pS_sn k h h3]
  exact ⟨hp, fun z => by have z' : 0 ≤ pK4 b (lNx b A.1) := z; omega, rsF_2 hf⟩
theorem rsP_so {b : Int → Int} {A : pSt} {M N O : jM} {n i d : Int} (hb : bOk b n) (h0 : 0 ≤ A.1) (hs : A.1 ≤ n) (k : lK b A.1 = 1 ∧ lV b A.1 = 4) (hR : rAr M A) (h : pFd b A.2.2 A.2.1 (lNx b A.1) = i ∧ i < A.2.1) (hi : 0 ≤ i) (h3 : 0 ≤ pK4 b (lNx b A.1)) (hp : rP b N (pK4 b (lNx b A.1))) (hf : rF2 M N) (hd : d = pKd b (lNx b A.1))
    (hO : ((M 85 (320 + 20 * i + 3) = -9 ∨ d < M 85 (320 + 20 * i + 3)) ∧ O = jup N 85 (320 + 20 * i + 3) d) ∨ (¬ (M 85 (320 + 20 * i + 3) = -9 ∨ d < M 85 (320 + 20 * i + 3)) ∧ O = N)) : rsP b A M O := by
  have nx := lNx_lt hb h0 hs (by omega)
  have kk : A.1 < pK4 b (lNx b A.1) := by
    rcases pK4_in hb (show 0 ≤ lNx b A.1 by omega) nx.2 with z | z <;> omega
  have ec : ∀ c, c ≠ 85 → O c = N c := fun c z => by
    rcases hO with ⟨_, q⟩ | ⟨_, q⟩
    · rw [q, jup_cell z]
    · rw [q]
  have e85 : ∀ j, j ≠ 320 + 20 * i + 3 → O 85 j = M 85 j := fun j z => by
    rw [← hf.1 85 (by decide)]
    rcases hO with ⟨_, q⟩ | ⟨_, q⟩
    · rw [q, jup_ne (by omega)]
    · rw [q]
  have e3 : O 85 (320 + 20 * i + 3) = if M 85 (320 + 20 * i + 3) = -9 ∨ d < M 85 (320 + 20 * i + 3) then d else M 85 (320 + 20 * i + 3) := by
    rcases hO with ⟨c, q⟩ | ⟨c, q⟩
    · rw [q, jup_self, if_pos c]
    · rw [q, if_neg c, hf.1 85 (by decide)]
  have o24 : O 74 24 = M 74 24 := by rw [ec 74 (by decide), hf.2 24 (by decide) (by decide) (by decide) (by decide) (by decide)]
  have o86 : O 86 = M 86 := by rw [ec 86 (by decide), hf.1 86 (by decide)]
  have c24 := hR.2.1
  unfold rsP
  rw [pS_so k (by omega) h3]
  refine ⟨rP_cg hp (ec 84 (by decide)) (fun q _ => by rw [ec 74 (by decide)]), fun _ => ⟨?_, ⟨by omega, ?_⟩, fun j j0 j1 => ?_⟩, ⟨fun c a1 a2 a3 => by rw [ec c a2, hf.1 c a1], fun q a1 a2 a3 a4 a5 a6 a7 => by rw [ec 74 (by decide), hf.2 q a1 a2 a3 a4 a5], fun j z => e85 j (by omega), fun j z => by rw [o86]⟩⟩
  · rw [ec 74 (by decide), hf.2 21 (by decide) (by decide) (by decide) (by decide) (by decide)]; exact hR.1
  · show O 74 24 ≤ pK4 b (lNx b A.1); omega
  · have g := hR.2.2 j j0 j1
    show rRs O j (if j = pFd b A.2.2 A.2.1 (lNx b A.1) then pStk (A.2.2 j) (pKd b (lNx b A.1)) else A.2.2 j)
    by_cases e : j = pFd b A.2.2 A.2.1 (lNx b A.1)
    · rw [if_pos e]
      have ej : j = i := by omega
      subst ej
      obtain ⟨⟨a1, a2, a3, a4, a5, a6⟩, a7, a8⟩ := g
      refine ⟨⟨?_, ?_, ?_, ?_, ?_, ?_⟩, fun w w0 w1 => ?_, ?_⟩
      · rw [e85 _ (by omega)]; exact a1
      · rw [e85 _ (by omega)]; exact a2
      · rw [e85 _ (by omega)]; exact a3
      · rw [e3, a4, hd]; rfl
      · rw [e85 _ (by omega)]; exact a5
      · rw [e85 _ (by omega)]; exact a6
      · rw [e85 _ (by omega)]; exact a7 w w0 w1
      · rw [e85 _ (by omega), o86, o24]; exact a8
    · rw [if_neg e]
      obtain ⟨⟨a1, a2, a3, a4, a5, a6⟩, a7, a8⟩ := g
      have ej : ¬ j = i := by omega
      refine ⟨⟨?_, ?_, ?_, ?_, ?_, ?_⟩, fun w w0 w1 => ?_, ?_⟩
      · rw [e85 _ (by omega)]; exact a1
      · rw [e85 _ (by omega)]; exact a2
      · rw [e85 _ (by omega)]; exact a3
      · rw [e85 _ (by omega)]; exact a4
      · rw [e85 _ (by omega)]; exact a5
      · rw [e85 _ (by omega)]; exact a6
      · rw [e85 _ (by omega)]; exact a7 w w0 w1
      · rw [e85 _ (by omega), o86, o24]; exact a8
/-! the loop of act() -/
def raI (b : Int → Int) (M N : jM) (Z : pSt) : Prop := ∃ A, pAt b (M 74 14) A Z ∧ rP b N A.1 ∧ (0 ≤ A.1 → rAr N A) ∧ (∀ k, k ≠ 0 → k ≠ 15 → k ≠ 16 → k ≠ 17 → k ≠ 18 → k ≠ 19 → k ≠ 21 → k ≠ 24 → N 74 k = M 74 k) ∧ (∀ c, c ≠ 74 → c ≠ 85 → c ≠ 86 → N c = M c) ∧ (∀ j, j < 320 → N 85 j = M 85 j) ∧ ∀ j, j < 2000 → N 86 j = M 86 j
def raM (N : jM) : Int := if N 74 19 < 0 then 902 - N 74 17 else 0
theorem raM_y {b : Int → Int} {N : jM} {s : Int} (h : rP b N s) (h0 : 0 ≤ s) : raM N = 902 - s := by
  have w := rP_well h h0
  unfold raM; rw [if_pos (by omega)]; omega
theorem raM_n {b : Int → Int} {N : jM} {s : Int} (h : rP b N s) (h0 : s < 0) : raM N = 0 := by
  have w := rP_19 h
  unfold raM; rw [if_neg (by omega)]
theorem raI_s {b : Int → Int} {M N O : jM} {A Z : pSt} (hb : bOk b (M 74 14)) (hA : pAt b (M 74 14) A Z) (h0 : 0 ≤ A.1) (hk : ¬ lK b A.1 = 0) (hp : rP b N A.1)
    (h4 : ∀ k, k ≠ 0 → k ≠ 15 → k ≠ 16 → k ≠ 17 → k ≠ 18 → k ≠ 19 → k ≠ 21 → k ≠ 24 → N 74 k = M 74 k) (hc : ∀ c, c ≠ 74 → c ≠ 85 → c ≠ 86 → N c = M c) (h5 : ∀ j, j < 320 → N 85 j = M 85 j) (h6 : ∀ j, j < 2000 → N 86 j = M 86 j) (h : rsP b A N O) : raI b M O Z ∧ (raM O).toNat < (raM N).toNat := by
  have s := pAt_s hb hA h0 hk
  have hs : A.1 ≤ M 74 14 := by
    rcases hA.2 with z | z
    · omega
    · exact z.1
  have hn := hb.1
  refine ⟨⟨_, s.1, h.1, h.2.1, fun k a0 a1 a2 a3 a4 a5 a6 a7 => (h.2.2.2.1 k a1 a2 a3 a4 a5 a6 a7).trans (h4 k a0 a1 a2 a3 a4 a5 a6 a7), fun c a1 a2 a3 => (h.2.2.1 c a1 a2 a3).trans (hc c a1 a2 a3), fun j z => (h.2.2.2.2.1 j z).trans (h5 j z), fun j z => (h.2.2.2.2.2 j z).trans (h6 j z)⟩, ?_⟩
  rw [raM_y hp h0]
  rcases Int.lt_or_le (pStp b A).1 0 with z | z
  · rw [raM_n h.1 z]; omega
  · rw [raM_y h.1 z]
    have := s.2
    omega
theorem raI_0 {b : Int → Int} {M M' N : jM} (hb : bOk b (M 74 14)) (hx : rTx M = b) (hM : M' = jup (jup (jup (jup (jup M 74 0 0) 74 19 (-1)) 74 15 0) 74 21 0) 74 24 0) (ha : adP b M' N) : raI b M N (pTxt b) := by
  have ek : ∀ k, k ≠ 0 → k ≠ 15 → k ≠ 19 → k ≠ 21 → k ≠ 24 → M' 74 k = M 74 k := fun k a1 a2 a3 a4 a5 => by rw [hM, jup_ne (by omega), jup_ne (by omega), jup_ne (by omega), jup_ne (by omega), jup_ne (by omega)]
  have ec : ∀ c, c ≠ 74 → M' c = M c := fun c a => by rw [hM, jup_cell a, jup_cell a, jup_cell a, jup_cell a, jup_cell a]
  have e15 : M' 74 15 = 0 := by rw [hM, jup_ne (by decide), jup_ne (by decide), jup_self]
  have e19 : M' 74 19 = -1 := by rw [hM, jup_ne (by decide), jup_ne (by decide), jup_ne (by decide), jup_self]
  have e21 : M' 74 21 = 0 := by rw [hM, jup_ne (by decide), jup_self]
  have e24 : M' 74 24 = 0 := by rw [hM, jup_self]
  obtain ⟨⟨s1, s2, s3⟩, s4, s5⟩ := ha
  rw [e15] at s1 s2
  have n14 : N 74 14 = M 74 14 := by rw [s5.2 14 (by decide) (by decide) (by decide) (by decide), ek 14 (by decide) (by decide) (by decide) (by decide) (by decide)]
  have s3' : N 74 17 ≤ N 74 14 := by rw [s5.2 14 (by decide) (by decide) (by decide) (by decide)]; exact s3
  refine ⟨_, pAt_0 hb, ⟨?_, Or.inl ⟨by show 0 ≤ lSk b 0; omega, by show lSk b 0 ≤ _; omega, by rw [s5.2 19 (by decide) (by decide) (by decide) (by decide)]; exact e19, s1, s4⟩⟩, fun _ => ⟨?_, ⟨?_, ?_⟩, fun j j0 j1 => by have j1' : j < 0 := j1; omega⟩, fun k a0 a1 a2 a3 a4 a5 a6 a7 => by rw [s5.2 k a1 a2 a3 a4, ek k a0 a1 a5 a6 a7], fun c a1 a2 a3 => by rw [s5.1 c a1, ec c a1], fun j z => by rw [s5.1 85 (by decide), ec 85 (by decide)], fun j z => by rw [s5.1 86 (by decide), ec 86 (by decide)]⟩
  · rw [← hx]; exact rTx_cg n14 (by rw [s5.1 84 (by decide), ec 84 (by decide)])
  · rw [s5.2 21 (by decide) (by decide) (by decide) (by decide)]; exact e21
  · rw [s5.2 24 (by decide) (by decide) (by decide) (by decide), e24]; exact Int.le_refl _
  · rw [s5.2 24 (by decide) (by decide) (by decide) (by decide), e24]; show 0 ≤ lSk b 0; omega
/-! the ACT in force -/
def rIr (M : jM) (j : Int) (x : pRw) : Prop := (M 85 (20 * j) = x.1 ∧ M 85 (20 * j + 1) = x.2.1 ∧ M 85 (20 * j + 2) = x.2.2.1 ∧ M 85 (20 * j + 3) = x.2.2.2.1 ∧ M 85 (20 * j + 4) = (x.2.2.2.2.2.2.length : Int) ∧ M 85 (20 * j + 5) = (x.2.2.2.2.2.1 : Int)) ∧
  rRw (M 85) (20 * j) x.2.2.2.2.1 ∧ (x.2.2.2.2.2.2 = [] ∨ (0 ≤ M 85 (20 * j + 13) ∧ M 85 (20 * j + 13) + (x.2.2.2.2.2.2.length : Int) ≤ 900 ∧ rTks (M 86) (2 * M 85 (20 * j + 13)) x.2.2.2.2.2.2))
def rIn (M : jM) (Z : pSt) : Prop := M 74 20 = Z.2.1 ∧ ∀ j, 0 ≤ j → j < Z.2.1 → rIr M j (Z.2.2 j)
theorem rTks_mv {g g' : Int → Int} {a a' : Int} : ∀ (r : List (Int × Int)), rTks g a r → (∀ j : Int, 0 ≤ j → j < 2 * (r.length : Int) → g' (a' + j) = g (a + j)) → rTks g' a' r
  | [], _, _ => trivial
  | t :: r, h, hg => by
    simp only [List.length_cons] at hg
    refine ⟨⟨?_, fun z => ?_⟩, rTks_mv r h.2 (fun j x y => hg j x (by omega))⟩
    · rw [hg _ (by omega) (by omega)]; exact h.1.1
    · rw [Int.add_assoc, hg _ (by omega) (by omega), ← Int.add_assoc]; exact h.1.2 z
theorem rIr_of {M N : jM} {j : Int} {x : pRw} (h : rRs M j x) (hj : 0 ≤ j ∧ j < 16) (hm : M 74 24 ≤ 900) (h85 : ∀ i, 0 ≤ i → i < 320 → N 85 i = M 85 (320 + i)) (h86 : ∀ i, 0 ≤ i → i < 2000 → N 86 i = M 86 (2000 + i)) : rIr N j x := by
  obtain ⟨h1, h2, h3⟩ := h
  have e : ∀ k, 0 ≤ k → k < 20 → N 85 (20 * j + k) = M 85 (320 + 20 * j + k) := fun k k0 k1 => by rw [h85 _ (by omega) (by omega)]; congr 1; omega
  have e0 := e 0 (by omega) (by omega)
  rw [Int.add_zero, Int.add_zero] at e0
  refine ⟨?_, fun w w0 w1 => ?_, ?_⟩
  · rw [e0, e 1 (by omega) (by omega), e 2 (by omega) (by omega), e 3 (by omega) (by omega), e 4 (by omega) (by omega), e 5 (by omega) (by omega)]; exact h1
  · have := e (6 + w) (by omega) (by omega)
    rw [show 20 * j + 6 + w = 20 * j + (6 + w) by omega, this, show 320 + 20 * j + (6 + w) = 320 + 20 * j + 6 + w by omega]
    exact h2 w w0 w1
  · rw [e 13 (by omega) (by omega)]
    rcases h3 with z | ⟨z1, z2, z3⟩
    · exact Or.inl z
    · refine Or.inr ⟨z1, by omega, rTks_mv _ z3 (fun i i0 i1 => ?_)⟩
      rw [h86 _ (by omega) (by omega)]
      congr 1
      omega
def raP (b : Int → Int) (M N : jM) (r : Int) : Prop :=
  (((pTxt b).1 < 0 ∧ r = -9 + (pTxt b).1 ∧ N 74 14 = M 74 14 ∧ N 74 20 = M 74 20 ∧ (∀ j, j < 320 → N 85 j = M 85 j) ∧ ∀ j, j < 2000 → N 86 j = M 86 j) ∨ (0 ≤ (pTxt b).1 ∧ r = (pTxt b).2.1 ∧ rIn N (pTxt b) ∧ N 74 14 = 0)) ∧
  (∀ c, c ≠ 74 → c ≠ 85 → c ≠ 86 → N c = M c) ∧ ∀ k, k ≠ 0 → (k < 14 ∨ 24 < k ∨ k = 22 ∨ k = 23) → N 74 k = M 74 k
theorem pFd_k {b : Int → Int} {R : Int → pRw} {n q : Int} (h : ¬ lK b q = 2) : pFd b R n q < 0 := by unfold pFd; rw [if_neg h]; omega
theorem rQ_n2 {b : Int → Int} {M : jM} {A : pSt} {r x n q : Int} (hR : rAr M A) (h0 : 0 ≤ A.2.1) (hn : n = A.2.1) (hx : x = lV b q) (h : (r = -1 ∧ ∀ j, 0 ≤ j → j < n → ¬ M 85 (320 + 20 * j) = x) ∨ ((0 ≤ r ∧ r < n) ∧ M 85 (320 + 20 * r) = x ∧ ∀ j, 0 ≤ j → j < r → ¬ M 85 (320 + 20 * j) = x)) (hr : r < 0) : pFd b A.2.2 A.2.1 q < 0 := by
  rcases h with ⟨_, h⟩ | ⟨h, _⟩
  · rcases pFd_sp b A.2.2 q h0 with z | ⟨z, _, e, _⟩
    · omega
    · exact absurd (by rw [(hR.2.2 _ z.1 z.2).1.1, hx]; exact e) (h _ z.1 (by omega))
  · omega
theorem raP_no {b : Int → Int} {M N : jM} {A : pSt} (eZ : pTxt b = A) (hA : A.1 < 0) (hp : rP b N A.1) (h4 : ∀ k, k ≠ 0 → k ≠ 15 → k ≠ 16 → k ≠ 17 → k ≠ 18 → k ≠ 19 → k ≠ 21 → k ≠ 24 → N 74 k = M 74 k) (hc : ∀ c, c ≠ 74 → c ≠ 85 → c ≠ 86 → N c = M c) (h5 : ∀ j, j < 320 → N 85 j = M 85 j) (h6 : ∀ j, j < 2000 → N 86 j = M 86 j) : raP b M N (-10 - N 74 19) := by
  unfold raP
  rw [eZ, rP_ill hp hA]
  exact ⟨Or.inl ⟨hA, by omega, h4 14 (by decide) (by decide) (by decide) (by decide) (by decide) (by decide) (by decide) (by decide), h4 20 (by decide) (by decide) (by decide) (by decide) (by decide) (by decide) (by decide) (by decide), h5, h6⟩, hc, fun k k0 k1 => h4 k k0 (by omega) (by omega) (by omega) (by omega) (by omega) (by omega) (by omega)⟩
theorem raP_ok {b : Int → Int} {M N O P Q : jM} {A : pSt} {n : Int} (eZ : pTxt b = A) (hA : 0 ≤ A.1) (hn : A.1 ≤ n ∧ n ≤ 900) (h16 : A.2.1 ≤ 16) (hR : rAr N A) (h4 : ∀ k, k ≠ 0 → k ≠ 15 → k ≠ 16 → k ≠ 17 → k ≠ 18 → k ≠ 19 → k ≠ 21 → k ≠ 24 → N 74 k = M 74 k) (hc : ∀ c, c ≠ 74 → c ≠ 85 → c ≠ 86 → N c = M c)
    (hl1 : ∀ c, c ≠ 85 → O c = N c) (hl2 : ∀ j, O 85 j = if 0 ≤ j ∧ j < 320 then N 85 (320 + j) else N 85 j) (hk1 : ∀ c, c ≠ 86 → P c = O c) (hk2 : ∀ j, P 86 j = if 0 ≤ j ∧ j < 2000 then O 86 (2000 + j) else O 86 j) (hQ : Q = jup (jup P 74 20 (N 74 21)) 74 14 0) : raP b M Q (N 74 21) := by
  have p74 : P 74 = N 74 := by rw [hk1 74 (by decide), hl1 74 (by decide)]
  have ec : ∀ c, c ≠ 74 → Q c = P c := fun c z => by rw [hQ, jup_cell z, jup_cell z]
  have ek : ∀ k, k ≠ 14 → k ≠ 20 → Q 74 k = N 74 k := fun k z1 z2 => by rw [hQ, jup_ne (by omega), jup_ne (by omega), p74]
  have c24 := hR.2.1
  unfold raP
  rw [eZ]
  refine ⟨Or.inr ⟨hA, hR.1, ⟨?_, fun j j0 j1 => ?_⟩, ?_⟩, fun c a1 a2 a3 => by rw [ec c a1, hk1 c a3, hl1 c a2, hc c a1 a2 a3], fun k k0 k1 => by rw [ek k (by omega) (by omega)]; exact h4 k k0 (by omega) (by omega) (by omega) (by omega) (by omega) (by omega) (by omega)⟩
  · rw [hQ, jup_ne (by decide), jup_self]; exact hR.1
  · exact rIr_of (hR.2.2 j j0 j1) ⟨j0, by omega⟩ (by omega) (fun i i0 i1 => by rw [ec 85 (by decide), hk1 85 (by decide), hl2, if_pos ⟨i0, i1⟩]) (fun i i0 i1 => by rw [ec 86 (by decide), hk2, if_pos ⟨i0, i1⟩, hl1 86 (by decide)])
  · rw [hQ, jup_self]
