/-! ===== the class's rows of an ACT that is read ===== -/
def cTw (M : jM) (f j : Int) (t : Int → Int) : Prop := ∀ w, 0 ≤ w → w ≤ 6 → (t w = -9 ∧ M (f + 6) (j * 7 + w) = -1) ∨ (¬ t w = -9 ∧ M (f + 6) (j * 7 + w) = t w)
def cRw (M : jM) (f j : Int) (x : pRw) : Prop := (M (f + 1) j = x.1 ∧ M (f + 2) j = x.2.1 ∧ M (f + 3) j = x.2.2.1 ∧ M (f + 4) j = x.2.2.2.1 ∧ M (f + 5) j = (x.2.2.2.2.2.1 : Int)) ∧ cTw M f j x.2.2.2.2.1 ∧
  (0 ≤ M (f + 7) j ∧ M (f + 7) j ≤ M (f + 8) j ∧ M (f + 8) j ≤ M f 9) ∧ sPre (M (f + 9)) (M (f + 7) j) (M (f + 8) j - M (f + 7) j).toNat = cOut x.2.2.2.2.2.2.reverse
def cAr (f : Int) (M : jM) (A : pSt) : Prop := M f 0 = A.2.1 ∧ (0 ≤ M f 9 ∧ M f 9 ≤ A.1) ∧ ∀ j, 0 ≤ j → j < A.2.1 → cRw M f j (A.2.2 j)
def ciF (f : Int) (M N : jM) : Prop := (∀ c, c ≠ 71 → c ≠ 73 → (c < f ∨ f + 9 < c) → N c = M c) ∧ (∀ k, k ≠ 2 → k ≠ 3 → k ≠ 4 → k ≠ 5 → k ≠ 6 → k ≠ 7 → k ≠ 9 → N 71 k = M 71 k) ∧ ∀ k, k ≠ 0 → k ≠ 9 → N f k = M f k
theorem ciF_tr {f : Int} {M N O : jM} (h : ciF f M N) (h' : ciF f N O) : ciF f M O := ⟨fun c a1 a2 a3 => (h'.1 c a1 a2 a3).trans (h.1 c a1 a2 a3), fun k a1 a2 a3 a4 a5 a6 a7 => (h'.2.1 k a1 a2 a3 a4 a5 a6 a7).trans (h.2.1 k a1 a2 a3 a4 a5 a6 a7), fun k a1 a2 => (h'.2.2 k a1 a2).trans (h.2.2 k a1 a2)⟩
theorem ciF_fr {f : Int} {M N : jM} (hf : f = 47 ∨ f = 59) (h : cFr M N) : ciF f M N := ⟨fun c a1 _ _ => h.1 c a1, fun k a1 a2 a3 a4 _ _ _ => h.2 k a1 a2 a3 a4, fun k _ _ => by rw [h.1 f (by omega)]⟩
theorem ciF_add {f n a l : Int} {M N : jM} (hf : f = 47 ∨ f = 59) (h : addP f M N n a l) : ciF f M N := by
  obtain ⟨h1, _, _, _, _, _, _, _, _, _, h2⟩ := h
  exact ⟨fun c a1 a2 a3 => h1 c (by omega) (by omega) (by omega) (by omega) (by omega) (by omega) (by omega) (by omega) (by omega), fun k _ _ _ _ _ _ _ => by rw [h1 71 (by omega) (by omega) (by omega) (by omega) (by omega) (by omega) (by omega) (by omega) (by omega)], fun k a1 _ => h2 k a1⟩
theorem ciF_cc {f S0 : Int} {M N : jM} (hf : f = 47 ∨ f = 59) (h : cCF f S0 M N) : ciF f M N := ⟨fun c a1 a2 a3 => h.1 c a1 a2 (by omega) (by omega) (by omega), fun k a1 a2 a3 a4 a5 a6 a7 => h.2.2.1 k a1 a2 a3 a4 a6 a7, fun k _ a => h.2.1 k a⟩
theorem ciF_d {f : Int} {M N : jM} (hf : f = 47 ∨ f = 59) (h : cDF f M N) : ciF f M N := ⟨fun c a1 a2 a3 => h.1 c a1 (by omega) (by omega), fun k a1 a2 a3 a4 _ _ _ => h.2.1 k a1 a2 a3 a4, fun k _ _ => by rw [h.1 f (by omega) (by omega) (by omega)]⟩
theorem ciF_k {f : Int} {M N : jM} (hf : f = 47 ∨ f = 59) (h : skF f M N) : ciF f M N := ⟨fun c a1 a2 a3 => h.1 c a1 (by omega), fun k a1 a2 a3 a4 _ _ _ => h.2 k a1 a2 a3 a4, fun k _ _ => by rw [h.1 f (by omega) (by omega)]⟩
theorem ciF_ty {f : Int} {M N : jM} (h : ciF f M N) (ht : 0 ≤ M 71 0 ∧ M 71 0 ≤ 900) : 0 ≤ N 71 0 ∧ N 71 0 ≤ 900 := by rw [h.2.1 0 (by decide) (by decide) (by decide) (by decide) (by decide) (by decide) (by decide)]; exact ht
theorem ciF_tx {f : Int} {M N : jM} (hf : f = 47 ∨ f = 59) (h : ciF f M N) (ht : ∀ i, -128 ≤ M 72 i ∧ M 72 i ≤ 127) : ∀ i, -128 ≤ N 72 i ∧ N 72 i ≤ 127 := by rw [h.1 72 (by decide) (by decide) (by omega)]; exact ht
theorem cRw_cg {f j : Int} {M N : jM} {x : pRw} (h : cRw M f j x) (e1 : N (f + 1) j = M (f + 1) j) (e2 : N (f + 2) j = M (f + 2) j) (e3 : N (f + 3) j = M (f + 3) j) (e4 : N (f + 4) j = M (f + 4) j) (e5 : N (f + 5) j = M (f + 5) j) (e6 : ∀ w, 0 ≤ w → w ≤ 6 → N (f + 6) (j * 7 + w) = M (f + 6) (j * 7 + w)) (e7 : N (f + 7) j = M (f + 7) j) (e8 : N (f + 8) j = M (f + 8) j) (e9 : ∀ k, k < M f 9 → N (f + 9) k = M (f + 9) k) (e0 : M f 9 ≤ N f 9) : cRw N f j x := by
  obtain ⟨h1, h2, h3, h4⟩ := h
  refine ⟨by rw [e1, e2, e3, e4, e5]; exact h1, fun w w0 w1 => by rw [e6 w w0 w1]; exact h2 w w0 w1, by rw [e7, e8]; omega, ?_⟩
  rw [e7, e8, ← h4]
  exact sPre_cg (fun k k0 k1 => e9 k (by omega))
/-- a number is a RULE's already: on rows and purely -/
theorem cAr_dup {b : Int → Int} {f q : Int} {M : jM} {A : pSt} (h : cAr f M A) (hn : 0 ≤ A.2.1) : hDup b f M q ↔ 0 ≤ pFd b A.2.2 A.2.1 q := by
  obtain ⟨h0, _, hr⟩ := h
  constructor
  · intro ⟨k, j, j0, j1, e⟩
    rcases pFd_sp b A.2.2 q hn with ⟨_, y⟩ | y
    · exact absurd (by rw [← e, (hr j j0 (by omega)).1.1]) (y k j j0 (by omega))
    · exact y.1.1
  · intro z
    rcases pFd_sp b A.2.2 q hn with ⟨y, _⟩ | ⟨y, k, e, _⟩
    · omega
    · exact ⟨k, _, y.1, by omega, by rw [(hr _ y.1 y.2).1.1]; exact e⟩
theorem cAr_first {b : Int → Int} {f q j : Int} {M : jM} {A : pSt} (h : cAr f M A) (hn : 0 ≤ A.2.1) (hz : zF1 b f M q j) : pFd b A.2.2 A.2.1 q = j ∧ 0 ≤ j ∧ j < A.2.1 := by
  obtain ⟨h0, _, hr⟩ := h
  obtain ⟨k, j0, e, hl⟩ := hz
  have ej : (A.2.2 j).1 = lV b q := by rw [← (hr j j0.1 (by omega)).1.1]; exact e
  rcases pFd_sp b A.2.2 q hn with ⟨_, y⟩ | ⟨y, _, e2, y3⟩
  · exact absurd ej (y k j j0.1 (by omega))
  · refine ⟨?_, by omega, by omega⟩
    rcases Int.lt_trichotomy (pFd b A.2.2 A.2.1 q) j with z | z | z
    · exact absurd (by rw [(hr _ y.1 y.2).1.1]; exact e2) (hl _ y.1 z)
    · exact z
    · exact absurd ej (y3 j j0.1 z)
/-! where the loop stands, and what it leaves -/
def ciI (b : Int → Int) (f : Int) (M N : jM) (Z : pSt) (v : Int) : Prop := ∃ A, pAt b (M 71 0) A Z ∧ (0 ≤ A.1 ∧ v ≤ A.1 ∧ 0 ≤ v) ∧ cT b N A.1 ∧ cAr f N A ∧ N 71 6 = f ∧ ciF f M N
def ciP (f : Int) (M N : jM) (Z : pSt) (r : Int) : Prop := ((0 ≤ Z.1 ∧ r = -9 ∧ cAr f N Z) ∨ (Z.1 < 0 ∧ r = -1 - Z.1)) ∧ N 71 6 = f ∧ ciF f M N
def ciB (b : Int → Int) (f : Int) (M N : jM) (A : pSt) : Prop := ((pStp b A).1 < 0 ∧ N 71 3 = -1 - (pStp b A).1) ∧ N 71 6 = f ∧ ciF f M N
theorem ciP_no {b : Int → Int} {f n : Int} {M N : jM} {A Z : pSt} (h : pAt b n (pStp b A) Z ∧ ((pStp b A).1 < 0 ∨ A.1 < (pStp b A).1)) (hB : ciB b f M N A) : ciP f M N Z (N 71 3) := by
  have e := pAt_end h.1 (Or.inl hB.1.1)
  rw [e]
  exact ⟨Or.inr hB.1, hB.2⟩
theorem ciP_ok {b : Int → Int} {f n : Int} {M N : jM} {A Z : pSt} (h : pAt b n A Z) (h0 : 0 ≤ A.1) (hk : lK b A.1 = 0) (hr : cAr f N A) (h6 : N 71 6 = f) (hF : ciF f M N) : ciP f M N Z (-9) := by
  have e := pAt_end h (Or.inr hk)
  rw [e]
  exact ⟨Or.inl ⟨h0, rfl, hr⟩, h6, hF⟩
theorem ciF_6 {f : Int} {M N : jM} (h : cFr M N) (h6 : M 71 6 = f) : N 71 6 = f := by rw [h.2 6 (by decide) (by decide) (by decide) (by decide)]; exact h6
theorem ciB_eq {b : Int → Int} {f : Int} {M N O : jM} {A X : pSt} (hX : pStp b A = X) (h1 : X.1 < 0) (h2 : O 71 3 = -1 - X.1) (h6 : O 71 6 = f) (hF : ciF f M N) (hG : ciF f N O) : ciB b f M O A := by
  unfold ciB
  rw [hX]
  exact ⟨⟨h1, h2⟩, h6, ciF_tr hF hG⟩
theorem fl_at {s y : Int} (h0 : 0 ≤ s) (h : y = s) : y = -1 - fl s := by unfold fl; rw [if_neg (by omega)]; omega
theorem ci_16 {b : Int → Int} {f : Int} {M N : jM} {A : pSt} (hf : f = 47 ∨ f = 59) (hT : cT b N A.1) (h0 : 0 ≤ A.1) (k : lK b A.1 = 1 ∧ lV b A.1 = 0) (h : A.2.1 = 16) (h6 : N 71 6 = f) (hF : ciF f M N) : ciB b f M N A :=
  ciB_eq (pS_16 k h) (fl_neg h0) (fl_at h0 (cT_tok hT).1) h6 hF (ciF_fr hf (cFr_rf N))
theorem ci_x {b : Int → Int} {f : Int} {M N : jM} {A : pSt} (hf : f = 47 ∨ f = 59) (hT : cT b N A.1) (h0 : 0 ≤ A.1) (k : ¬ (lK b A.1 = 1 ∧ lV b A.1 = 0)) (k2 : ¬ (lK b A.1 = 1 ∧ lV b A.1 = 4)) (h6 : N 71 6 = f) (hF : ciF f M N) : ciB b f M N A :=
  ciB_eq (pS_x k k2) (fl_neg h0) (fl_at h0 (cT_tok hT).1) h6 hF (ciF_fr hf (cFr_rf N))
theorem ci_h0 {b : Int → Int} {f n r : Int} {M N O : jM} {A : pSt} (hf : f = 47 ∨ f = 59) (hb : bOk b n) (hs : A.1 ≤ n) (h0 : 0 ≤ A.1) (hR : cAr f N A) (hn : 0 ≤ A.2.1) (k : lK b A.1 = 1 ∧ lV b A.1 = 0) (h16 : ¬ A.2.1 = 16) (h : hdP b f N O (lNx b A.1) r) (hr : r = 0) (h6 : N 71 6 = f) (hF : ciF f M N) : ciB b f M O A := by
  have nx := lNx_lt hb h0 hs (by omega)
  rcases h with ⟨z1, _, z2, z3⟩ | ⟨z1, ⟨z2, _⟩ | ⟨_, z2, z3⟩⟩
  · exact ciB_eq (pS_d k h16 ((cAr_dup hR hn).1 z1)) (fl_neg (by omega)) (fl_at (by omega) z2) (ciF_6 z3 h6) hF (ciF_fr hf z3)
  · omega
  · have y : pFd b A.2.2 A.2.1 (lNx b A.1) < 0 := by
      rcases Int.lt_or_le (pFd b A.2.2 A.2.1 (lNx b A.1)) 0 with x | x
      · exact x
      · exact absurd ((cAr_dup hR hn).2 x) z1
    exact ciB_eq (pS_h k h16 y z2.1) z2.1 z2.2 (ciF_6 z3 h6) hF (ciF_fr hf z3)
/-- behind the head -/
def ciH (b : Int → Int) (f : Int) (N O : jM) (A : pSt) : Prop := (pFd b A.2.2 A.2.1 (lNx b A.1) < 0 ∧ 0 ≤ pH6 b (lNx b A.1) ∧ cT b O (pH6 b (lNx b A.1))) ∧ (O f 0 = A.2.1 + 1 ∧ O f 9 = N f 9 ∧ O 71 6 = f ∧ O (f + 8) (O f 0 - 1) = O f 9) ∧ ciF f N O ∧
  ∃ K, cFr N K ∧ addP f K O (nV b 1 99 (lNx b A.1)) (pHf b (lNx b A.1)) (pHl b (lNx b A.1))
theorem ci_h1 {b : Int → Int} {f r : Int} {N O : jM} {A : pSt} (hf : f = 47 ∨ f = 59) (hR : cAr f N A) (hn : 0 ≤ A.2.1) (h : hdP b f N O (lNx b A.1) r) (hr : ¬ r = 0) (h6 : N 71 6 = f) : ciH b f N O A := by
  rcases h with ⟨_, z2, _⟩ | ⟨z1, ⟨_, z2, z3, K, z4, z5⟩ | ⟨z2, _⟩⟩
  · exact absurd z2 hr
  · have y : pFd b A.2.2 A.2.1 (lNx b A.1) < 0 := by
      rcases Int.lt_or_le (pFd b A.2.2 A.2.1 (lNx b A.1)) 0 with x | x
      · exact x
      · exact absurd ((cAr_dup hR hn).2 x) z1
    have kf : K f = N f := z4.1 f (by omega)
    have z6 := z5
    obtain ⟨q1, _, _, _, _, _, _, q8, _, q0, qk⟩ := z6
    have e0 : O f 0 = A.2.1 + 1 := by rw [q0, kf, hR.1]
    have e9 : O f 9 = N f 9 := by rw [qk 9 (by decide), kf]
    refine ⟨⟨y, z2, z3⟩, ⟨e0, e9, ?_, ?_⟩, ciF_tr (ciF_fr hf z4) (ciF_add hf z5), K, z4, z5⟩
    · rw [q1 71 (by omega) (by omega) (by omega) (by omega) (by omega) (by omega) (by omega) (by omega) (by omega)]
      exact ciF_6 z4 h6
    · rw [q8, if_pos (by rw [e0, kf, hR.1]; omega), e9, kf]
  · exact absurd z2 hr
theorem ci_i0 {b : Int → Int} {f r : Int} {M N O P : jM} {A : pSt} (hf : f = 47 ∨ f = 59) (k : lK b A.1 = 1 ∧ lV b A.1 = 0) (h16 : ¬ A.2.1 = 16) (hH : ciH b f N O A) (h : ifP b f O P (pIf b (pH6 b (lNx b A.1))) r) (hr : r = 0) (hF : ciF f M N) : ciB b f M P A := by
  obtain ⟨⟨z1, z2, _⟩, ⟨_, _, z3, _⟩, z4, _⟩ := hH
  rcases h with ⟨⟨y, _⟩ | ⟨_, y1, y2⟩, y3⟩
  · omega
  · exact ciB_eq (pS_i k h16 z1 z2 y1) y1 y2 (by rw [y3.2.2.1 6 (by decide) (by decide) (by decide) (by decide) (by decide) (by decide)]; exact z3) hF (ciF_tr z4 (ciF_cc hf y3))
/-- behind if .. then -/
def ciJ (b : Int → Int) (f : Int) (N P : jM) (A : pSt) : Prop := (0 ≤ (pIf b (pH6 b (lNx b A.1))).1 ∧ cT b P (pIf b (pH6 b (lNx b A.1))).1) ∧ (P f 0 = A.2.1 + 1 ∧ P 71 6 = f ∧ cTd P f (fun _ => -9) ∧ P (f + 5) (P f 0 - 1) = 0) ∧ ciF f N P ∧
  ∃ O, ciH b f N O A ∧ ifP b f O P (pIf b (pH6 b (lNx b A.1))) 1
theorem ci_i1 {b : Int → Int} {f r : Int} {N O P : jM} {A : pSt} (hf : f = 47 ∨ f = 59) (hR : cAr f N A) (hH : ciH b f N O A) (h : ifP b f O P (pIf b (pH6 b (lNx b A.1))) r) (hr : ¬ r = 0) : ciJ b f N P A := by
  have h1 : ifP b f O P (pIf b (pH6 b (lNx b A.1))) 1 := by
    rcases h with ⟨⟨_, y⟩ | ⟨y, _⟩, y3⟩
    · exact ⟨Or.inl ⟨rfl, y⟩, y3⟩
    · exact absurd y hr
  have hH' := hH
  obtain ⟨_, ⟨e0, _, e6, _⟩, z4, K, zk, za⟩ := hH'
  rcases h1.1 with ⟨_, y1, y2, _⟩ | ⟨y, _⟩
  · have y3 := h1.2
    obtain ⟨_, _, _, _, _, q5, _, _, q6, q0, _⟩ := za
    have kf : K f = N f := zk.1 f (by omega)
    have p0 : P f 0 = A.2.1 + 1 := by rw [y3.2.1 0 (by decide), e0]
    refine ⟨⟨y1, y2⟩, ⟨p0, ?_, fun w w0 w1 => Or.inl ⟨rfl, ?_⟩, ?_⟩, ciF_tr z4 (ciF_cc hf y3), O, hH, h1⟩
    · rw [y3.2.2.1 6 (by decide) (by decide) (by decide) (by decide) (by decide) (by decide)]; exact e6
    · rw [y3.1 (f + 6) (by omega) (by omega) (by omega) (by omega) (by omega), q6, if_pos (by rw [kf, hR.1, p0]; omega)]
    · rw [y3.1 (f + 5) (by omega) (by omega) (by omega) (by omega) (by omega), q5, if_pos (by rw [kf, hR.1, p0]; omega)]
  · omega
theorem ci_d0 {b : Int → Int} {f r : Int} {M N P Q : jM} {A : pSt} (hf : f = 47 ∨ f = 59) (k : lK b A.1 = 1 ∧ lV b A.1 = 0) (h16 : ¬ A.2.1 = 16) (hJ : ciJ b f N P A) (h : dsP b f P Q (pDu b 4 (pIf b (pH6 b (lNx b A.1))).1 (fun _ => -9) 0) r) (hr : r = 0) (hF : ciF f M N) : ciB b f M Q A := by
  obtain ⟨⟨x1, _⟩, ⟨_, x6, _⟩, x4, O, hH, _⟩ := hJ
  obtain ⟨⟨z1, z2, _⟩, _⟩ := hH
  rcases h with ⟨⟨y, _⟩ | ⟨_, y1, y2⟩, y3⟩
  · omega
  · exact ciB_eq (pS_u k h16 z1 z2 x1 y1) y1 y2 (by rw [y3.2.1 6 (by decide) (by decide) (by decide) (by decide)]; exact x6) hF (ciF_tr x4 (ciF_d hf y3))
theorem ci_d1 {b : Int → Int} {f r n v : Int} {M N P Q : jM} {A Z : pSt} (hf : f = 47 ∨ f = 59) (hb : bOk b n) (hs : A.1 ≤ n) (h0 : 0 ≤ A.1) (hn : 0 ≤ A.2.1) (k : lK b A.1 = 1 ∧ lV b A.1 = 0) (h16 : ¬ A.2.1 = 16) (hR : cAr f N A) (hJ : ciJ b f N P A) (h : dsP b f P Q (pDu b 4 (pIf b (pH6 b (lNx b A.1))).1 (fun _ => -9) 0) r) (hr : ¬ r = 0) (hF : ciF f M N)
    (hA : pAt b (M 71 0) (pStp b A) Z ∧ ((pStp b A).1 < 0 ∨ A.1 < (pStp b A).1)) (hv : v ≤ A.1 ∧ 0 ≤ v) : ciI b f M Q Z (v + 1) := by
  obtain ⟨⟨x1, x2⟩, ⟨xf, x6, _, _⟩, x4, O, hH, hI⟩ := hJ
  obtain ⟨⟨z1, z2, _⟩, ⟨o0, o9, _, o8⟩, z4, K, zk, za⟩ := hH
  rcases h with ⟨⟨_, y1, y2, y5, y6⟩ | ⟨y, _⟩, y3⟩
  · have e := pS_ok k h16 z1 z2 x1 y1
    rw [e] at hA
    have pin := pIf_in hb z2 (by
      have nx := lNx_lt hb h0 hs (by omega)
      rcases pH6_in hb (show 0 ≤ lNx b A.1 by omega) nx.2 with q | q
      · omega
      · exact q.1.2)
    have din : (pIf b (pH6 b (lNx b A.1))).1 < (pDu b 4 (pIf b (pH6 b (lNx b A.1))).1 (fun _ => -9) 0).1 := by
      rcases pin with q | q
      · omega
      · rcases pDu_in hb 4 (pIf b (pH6 b (lNx b A.1))).1 (fun _ => -9) 0 x1 q.1.2 tOk_0 with p | p
        · omega
        · exact p.1.1
    rcases hI with ⟨⟨_, i1, i2, i3, i4, i5, i6⟩ | ⟨i, _⟩, ic⟩
    · obtain ⟨q1, qa, qb, qc, qd, qe, qg, qh, q6, q0, qk⟩ := za
      have kf : K f = N f := zk.1 f (by omega)
      have kc : ∀ i, 1 ≤ i → i ≤ 9 → K (f + i) = N (f + i) := fun i _ _ => zk.1 (f + i) (by omega)
      have n0 := hR.1
      have d0 : Q f 0 = A.2.1 + 1 := by rw [y3.1 f (by omega) (by omega) (by omega)]; exact xf
      have d9 : Q f 9 = P f 9 := by rw [y3.1 f (by omega) (by omega) (by omega)]
      have hc := hR.2.1
      refine ⟨_, hA.1, ⟨y1, ?_, by omega⟩, y2, ⟨d0, ⟨by omega, ?_⟩, fun j j0 j1 => ?_⟩, ?_, ciF_tr hF (ciF_tr x4 (ciF_d hf y3))⟩
      · have := hA.2
        show v + 1 ≤ (pDu b 4 (pIf b (pH6 b (lNx b A.1))).1 (fun _ => -9) 0).1
        have q : (pDu b 4 (pIf b (pH6 b (lNx b A.1))).1 (fun _ => -9) 0).1 < 0 ∨ A.1 < (pDu b 4 (pIf b (pH6 b (lNx b A.1))).1 (fun _ => -9) 0).1 := this
        omega
      · show Q f 9 ≤ (pDu b 4 (pIf b (pH6 b (lNx b A.1))).1 (fun _ => -9) 0).1
        omega
      · have j1' : j < A.2.1 + 1 := j1
        show cRw Q f j (if j = A.2.1 then pNew b (lNx b A.1) else A.2.2 j)
        have c1 : ∀ i, (1 ≤ i ∧ i ≤ 4) ∨ i = 7 → Q (f + i) = O (f + i) := fun i hi => by rw [y3.1 (f + i) (by omega) (by omega) (by omega), ic.1 (f + i) (by omega) (by omega) (by omega) (by omega) (by omega)]
        have c8 : Q (f + 8) = P (f + 8) := y3.1 (f + 8) (by omega) (by omega) (by omega)
        have c9 : Q (f + 9) = P (f + 9) := y3.1 (f + 9) (by omega) (by omega) (by omega)
        have p5 : P (f + 5) = O (f + 5) := ic.1 (f + 5) (by omega) (by omega) (by omega) (by omega) (by omega)
        have p6 : P (f + 6) = O (f + 6) := ic.1 (f + 6) (by omega) (by omega) (by omega) (by omega) (by omega)
        by_cases e : j = A.2.1
        · rw [if_pos e]
          have ek : j = K f 0 := by rw [kf, n0]; exact e
          have e7 : Q (f + 7) j = N f 9 := by rw [c1 7 (by omega), qg, if_pos ek, kf]
          have e8 : Q (f + 8) j = P f 9 := by rw [c8, show j = P f 0 - 1 by omega]; exact i4
          refine ⟨⟨?_, ?_, ?_, ?_, ?_⟩, fun w w0 w1 => ?_, ⟨by omega, by omega, by omega⟩, ?_⟩
          · rw [c1 1 (by omega), qa, if_pos ek]; rfl
          · rw [c1 2 (by omega), qb, if_pos ek]; rfl
          · rw [c1 3 (by omega), qc, if_pos ek]; rfl
          · rw [c1 4 (by omega), qd, if_pos ek]; rfl
          · rw [show j = P f 0 - 1 by omega]; exact y6
          · have q := y5 w w0 w1
            rw [show Q f 0 - 1 = j by omega] at q
            exact q
          · rw [e7, e8, c9, ← o9]; exact i3
        · rw [if_neg e]
          have ek : ¬ j = K f 0 := by rw [kf, n0]; exact e
          refine cRw_cg (hR.2.2 j j0 (by omega)) ?_ ?_ ?_ ?_ ?_ (fun w w0 w1 => ?_) ?_ ?_ (fun i hi => ?_) (by omega)
          · rw [c1 1 (by omega), qa, if_neg ek, kc 1 (by omega) (by omega)]
          · rw [c1 2 (by omega), qb, if_neg ek, kc 2 (by omega) (by omega)]
          · rw [c1 3 (by omega), qc, if_neg ek, kc 3 (by omega) (by omega)]
          · rw [c1 4 (by omega), qd, if_neg ek, kc 4 (by omega) (by omega)]
          · rw [y3.2.2.2 j (by omega), p5, qe, if_neg ek, kc 5 (by omega) (by omega)]
          · rw [y3.2.2.1 _ (by omega), p6, q6, if_neg (by rw [kf, n0]; omega), kc 6 (by omega) (by omega)]
          · rw [c1 7 (by omega), qg, if_neg ek, kc 7 (by omega) (by omega)]
          · rw [c8, ic.2.2.2.1 j (by omega), qh, if_neg ek, kc 8 (by omega) (by omega)]
          · rw [c9, ic.2.2.2.2 i (by omega), q1 (f + 9) (by omega) (by omega) (by omega) (by omega) (by omega) (by omega) (by omega) (by omega) (by omega), kc 9 (by omega) (by omega)]
      · rw [y3.2.1 6 (by decide) (by decide) (by decide) (by decide)]; exact x6
    · omega
  · exact absurd y hr
theorem ci_s0 {b : Int → Int} {f r n : Int} {M N O : jM} {A : pSt} (hf : f = 47 ∨ f = 59) (hb : bOk b n) (hs : A.1 ≤ n) (h0 : 0 ≤ A.1) (hR : cAr f N A) (hn : 0 ≤ A.2.1) (k : lK b A.1 = 1 ∧ lV b A.1 = 4) (h : skP b f N O (lNx b A.1) r) (hr : r = 0) (h6 : N 71 6 = f) (hF : ciF f M N) : ciB b f M O A := by
  have nx := lNx_lt hb h0 hs (by omega)
  rcases h with ⟨z1, _, z2, z3⟩ | ⟨j, z1, z2, ⟨_, z3⟩ | ⟨z3, _⟩⟩
  · have y : pFd b A.2.2 A.2.1 (lNx b A.1) < 0 := by
      rcases Int.lt_or_le (pFd b A.2.2 A.2.1 (lNx b A.1)) 0 with x | x
      · exact x
      · exact absurd ((cAr_dup hR hn).2 x) z1
    exact ciB_eq (pS_sd k y) (fl_neg (by omega)) (fl_at (by omega) z2) (ciF_6 z3 h6) hF (ciF_fr hf z3)
  · have y := cAr_first hR hn z1
    exact ciB_eq (pS_sn k (by omega) z3.1) z3.1 z3.2 (by rw [z2.2 6 (by decide) (by decide) (by decide) (by decide)]; exact h6) hF (ciF_k hf z2)
  · omega
theorem ci_s1 {b : Int → Int} {f r n v : Int} {M N O : jM} {A Z : pSt} (hf : f = 47 ∨ f = 59) (hb : bOk b n) (hs : A.1 ≤ n) (h0 : 0 ≤ A.1) (hR : cAr f N A) (hn : 0 ≤ A.2.1) (k : lK b A.1 = 1 ∧ lV b A.1 = 4) (h : skP b f N O (lNx b A.1) r) (hr : ¬ r = 0) (h6 : N 71 6 = f) (hF : ciF f M N)
    (hA : pAt b (M 71 0) (pStp b A) Z ∧ ((pStp b A).1 < 0 ∨ A.1 < (pStp b A).1)) (hv : v ≤ A.1 ∧ 0 ≤ v) : ciI b f M O Z (v + 1) := by
  rcases h with ⟨_, z2, _⟩ | ⟨j, z1, z2, ⟨z3, _⟩ | ⟨_, z3, z4, z5⟩⟩
  · exact absurd z2 hr
  · exact absurd z3 hr
  · have y := cAr_first hR hn z1
    have e := pS_so k (by omega) z3
    rw [e] at hA
    have of_ : O f = N f := z2.1 f (by omega) (by omega)
    have hA2 : pK4 b (lNx b A.1) < 0 ∨ A.1 < pK4 b (lNx b A.1) := hA.2
    have hc := hR.2.1
    refine ⟨_, hA.1, ⟨z3, by show v + 1 ≤ pK4 b (lNx b A.1); omega, by omega⟩, z4, ⟨by rw [of_]; exact hR.1, ⟨by rw [of_]; omega, by rw [of_]; show N f 9 ≤ pK4 b (lNx b A.1); omega⟩, fun i i0 i1 => ?_⟩, by rw [z2.2 6 (by decide) (by decide) (by decide) (by decide)]; exact h6, ciF_tr hF (ciF_k hf z2)⟩
    have g := hR.2.2 i i0 i1
    show cRw O f i (if i = pFd b A.2.2 A.2.1 (lNx b A.1) then pStk (A.2.2 i) (pKd b (lNx b A.1)) else A.2.2 i)
    have c1 : ∀ i, (1 ≤ i ∧ i ≤ 9) → ¬ i = 4 → O (f + i) = N (f + i) := fun i _ _ => z2.1 (f + i) (by omega) (by omega)
    have cg : ∀ x : pRw, cRw N f i x → x.2.2.2.1 = O (f + 4) i → cRw O f i x := fun x hx ex => by
      obtain ⟨⟨a1, a2, a3, _, a5⟩, a6, a7, a8⟩ := hx
      refine ⟨⟨by rw [c1 1 (by omega) (by omega)]; exact a1, by rw [c1 2 (by omega) (by omega)]; exact a2, by rw [c1 3 (by omega) (by omega)]; exact a3, ex.symm, by rw [c1 5 (by omega) (by omega)]; exact a5⟩, ?_, ?_, ?_⟩
      · unfold cTw; rw [c1 6 (by omega) (by omega)]; exact a6
      · rw [c1 7 (by omega) (by omega), c1 8 (by omega) (by omega), of_]; exact a7
      · rw [c1 7 (by omega) (by omega), c1 8 (by omega) (by omega), c1 9 (by omega) (by omega)]; exact a8
    by_cases ei : i = pFd b A.2.2 A.2.1 (lNx b A.1)
    · rw [if_pos ei]
      obtain ⟨⟨a1, a2, a3, a4, a5⟩, a6, a7, a8⟩ := g
      refine ⟨⟨by rw [c1 1 (by omega) (by omega)]; exact a1, by rw [c1 2 (by omega) (by omega)]; exact a2, by rw [c1 3 (by omega) (by omega)]; exact a3, ?_, by rw [c1 5 (by omega) (by omega)]; exact a5⟩, ?_, ?_, ?_⟩
      · rw [z5 i]
        show _ = if (A.2.2 i).2.2.2.1 = -9 ∨ pKd b (lNx b A.1) < (A.2.2 i).2.2.2.1 then pKd b (lNx b A.1) else (A.2.2 i).2.2.2.1
        have ej : i = j := by omega
        rw [← ej, ← a4]
        by_cases c : N (f + 4) i = -9 ∨ pKd b (lNx b A.1) < N (f + 4) i
        · rw [if_pos ⟨rfl, c⟩, if_pos c]
        · rw [if_neg (fun q => c q.2), if_neg c]
      · unfold cTw; rw [c1 6 (by omega) (by omega)]; exact a6
      · rw [c1 7 (by omega) (by omega), c1 8 (by omega) (by omega), of_]; exact a7
      · rw [c1 7 (by omega) (by omega), c1 8 (by omega) (by omega), c1 9 (by omega) (by omega)]; exact a8
    · rw [if_neg ei]
      exact cg _ g (by rw [z5 i, if_neg (by omega)]; exact g.1.2.2.2.1.symm)
theorem ciI_0 {b : Int → Int} {f : Int} {M M' N : jM} (hf : f = 47 ∨ f = 59) (hb : bOk b (M 71 0)) (hM : M' = jup (jup (jup (jup (jup M 71 6 f) f 0 0) f 9 0) 71 3 0) 71 4 0) (hx : cTx M = b) (hs : stP b M' N) : ciI b f M N (pTxt b) 0 := by
  have e3 : M' 71 3 = 0 := by rw [hM, jup_ne (by decide), jup_self]
  have e4 : M' 71 4 = 0 := by rw [hM, jup_self]
  have ek : ∀ k, k ≠ 3 → k ≠ 4 → k ≠ 6 → M' 71 k = M 71 k := fun k a1 a2 a3 => by rw [hM, jup_ne (by omega), jup_ne (by omega), jup_cellk (by omega), jup_cellk (by omega), jup_ne (by omega)]
  have e6 : M' 71 6 = f := by rw [hM, jup_ne (by decide), jup_ne (by decide), jup_cellk (by omega), jup_cellk (by omega), jup_self]
  have ec : ∀ c, c ≠ 71 → c ≠ f → M' c = M c := fun c a1 a2 => by rw [hM, jup_cell a1, jup_cell a1, jup_cell a2, jup_cell a2, jup_cell a1]
  have ef0 : M' f 0 = 0 := by rw [hM, jup_cellk (by omega), jup_cellk (by omega), jup_ne (by omega), jup_self]
  have ef9 : M' f 9 = 0 := by rw [hM, jup_cellk (by omega), jup_cellk (by omega), jup_self]
  have efk : ∀ k, k ≠ 0 → k ≠ 9 → M' f k = M f k := fun k a1 a2 => by rw [hM, jup_cellk (by omega), jup_cellk (by omega), jup_ne (by omega), jup_ne (by omega), jup_cellk (by omega)]
  obtain ⟨⟨s1, s2, s3⟩, s4, s5⟩ := hs
  rw [e3, e4] at s1 s2
  have s1' : N 71 3 = lSk b 0 := s1
  have n0 : N 71 0 = M 71 0 := by rw [s5.2 0 (by decide) (by decide) (by decide) (by decide), ek 0 (by decide) (by decide) (by decide)]
  have nf : N f = M' f := s5.1 f (by omega)
  have s3' : N 71 3 ≤ N 71 0 := by rw [s5.2 0 (by decide) (by decide) (by decide) (by decide)]; exact s3
  refine ⟨_, pAt_0 hb, ⟨by show 0 ≤ lSk b 0; omega, by show 0 ≤ lSk b 0; omega, by omega⟩, ⟨?_, s4, s1', by show 0 ≤ lSk b 0; omega, by show lSk b 0 ≤ N 71 0; omega⟩, ⟨by rw [nf]; exact ef0, ⟨by rw [nf, ef9]; exact Int.le_refl _, by rw [nf, ef9]; show 0 ≤ lSk b 0; omega⟩, fun j j0 j1 => by have j1' : j < 0 := j1; omega⟩, ?_, ?_⟩
  · rw [← hx]; exact cTx_cg n0 (by rw [s5.1 72 (by decide), ec 72 (by decide) (by omega)])
  · rw [s5.2 6 (by decide) (by decide) (by decide) (by decide)]; exact e6
  · exact ⟨fun c a1 a2 a3 => by rw [s5.1 c a1, ec c a1 (by omega)], fun k a1 a2 a3 a4 a5 a6 a7 => by rw [s5.2 k a1 a2 a3 a4, ek k a2 a3 a5], fun k a1 a2 => by rw [nf, efk k a1 a2]⟩
