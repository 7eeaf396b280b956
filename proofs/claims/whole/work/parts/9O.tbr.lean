/-! ===== the reference's numbers hang on its own cells alone ===== -/
def rSm (M N : jM) : Prop := ∀ c, 74 ≤ c → N c = M c
theorem rB_s {M N : jM} (h : rSm M N) (i hh m d : Int) : rB N i hh m d = rB M i hh m d := by
  unfold rB
  rw [tPre_cg (h 85 (by decide)) (h 86 (by decide)), h 85 (by decide), h 83 (by decide), h 82 (by decide), h 80 (by decide), h 76 (by decide)]
theorem rD_s {M N : jM} (h : rSm M N) (hh m d w s : Int) (n : Nat) : rD N hh m d w s n = rD M hh m d w s n := by
  unfold rD
  rw [h 85 (by decide), h 82 (by decide), h 81 (by decide), h 80 (by decide), show (fun k => decide (s < rB N k hh m d ∧ ¬ M 85 (20 * k + 6 + w) = -9)) = (fun k => decide (s < rB M k hh m d ∧ ¬ M 85 (20 * k + 6 + w) = -9)) from funext (fun k => by rw [rB_s h])]
theorem rWhy_s {M N : jM} (h : rSm M N) (hh m d w s v : Int) (n : Nat) : rWhy N hh m d w s v n = rWhy M hh m d w s v n := by
  unfold rWhy
  rw [h 85 (by decide), show (fun k => decide (s < rB N k hh m d)) = (fun k => decide (s < rB M k hh m d)) from funext (fun k => by rw [rB_s h])]
theorem rQ_s {M N : jM} (h : rSm M N) (hh m d : Int) : rQ N hh m d = rQ M hh m d := by
  funext a b
  unfold rQ
  rw [rB_s h, rB_s h, h 85 (by decide)]
theorem rBr_s {M N : jM} (h : rSm M N) (k o s : Int) : rBr N k o s ↔ rBr M k o s := by
  unfold rBr
  simp only [rD_s h, h 74 (by decide), h 82 (by decide), h 89 (by decide), h 90 (by decide), h 91 (by decide), h 92 (by decide), h 93 (by decide), h 94 (by decide), h 95 (by decide), h 96 (by decide)]
theorem rHit_s {M N : jM} (h : rSm M N) (hh d o s : Int) : rHit N hh d o s = rHit M hh d o s := by
  funext k
  unfold rHit
  rw [rBr_s h, h 89 (by decide), h 90 (by decide), h 91 (by decide)]
/-! ===== breaches on both sides ===== -/
theorem pLg_iff {P : jM} {m s a : Int} (ha : 0 ≤ a) : ∀ n : Nat, a < pLongest P m s n ↔ ∃ j : Int, 0 ≤ j ∧ j < n ∧ P 22 j = m ∧ a < pLasts P j s
  | 0 => ⟨fun z => by unfold pLongest at z; omega, fun ⟨j, a, b, _⟩ => by omega⟩
  | n + 1 => by
    have ih := pLg_iff (P := P) (m := m) (s := s) ha n
    unfold pLongest
    constructor
    · intro z
      by_cases e : P 22 n = m
      · rw [if_pos e] at z
        by_cases q : a < pLasts P n s
        · exact ⟨n, by omega, by omega, e, q⟩
        · obtain ⟨j, j0, j1, j2⟩ := ih.1 (by omega)
          exact ⟨j, j0, by omega, j2⟩
      · rw [if_neg e] at z
        obtain ⟨j, j0, j1, j2⟩ := ih.1 z
        exact ⟨j, j0, by omega, j2⟩
    · rintro ⟨j, j0, j1, j2, j3⟩
      by_cases e : j = n
      · rw [e] at j2 j3
        rw [if_pos j2]; omega
      · have := ih.2 ⟨j, j0, by omega, j2, j3⟩
        by_cases e2 : P 22 n = m
        · rw [if_pos e2]; omega
        · rw [if_neg e2]; exact this
def tzLn (P : jM) (A : Int → Int) (h o l j : Int) : Prop :=
  if o = 0 then A 0 < sSum (fun j => pWorked P l j) (P 16 6).toNat
  else if o = 1 then (if l = 2 then P 24 j else P 23 j) < A 1 ∨ A 2 < (if l = 2 then P 25 j else P 26 j)
  else if o = 2 then sSum (fun j => pSchool P j) (P 16 6).toNat < A 3
  else if o = 3 then A 4 < pLasts P j l
  else if o = 4 then P 11 h = 0 ∧ A 5 = 1
  else A 6 = 1
theorem tz_ln {P : jM} {A : Int → Int} {h m o l : Int} (h4 : 0 ≤ A 4) (h0 : 0 ≤ P 16 6) (ho : 0 ≤ o ∧ o ≤ 5) : ((∃ j, 0 ≤ j ∧ j < P 16 6 ∧ P 22 j = m) ∧ cBrG P A h m o l) ↔ ∃ j, 0 ≤ j ∧ j < P 16 6 ∧ P 22 j = m ∧ tzLn P A h o l j := by
  have flat : ∀ q : Prop, ((∃ j, 0 ≤ j ∧ j < P 16 6 ∧ P 22 j = m) ∧ q) ↔ ∃ j, 0 ≤ j ∧ j < P 16 6 ∧ P 22 j = m ∧ q := fun q =>
    ⟨fun ⟨⟨j, a, b, c⟩, z⟩ => ⟨j, a, b, c, z⟩, fun ⟨j, a, b, c, z⟩ => ⟨⟨j, a, b, c⟩, z⟩⟩
  unfold cBrG tzLn
  rcases (show o = 0 ∨ o = 1 ∨ o = 2 ∨ o = 3 ∨ o = 4 ∨ o = 5 by omega) with e | e | e | e | e | e <;> subst e <;> simp only [Int.reduceEq, ↓reduceIte]
  · exact flat _
  · exact ⟨fun z => z.2, fun z => ⟨by obtain ⟨j, a, b, c, _⟩ := z; exact ⟨j, a, b, c⟩, z⟩⟩
  · exact flat _
  · rw [pLg_iff h4, show (((P 16 6).toNat : Nat) : Int) = P 16 6 from toNat_c h0]
    exact ⟨fun z => z.2, fun z => ⟨by obtain ⟨j, a, b, c, _⟩ := z; exact ⟨j, a, b, c⟩, z⟩⟩
  · exact flat _
  · exact flat _
/-- what both sides hold of LINES and CLOCKS -/
def tzL (M : jM) : Prop := M 16 0 = M 74 27 ∧ M 17 = M 89 ∧ M 18 = M 90 ∧ M 19 = M 91 ∧ M 20 = M 92 ∧ M 21 = M 93 ∧ M 6 = M 94 ∧ M 7 = M 95 ∧ M 8 = M 96
theorem tz_rl {M P : jM} {A : Int → Int} {h d o s j : Int} (hL : tzL M) (hs : s = 0 ∨ s = 1) (ho : 0 ≤ o ∧ o ≤ 5) (hio : ∀ i, M 20 i ≤ M 21 i) (e11 : M 11 = M 82) (hp : pPicked M P h d (M 16 0).toNat) (j0 : 0 ≤ j) (j1 : j < P 16 6)
    (hA : ∀ w, 0 ≤ w → w ≤ 6 → A w = rD M h (M 91 (sSel (M 17) (M 18) h d (M 16 0).toNat j)) d w s (M 74 20).toNat) : rBr M (sSel (M 17) (M 18) h d (M 16 0).toNat j) o s ↔ tzLn P A h o (s + 1) j := by
  obtain ⟨eL, e17, e18, e19, e20, e21, e6, e7, e8⟩ := hL
  have hp' := hp
  obtain ⟨p1, p2, p3, p4, p5, p6, pc, -⟩ := hp'
  have si := sSel_in (M 17) (M 18) h d (M 16 0).toNat j j0 (by omega)
  have eW : sSum (fun j => pWorked P (s + 1) j) (P 16 6).toNat = fWork (M 6) (M 7) (M 8) (M 17) (M 18) (M 19) (M 20) (M 21) h d (1 - s) (M 16 0).toNat := by
    rw [fWork_sel, p1]
    refine sSum_congr _ (fun i a b => ?_)
    rw [pWorked_eq hp (by omega) i a (by omega), show 2 - (s + 1) = 1 - s by omega]
  have eS : sSum (fun j => pSchool P j) (P 16 6).toNat = fWork (M 6) (M 7) (M 8) (M 17) (M 18) (M 19) (M 20) (M 21) h d 2 (M 16 0).toNat := by
    rw [fWork_sel, p1]
    refine sSum_congr _ (fun i a b => ?_)
    rw [pSchool_eq hp hio i a (by omega)]
  have x11 : P 11 = M 11 := pc 11 (by decide) (by decide) (by decide) (by decide) (by decide) (by decide)
  have q3 := p3 j j0 j1
  have q4 := p4 j j0 j1
  have q5 := p5 j j0 j1
  have q6 := p6 j j0 j1
  simp only [pT] at q3 q4 q5 q6
  unfold rBr tzLn pLasts
  rw [← eL, ← e17, ← e18, ← e19, ← e20, ← e21, ← e6, ← e7, ← e8, ← e11, si.2.2.1, si.2.2.2, eW, eS, x11, q3, q4, q5, q6]
  rw [← e19] at hA
  have a0 := hA 0 (by omega) (by omega)
  have a1 := hA 1 (by omega) (by omega)
  have a2 := hA 2 (by omega) (by omega)
  have a3 := hA 3 (by omega) (by omega)
  have a4 := hA 4 (by omega) (by omega)
  have a5 := hA 5 (by omega) (by omega)
  have a6 := hA 6 (by omega) (by omega)
  rw [a0, a1, a2, a3, a4, a5, a6]
  unfold fLong
  rcases (show o = 0 ∨ o = 1 ∨ o = 2 ∨ o = 3 ∨ o = 4 ∨ o = 5 by omega) with e | e | e | e | e | e <;> subst e <;> simp only [Int.reduceEq, ↓reduceIte]
  · rcases hs with e | e <;> subst e <;> simp only [Int.reduceAdd, Int.reduceSub, Int.reduceEq, ↓reduceIte]
  · rcases hs with e | e <;> subst e <;> simp only [Int.reduceAdd, Int.reduceSub, Int.reduceEq, ↓reduceIte]
  · exact ⟨fun z => ⟨z.2, z.1⟩, fun z => ⟨z.2, z.1⟩⟩
theorem cB_p {M P : jM} {f : Int} (hf : f = 47 ∨ f = 59) (hk : ∀ c, c ≠ 16 → c ≠ 22 → c ≠ 23 → c ≠ 24 → c ≠ 25 → c ≠ 26 → P c = M c) (k h m d : Int) : cB P f k h m d = cB M f k h m d := by
  have g : ∀ c, (c < 16 ∨ 26 < c) → P c = M c := fun c z => hk c (by omega) (by omega) (by omega) (by omega) (by omega) (by omega)
  unfold cB
  rw [g (f + 2) (by omega), g (f + 3) (by omega), g (f + 4) (by omega), g (f + 7) (by omega), g (f + 8) (by omega), g (f + 9) (by omega), g 12 (by omega), g 13 (by omega), g 10 (by omega), g 2 (by omega), g 11 (by omega)]
theorem cD_p {M P : jM} {f : Int} (hf : f = 47 ∨ f = 59) (hk : ∀ c, c ≠ 16 → c ≠ 22 → c ≠ 23 → c ≠ 24 → c ≠ 25 → c ≠ 26 → P c = M c) (h m d w l : Int) (n : Nat) : cD P f h m d w l n = cD M f h m d w l n := by
  have g : ∀ c, (c < 16 ∨ 26 < c) → P c = M c := fun c z => hk c (by omega) (by omega) (by omega) (by omega) (by omega) (by omega)
  unfold cD
  rw [g (f + 6) (by omega), g 10 (by omega), g 15 (by omega), g 11 (by omega), show (fun k => decide (l ≤ cB P f k h m d ∧ ¬ M (f + 6) (k * 7 + w) = -1)) = (fun k => decide (l ≤ cB M f k h m d ∧ ¬ M (f + 6) (k * 7 + w) = -1)) from funext (fun k => by rw [cB_p hf hk])]
theorem tz_hit {f : Int} {M P : jM} {Z : pSt} {h d o s : Int} (hz : tzOk Z) (hc : cAr f M Z) (hr : rIn M Z) (hf : f = 47 ∨ f = 59) (hs : s = 0 ∨ s = 1) (ho : 0 ≤ o ∧ o ≤ 5) (hb : tzH M h) (hL : tzL M) (h1 : 0 ≤ M 10 h ∧ M 10 h ≤ 5) (h2 : 0 ≤ M 15 h ∧ M 15 h ≤ 3) (h3 : 0 ≤ M 11 h ∧ M 11 h ≤ 3) (hio : ∀ i, M 20 i ≤ M 21 i) (h0 : 0 ≤ M 16 0)
    (hw : ∀ i, 0 ≤ i → i < M 16 0 → M 19 i = -9 ∨ (0 ≤ M 19 i ∧ M 19 i < M 1 0)) (hp : pPicked M P h d (M 16 0).toNat) : (∃ x, (0 ≤ x ∧ x < M 1 0) ∧ cHit P f h d o (s + 1) x) ↔ ∃ k, (0 ≤ k ∧ k < M 74 27) ∧ rHit M h d o s k := by
  have hk := hp.2.2.2.2.2.2.1
  have pf : P f = M f := hk f (by omega) (by omega) (by omega) (by omega) (by omega) (by omega)
  have c6 := sCnt_in (M 17) (M 18) h d (M 16 0).toNat
  have p6 : 0 ≤ P 16 6 := by rw [hp.1]; exact c6.1
  have eA : ∀ x w, 0 ≤ w → w ≤ 6 → cD P f h x d w (s + 1) (P f 0).toNat = rD M h x d w s (M 74 20).toNat := fun x w w0 w1 => by
    rw [cD_p hf hk, pf]
    exact tz_D hz hc hr hb ⟨w0, w1⟩
  have e4 : ∀ x, 0 ≤ cD P f h x d 4 (s + 1) (P f 0).toNat := fun x => by
    rw [cD_p hf hk, pf]
    exact tz_Din hz hc hr (by omega) h1 h2 h3
  have hL' := hL
  obtain ⟨eL, e17, e18, e19, _⟩ := hL'
  constructor
  · rintro ⟨x, hx, hh⟩
    obtain ⟨j, j0, j1, j2, j3⟩ := (tz_ln (e4 x) p6 ho).1 hh
    have si := sSel_in (M 17) (M 18) h d (M 16 0).toNat j j0 (by rw [← hp.1]; exact j1)
    have q := hp.2.1 j j0 j1
    refine ⟨_, ⟨si.1, by omega⟩, ⟨by rw [← e17]; exact si.2.2.1, by rw [← e18]; exact si.2.2.2⟩, by rw [← e19, ← q]; omega, ?_⟩
    refine (tz_rl hL hs ho hio hb.2.2.2.1 hp j0 j1 (fun w w0 w1 => ?_)).2 j3
    rw [← e19, ← q, j2]
    exact eA x w w0 w1
  · rintro ⟨k, hk0, hh⟩
    obtain ⟨⟨k1, k2⟩, k3, k4⟩ := hh
    rw [← e17] at k1
    rw [← e18] at k2
    obtain ⟨j, j0, j1, j2⟩ := sSel_sur (M 16 0).toNat k hk0.1 (by omega) k1 k2
    rw [← hp.1] at j1
    have q := hp.2.1 j j0 j1
    rw [j2] at q
    have w := hw k hk0.1 (by omega)
    rw [← e19] at k3
    refine ⟨M 19 k, by omega, (tz_ln (e4 _) p6 ho).2 ⟨j, j0, j1, q, ?_⟩⟩
    refine (tz_rl hL hs ho hio hb.2.2.2.1 hp j0 j1 (fun w w0 w1 => ?_)).1 (by rw [j2]; exact k4)
    rw [j2, ← e19]
    exact eA _ w w0 w1
theorem tz_brk {f : Int} {M N : jM} {Z : pSt} {h d o r v : Int} (hz : tzOk Z) (hc : cAr f M Z) (hr : rIn M Z) (hf : f = 47 ∨ f = 59) (ho : 0 ≤ o ∧ o ≤ 5) (hb : tzH M h) (hL : tzL M) (h1 : 0 ≤ M 10 h ∧ M 10 h ≤ 5) (h2 : 0 ≤ M 15 h ∧ M 15 h ≤ 3) (h3 : 0 ≤ M 11 h ∧ M 11 h ≤ 3) (hio : ∀ i, M 20 i ≤ M 21 i) (h0 : 0 ≤ M 16 0)
    (hw : ∀ i, 0 ≤ i → i < M 16 0 → M 19 i = -9 ∨ (0 ≤ M 19 i ∧ M 19 i < M 1 0)) (H : wB M N f h d o r) (H' : bMx (rHit M h d o 1) (rHit M h d o 0) (M 74 27) v) : r = v := by
  obtain ⟨P, hp, _, hx⟩ := H
  exact bMx_u (tz_hit hz hc hr hf (Or.inr rfl) ho hb hL h1 h2 h3 hio h0 hw hp) (tz_hit hz hc hr hf (Or.inl rfl) ho hb hL h1 h2 h3 hio h0 hw hp) hx H'
