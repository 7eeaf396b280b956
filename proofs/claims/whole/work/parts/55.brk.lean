/-! ===== breaches ===== -/
def bMx (P2 P1 : Int → Prop) (n v : Int) : Prop :=
  (v = 2 ∧ ∃ x, (0 ≤ x ∧ x < n) ∧ P2 x) ∨ (v = 1 ∧ (∀ x, 0 ≤ x → x < n → ¬ P2 x) ∧ ∃ x, (0 ≤ x ∧ x < n) ∧ P1 x) ∨ (v = 0 ∧ (∀ x, 0 ≤ x → x < n → ¬ P2 x) ∧ ∀ x, 0 ≤ x → x < n → ¬ P1 x)
theorem bMx_in {P2 P1 : Int → Prop} {n v : Int} (h : bMx P2 P1 n v) : 0 ≤ v ∧ v ≤ 2 := by
  rcases h with ⟨h, _⟩ | ⟨h, _⟩ | ⟨h, _⟩ <;> omega
theorem bMx_0 (P2 P1 : Int → Prop) : bMx P2 P1 0 0 := Or.inr (Or.inr ⟨rfl, fun x a b => by omega, fun x a b => by omega⟩)
theorem bMx_two {P2 P1 : Int → Prop} {n x : Int} (h : 0 ≤ x ∧ x < n) (hp : P2 x) : bMx P2 P1 n 2 := Or.inl ⟨rfl, x, h, hp⟩
theorem bMx_one {P2 P1 : Int → Prop} {n v v' : Int} (hn : 0 ≤ n) (H : bMx P2 P1 n v) (h2 : ¬ P2 n) (h1 : P1 n) (hv : v' = max v 1) : bMx P2 P1 (n + 1) v' := by
  have no : (∀ x, 0 ≤ x → x < n → ¬ P2 x) → ∀ x, 0 ≤ x → x < n + 1 → ¬ P2 x := fun z x a b => by
    by_cases e : x = n
    · rw [e]; exact h2
    · exact z x a (by omega)
  rcases H with ⟨h, x, a, b⟩ | ⟨h, a, b⟩ | ⟨h, a, b⟩
  · exact Or.inl ⟨by omega, x, ⟨a.1, by omega⟩, b⟩
  · exact Or.inr (Or.inl ⟨by omega, no a, n, ⟨hn, by omega⟩, h1⟩)
  · exact Or.inr (Or.inl ⟨by omega, no a, n, ⟨hn, by omega⟩, h1⟩)
theorem bMx_no {P2 P1 : Int → Prop} {n v : Int} (H : bMx P2 P1 n v) (h2 : ¬ P2 n) (h1 : ¬ P1 n) : bMx P2 P1 (n + 1) v := by
  have no : ∀ P : Int → Prop, ¬ P n → (∀ x, 0 ≤ x → x < n → ¬ P x) → ∀ x, 0 ≤ x → x < n + 1 → ¬ P x := fun P y z x a b => by
    by_cases e : x = n
    · rw [e]; exact y
    · exact z x a (by omega)
  rcases H with ⟨h, x, a, b⟩ | ⟨h, a, x, b, e⟩ | ⟨h, a, b⟩
  · exact Or.inl ⟨by omega, x, ⟨a.1, by omega⟩, b⟩
  · exact Or.inr (Or.inl ⟨h, no _ h2 a, x, ⟨b.1, by omega⟩, e⟩)
  · exact Or.inr (Or.inr ⟨h, no _ h2 a, no _ h1 b⟩)
theorem bMx_u {P2 P1 P2' P1' : Int → Prop} {n n' v v' : Int} (h2 : (∃ x, (0 ≤ x ∧ x < n) ∧ P2 x) ↔ ∃ x, (0 ≤ x ∧ x < n') ∧ P2' x) (h1 : (∃ x, (0 ≤ x ∧ x < n) ∧ P1 x) ↔ ∃ x, (0 ≤ x ∧ x < n') ∧ P1' x) (H : bMx P2 P1 n v) (H' : bMx P2' P1' n' v') : v = v' := by
  rcases H with ⟨h, a⟩ | ⟨h, a, b⟩ | ⟨h, a, b⟩ <;> rcases H' with ⟨h', a'⟩ | ⟨h', a', b'⟩ | ⟨h', a', b'⟩
  · omega
  · obtain ⟨x, y, z⟩ := h2.1 a
    exact absurd z (a' x y.1 y.2)
  · obtain ⟨x, y, z⟩ := h2.1 a
    exact absurd z (a' x y.1 y.2)
  · obtain ⟨x, y, z⟩ := h2.2 a'
    exact absurd z (a x y.1 y.2)
  · omega
  · obtain ⟨x, y, z⟩ := h1.1 b
    exact absurd z (b' x y.1 y.2)
  · obtain ⟨x, y, z⟩ := h2.2 a'
    exact absurd z (a x y.1 y.2)
  · obtain ⟨x, y, z⟩ := h1.2 b'
    exact absurd z (b x y.1 y.2)
  · omega
theorem bMx_ex (P2 P1 : Int → Prop) (n : Int) : ∃ v, bMx P2 P1 n v := by
  by_cases a : ∃ x, (0 ≤ x ∧ x < n) ∧ P2 x
  · exact ⟨2, Or.inl ⟨rfl, a⟩⟩
  · have a' : ∀ x, 0 ≤ x → x < n → ¬ P2 x := fun x y z w => a ⟨x, ⟨y, z⟩, w⟩
    by_cases b : ∃ x, (0 ≤ x ∧ x < n) ∧ P1 x
    · exact ⟨1, Or.inr (Or.inl ⟨rfl, a', b⟩)⟩
    · exact ⟨0, Or.inr (Or.inr ⟨rfl, a', fun x y z w => b ⟨x, ⟨y, z⟩, w⟩⟩)⟩
/-- a line that breaks, by the reference -/
def rBr (M : jM) (k o s : Int) : Prop :=
  if o = 0 then rD M (M 89 k) (M 91 k) (M 90 k) 0 s (M 74 20).toNat < fWork (M 94) (M 95) (M 96) (M 89) (M 90) (M 91) (M 92) (M 93) (M 89 k) (M 90 k) (1 - s) (M 74 27).toNat
  else if o = 1 then fTruth (M 94) (M 95) (M 96) (M 91 k) (M 92 k) s < rD M (M 89 k) (M 91 k) (M 90 k) 1 s (M 74 20).toNat ∨ rD M (M 89 k) (M 91 k) (M 90 k) 2 s (M 74 20).toNat < fTruth (M 94) (M 95) (M 96) (M 91 k) (M 93 k) (1 - s)
  else if o = 2 then fWork (M 94) (M 95) (M 96) (M 89) (M 90) (M 91) (M 92) (M 93) (M 89 k) (M 90 k) 2 (M 74 27).toNat < rD M (M 89 k) (M 91 k) (M 90 k) 3 s (M 74 20).toNat
  else if o = 3 then rD M (M 89 k) (M 91 k) (M 90 k) 4 s (M 74 20).toNat < fLong (M 94) (M 95) (M 96) (M 91) (M 92) (M 93) k (1 - s)
  else if o = 4 then rD M (M 89 k) (M 91 k) (M 90 k) 5 s (M 74 20).toNat = 1 ∧ M 82 (M 89 k) = 0
  else rD M (M 89 k) (M 91 k) (M 90 k) 6 s (M 74 20).toNat = 1
theorem rBr_nK {M N : jM} (h : nK M N) (k o s : Int) : rBr N k o s ↔ rBr M k o s := by
  unfold rBr
  simp only [rD_nK h, h.1 82 (by decide) (by decide) (by decide), h.1 89 (by decide) (by decide) (by decide), h.1 90 (by decide) (by decide) (by decide), h.1 91 (by decide) (by decide) (by decide), h.1 92 (by decide) (by decide) (by decide), h.1 93 (by decide) (by decide) (by decide), h.1 94 (by decide) (by decide) (by decide), h.1 95 (by decide) (by decide) (by decide), h.1 96 (by decide) (by decide) (by decide), h.2 20 (by decide), h.2 27 (by decide)]
def rHit (M : jM) (h d o s k : Int) : Prop := (M 89 k = h ∧ M 90 k = d) ∧ ¬ M 91 k = -9 ∧ rBr M k o s
theorem rHit_nK {M N : jM} (hk : nK M N) (h d o s : Int) : rHit N h d o s = rHit M h d o s := by
  funext k
  unfold rHit
  rw [rBr_nK hk, hk.1 89 (by decide) (by decide) (by decide), hk.1 90 (by decide) (by decide) (by decide), hk.1 91 (by decide) (by decide) (by decide)]
/-- a mill whose lines break, by the class -/
def cA (N : jM) (f l w : Int) : Int :=
  eFold (decide (w = 0 ∨ w = 2 ∨ w = 4)) (fun k => decide (l ≤ N (f + 11) k ∧ ¬ N (f + 6) (k * 7 + w) = -1)) (fun k => N (f + 6) (k * 7 + w)) (if w = 0 then N f 13 else if w = 2 ∨ w = 4 then 1440 else 0) (N f 0).toNat
def cBrG (P : jM) (A : Int → Int) (h m o l : Int) : Prop :=
  if o = 0 then A 0 < sSum (fun j => pWorked P l j) (P 16 6).toNat
  else if o = 1 then ∃ j, 0 ≤ j ∧ j < P 16 6 ∧ P 22 j = m ∧ ((if l = 2 then P 24 j else P 23 j) < A 1 ∨ A 2 < (if l = 2 then P 25 j else P 26 j))
  else if o = 2 then sSum (fun j => pSchool P j) (P 16 6).toNat < A 3
  else if o = 3 then A 4 < pLongest P m l (P 16 6).toNat
  else if o = 4 then P 11 h = 0 ∧ A 5 = 1
  else A 6 = 1
def cBr (P : jM) (f h d m o l : Int) : Prop := cBrG P (fun w => cD P f h m d w l (P f 0).toNat) h m o l
theorem pLongest_cg {P N : jM} (h22 : N 22 = P 22) (h23 : N 23 = P 23) (h24 : N 24 = P 24) (h25 : N 25 = P 25) (h26 : N 26 = P 26) (m s : Int) : ∀ n : Nat, pLongest N m s n = pLongest P m s n
  | 0 => rfl
  | n + 1 => by
    unfold pLongest pLasts
    rw [pLongest_cg h22 h23 h24 h25 h26 m s n, h22, h23, h24, h25, h26]
theorem cBr_of {P N : jM} {f h d m : Int} (hf : f = 47 ∨ f = 59) (hr : 0 ≤ P f 0) (e1 : N f 13 = fCustom (P 10 h) (P 15 h) (P 11 h)) (e2 : ∀ k, 0 ≤ k → k < P f 0 → N (f + 11) k = cB P f k h m d) (hk : kA f P N) (o l : Int) : cBrG N (cA N f l) h m o l ↔ cBr P f h d m o l := by
  have ea : cA N f l = fun w => cD P f h m d w l (P f 0).toNat := funext (fun w => cD_of hf hr e1 e2 hk w l)
  have k16 := hk.1 16 (by omega) (by omega) (by omega)
  have k22 := hk.1 22 (by omega) (by omega) (by omega)
  have k23 := hk.1 23 (by omega) (by omega) (by omega)
  have k24 := hk.1 24 (by omega) (by omega) (by omega)
  have k25 := hk.1 25 (by omega) (by omega) (by omega)
  have k26 := hk.1 26 (by omega) (by omega) (by omega)
  have k11 := hk.1 11 (by omega) (by omega) (by omega)
  unfold cBr
  rw [ea]
  unfold cBrG pWorked pSchool pLasts
  rw [pLongest_cg k22 k23 k24 k25 k26, k16, k22, k23, k24, k25, k26, k11]
def cHit (P : jM) (f h d o l x : Int) : Prop := (∃ j, 0 ≤ j ∧ j < P 16 6 ∧ P 22 j = x) ∧ cBr P f h d x o l
theorem pRg_kA {P N : jM} {f : Int} (hf : f = 47 ∨ f = 59) (hk : kA f P N) (h : pRg P) : pRg N := by
  unfold pRg at h ⊢
  rw [hk.1 16 (by omega) (by omega) (by omega), hk.1 22 (by omega) (by omega) (by omega), hk.1 23 (by omega) (by omega) (by omega), hk.1 24 (by omega) (by omega) (by omega), hk.1 25 (by omega) (by omega) (by omega), hk.1 26 (by omega) (by omega) (by omega)]
  exact h
theorem cAct_fr {M N : jM} {f : Int} (h0 : N f 0 = M f 0) (h1 : N (f + 1) = M (f + 1)) (h7 : N (f + 7) = M (f + 7)) (h8 : N (f + 8) = M (f + 8)) (h9 : N (f + 9) = M (f + 9)) (h : cAct M f) : cAct N f := by
  unfold cAct cRow0 at h ⊢
  rw [h0, h1, h7, h8, h9]
  exact h
theorem cAct_kA {M N : jM} {f : Int} (hk : kA f M N) (h : cAct M f) : cAct N f :=
  cAct_fr (hk.2 0 (by decide)) (hk.1 _ (by omega) (by omega) (by omega)) (hk.1 _ (by omega) (by omega) (by omega)) (hk.1 _ (by omega) (by omega) (by omega)) (hk.1 _ (by omega) (by omega) (by omega)) h
/-- the first bench that may sit -/
def bF (kn : Int → Int) (o n r : Int) : Prop := (0 ≤ r ∧ r ≤ n) ∧ (∀ j, 0 ≤ j → j < r → jand (jshr (kn j) o) 1 = 1) ∧ (r < n → jand (jshr (kn r) o) 1 = 0)
theorem bF_u {kn kn' : Int → Int} {o n r r' : Int} (he : kn = kn') (h : bF kn o n r) (h' : bF kn' o n r') : r = r' := by
  subst he
  rcases Int.lt_trichotomy r r' with a | a | a
  · have x := h'.2.1 r h.1.1 a
    have y := h.2.2 (by have := h'.1.2; omega)
    omega
  · exact a
  · have x := h.2.1 r' h'.1.1 a
    have y := h'.2.2 (by have := h.1.2; omega)
    omega
theorem jbit01 {x k : Int} (hx : 0 ≤ x ∧ x ≤ 1023) (hk : 0 ≤ k ∧ k ≤ 9) : jand (jshr x k) 1 = 0 ∨ jand (jshr x k) 1 = 1 := by
  rw [jbit ⟨by omega, by omega⟩ ⟨by omega, by omega⟩]
  split
  · exact Or.inr rfl
  · exact Or.inl rfl
def cBk (f : Int) (N : jM) (h m o l : Int) : Prop := cBrG N (cA N f l) h m o l
def lvAt (P : jM) (m s a b r : Int) : Prop := (r = 1 ∧ ∃ j, 0 ≤ j ∧ j < P 16 6 ∧ P 22 j = m ∧ ((if s = 2 then P 24 j else P 23 j) < a ∨ b < (if s = 2 then P 25 j else P 26 j))) ∨ (r = 0 ∧ ¬ ∃ j, 0 ≤ j ∧ j < P 16 6 ∧ P 22 j = m ∧ ((if s = 2 then P 24 j else P 23 j) < a ∨ b < (if s = 2 then P 25 j else P 26 j)))
def pkAt (P : jM) (m r : Int) : Prop := (r = 1 ∧ ∃ j, 0 ≤ j ∧ j < P 16 6 ∧ P 22 j = m) ∨ (r = 0 ∧ ¬ ∃ j, 0 ≤ j ∧ j < P 16 6 ∧ P 22 j = m)
theorem pkAt_in {P : jM} {m r : Int} (h : pkAt P m r) : r = 0 ∨ r = 1 := h.elim (fun z => Or.inr z.1) (fun z => Or.inl z.1)
theorem pkAt_yes {P : jM} {m r : Int} (h : pkAt P m r) (hr : ¬ r = 0) : ∃ j, 0 ≤ j ∧ j < P 16 6 ∧ P 22 j = m := h.elim (fun z => z.2) (fun z => absurd z.1 hr)
theorem pkAt_no {P : jM} {m r : Int} (h : pkAt P m r) (hr : r = 0) : ¬ ∃ j, 0 ≤ j ∧ j < P 16 6 ∧ P 22 j = m := h.elim (fun z => by have := z.1; omega) (fun z => z.2)
theorem cB_kA {P N : jM} {f : Int} (hf : f = 47 ∨ f = 59) (hk : kA f P N) (k h m d : Int) : cB N f k h m d = cB P f k h m d := by
  unfold cB
  rw [hk.1 (f + 2) (by omega) (by omega) (by omega), hk.1 (f + 3) (by omega) (by omega) (by omega), hk.1 (f + 4) (by omega) (by omega) (by omega), hk.1 (f + 7) (by omega) (by omega) (by omega), hk.1 (f + 8) (by omega) (by omega) (by omega), hk.1 (f + 9) (by omega) (by omega) (by omega), hk.1 12 (by omega) (by omega) (by omega), hk.1 13 (by omega) (by omega) (by omega), hk.1 10 (by omega) (by omega) (by omega), hk.1 2 (by omega) (by omega) (by omega), hk.1 11 (by omega) (by omega) (by omega)]
def wB (M N : jM) (f h d o r : Int) : Prop := ∃ P, pPicked M P h d (M 16 0).toNat ∧ kA f P N ∧ bMx (cHit P f h d o 2) (cHit P f h d o 1) (M 1 0) r
def kS (f : Int) (M N : jM) : Prop := (∀ c, c ≠ 16 → c ≠ 22 → c ≠ 23 → c ≠ 24 → c ≠ 25 → c ≠ 26 → c ≠ f → c ≠ f + 10 → c ≠ f + 11 → N c = M c) ∧ (∀ k, k ≠ 6 → N 16 k = M 16 k) ∧ ∀ k, k ≠ 13 → N f k = M f k
theorem kS_rf (f : Int) (M : jM) : kS f M M := ⟨fun _ _ _ _ _ _ _ _ _ _ => rfl, fun _ _ => rfl, fun _ _ => rfl⟩
theorem wB_kS {M N : jM} {f h d o r : Int} (hf : f = 47 ∨ f = 59) (H : wB M N f h d o r) : kS f M N := by
  obtain ⟨P, hp, hk, _⟩ := H
  refine ⟨fun c a1 a2 a3 a4 a5 a6 b1 b2 b3 => ?_, fun k a => ?_, fun k a => ?_⟩
  · rw [hk.1 c b1 b2 b3]
    exact hp.2.2.2.2.2.2.1 c a1 a2 a3 a4 a5 a6
  · rw [hk.1 16 (by omega) (by omega) (by omega)]
    exact hp.2.2.2.2.2.2.2 k a
  · rw [hk.2 k a, hp.2.2.2.2.2.2.1 f (by omega) (by omega) (by omega) (by omega) (by omega) (by omega)]
theorem sSel_sur {lh ld : Int → Int} {h d : Int} : ∀ (n : Nat) (k : Int), 0 ≤ k → k < n → lh k = h → ld k = d → ∃ j, 0 ≤ j ∧ j < sCnt lh ld h d n ∧ sSel lh ld h d n j = k
  | 0, k, a, b, _, _ => by omega
  | n + 1, k, a, b, e1, e2 => by
    have hc := sCnt_in lh ld h d n
    by_cases hk : k = n
    · subst hk
      refine ⟨sCnt lh ld h d n, hc.1, by rw [sCnt_yes ⟨e1, e2⟩]; omega, sSel_at ⟨e1, e2⟩⟩
    · obtain ⟨j, j0, j1, j2⟩ := sSel_sur n k a (by omega) e1 e2
      refine ⟨j, j0, ?_, by rw [sSel_lt j1]; exact j2⟩
      by_cases hm : lh n = h ∧ ld n = d
      · rw [sCnt_yes hm]; omega
      · rw [sCnt_no hm]; exact j1
def sThere (lh ld lw : Int → Int) (n h d m : Int) : Prop := ∃ k, (0 ≤ k ∧ k < n) ∧ (lh k = h ∧ ld k = d) ∧ lw k = m
theorem there_pk {M P : jM} {h d m : Int} (h0 : 0 ≤ M 16 0) (hp : pPicked M P h d (M 16 0).toNat) : (∃ j, 0 ≤ j ∧ j < P 16 6 ∧ P 22 j = m) ↔ sThere (M 17) (M 18) (M 19) (M 16 0) h d m := by
  constructor
  · rintro ⟨j, j0, j1, j2⟩
    have e := hp.2.1 j j0 j1
    rw [hp.1] at j1
    have s := sSel_in (M 17) (M 18) h d (M 16 0).toNat j j0 j1
    exact ⟨_, ⟨s.1, by omega⟩, ⟨s.2.2.1, s.2.2.2⟩, by rw [← e]; exact j2⟩
  · rintro ⟨k, k0, k1, k2⟩
    obtain ⟨j, j0, j1, j2⟩ := sSel_sur (M 16 0).toNat k k0.1 (by omega) k1.1 k1.2
    rw [← hp.1] at j1
    exact ⟨j, j0, j1, by rw [hp.2.1 j j0 j1, j2]; exact k2⟩
def sAns (pl st full : Prop) (n r : Int) : Prop := (¬ pl ∧ r = -1) ∨ (pl ∧ ¬ st ∧ r = -2) ∨ (pl ∧ st ∧ full ∧ r = -3) ∨ (pl ∧ st ∧ ¬ full ∧ r = n)
theorem sAns_u {pl st full pl' st' full' : Prop} {n n' r r' : Int} (h1 : pl ↔ pl') (h2 : pl → (st ↔ st')) (h3 : full ↔ full') (h4 : n = n') (h : sAns pl st full n r) (h' : sAns pl' st' full' n' r') : r = r' := by
  unfold sAns at h h'
  rw [← h1, ← h3, ← h4] at h'
  rcases h with ⟨a, b⟩ | ⟨a, b, c⟩ | ⟨a, b, c, e⟩ | ⟨a, b, c, e⟩ <;> rcases h' with ⟨a', b'⟩ | ⟨a', b', c'⟩ | ⟨a', b', c', e'⟩ | ⟨a', b', c', e'⟩ <;> first
    | omega
    | exact absurd a a'
    | exact absurd a' a
    | exact absurd ((h2 a).1 b) b'
    | exact absurd ((h2 a).2 b') b
    | exact absurd c c'
    | exact absurd c' c
theorem jor01 {x y : Int} (hx : x = 0 ∨ x = 1) (hy : y = 0 ∨ y = 1) : (jor x y = 0 ∧ x = 0 ∧ y = 0) ∨ (jor x y = 1 ∧ (x = 1 ∨ y = 1)) := by
  rcases hx with rfl | rfl <;> rcases hy with rfl | rfl <;> decide
