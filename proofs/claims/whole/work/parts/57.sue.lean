/-! ===== cases ===== -/
theorem wB_rg {M N : jM} {f h d o r : Int} (hf : f = 47 ∨ f = 59) (H : wB M N f h d o r) (h0 : M 16 0 ≤ 60) (hw : ∀ i, M 19 i = -9 ∨ (0 ≤ M 19 i ∧ M 19 i < 6)) (he : ∀ i, -90 ≤ M 8 i ∧ M 8 i ≤ 90) (hi : ∀ i, 0 ≤ M 20 i ∧ M 20 i ≤ 1439) (ho : ∀ i, 0 ≤ M 21 i ∧ M 21 i ≤ 1440) : pRg N := by
  obtain ⟨P, hp, hk, _⟩ := H
  exact pRg_kA hf hk (hp.rg (by omega) hw he hi ho)
theorem wB_th {M N : jM} {f h d o r m t : Int} (hf : f = 47 ∨ f = 59) (H : wB M N f h d o r) (h0 : 0 ≤ M 16 0) (hp : pkAt N m t) : (t = 1 ∧ sThere (M 17) (M 18) (M 19) (M 16 0) h d m) ∨ (t = 0 ∧ ¬ sThere (M 17) (M 18) (M 19) (M 16 0) h d m) := by
  obtain ⟨P, hq, hk, _⟩ := H
  rw [← there_pk h0 hq]
  unfold pkAt at hp
  rw [hk.1 16 (by omega) (by omega) (by omega), hk.1 22 (by omega) (by omega) (by omega)] at hp
  exact hp
abbrev suPl (nh nm m h d o : Int) : Prop := (0 ≤ h ∧ h < nh ∧ 0 ≤ m ∧ m < nm ∧ 0 ≤ d ∧ d ≤ 359) ∧ 0 ≤ o ∧ o ≤ 5
def suUp (P : jM) (n m h o b : Int) : jM := jup (jup (jup (jup (jup (jup P 40 n m) 43 n h) 41 n o) 39 n b) 42 n 1) 36 3 (n + 1)
def sueC (M N : jM) (f m h d o r : Int) : Prop := ∃ b P v, (suPl (M 9 0) (M 1 0) m h d o → bF (M 37) (M 3 m) (M 36 0) b) ∧ ((suPl (M 9 0) (M 1 0) m h d o ∧ b < M 36 0) → wB M P f h d o v) ∧ (¬ (suPl (M 9 0) (M 1 0) m h d o ∧ b < M 36 0) → P = M) ∧
  sAns (suPl (M 9 0) (M 1 0) m h d o) (b < M 36 0 ∧ v = 2 ∧ sThere (M 17) (M 18) (M 19) (M 16 0) h d m) (M 36 3 = 20) (M 36 3) r ∧ ((r < 0 ∧ N = P) ∨ (0 ≤ r ∧ N = suUp P (M 36 3) m h o b))
theorem sueC_bad {M : jM} {f m h d o : Int} (hp : ¬ suPl (M 9 0) (M 1 0) m h d o) : sueC M M f m h d o (-1) :=
  ⟨0, M, 0, fun z => absurd z hp, fun z => absurd z.1 hp, fun _ => rfl, Or.inl ⟨hp, rfl⟩, Or.inl ⟨by omega, rfl⟩⟩
theorem sueC_nob {M : jM} {f m h d o b : Int} (hp : suPl (M 9 0) (M 1 0) m h d o) (hb : bF (M 37) (M 3 m) (M 36 0) b) (he : b = M 36 0) : sueC M M f m h d o (-2) :=
  ⟨b, M, 0, fun _ => hb, fun z => by have := z.2; omega, fun _ => rfl, Or.inr (Or.inl ⟨hp, fun z => by have := z.1; omega, rfl⟩), Or.inl ⟨by omega, rfl⟩⟩
theorem sueC_no {M P : jM} {f m h d o b v : Int} (hp : suPl (M 9 0) (M 1 0) m h d o) (hb : bF (M 37) (M 3 m) (M 36 0) b) (he : b < M 36 0) (hw : wB M P f h d o v) (hn : ¬ (v = 2 ∧ sThere (M 17) (M 18) (M 19) (M 16 0) h d m)) : sueC M P f m h d o (-2) :=
  ⟨b, P, v, fun _ => hb, fun _ => hw, fun z => absurd ⟨hp, he⟩ z, Or.inr (Or.inl ⟨hp, fun z => hn z.2, rfl⟩), Or.inl ⟨by omega, rfl⟩⟩
theorem sueC_yes {M P N : jM} {f m h d o b v r : Int} (hp : suPl (M 9 0) (M 1 0) m h d o) (hb : bF (M 37) (M 3 m) (M 36 0) b) (he : b < M 36 0) (hw : wB M P f h d o v) (hn : v = 2 ∧ sThere (M 17) (M 18) (M 19) (M 16 0) h d m) (h0 : 0 ≤ M 36 3) (hr : (M 36 3 = 20 ∧ r = -3 ∧ N = P) ∨ (¬ M 36 3 = 20 ∧ r = M 36 3 ∧ N = suUp P (M 36 3) m h o b)) : sueC M N f m h d o r := by
  refine ⟨b, P, v, fun _ => hb, fun _ => hw, fun z => absurd ⟨hp, he⟩ z, ?_, ?_⟩
  · rcases hr with ⟨a, b', _⟩ | ⟨a, b', _⟩
    · exact Or.inr (Or.inr (Or.inl ⟨hp, ⟨he, hn⟩, a, b'⟩))
    · exact Or.inr (Or.inr (Or.inr ⟨hp, ⟨he, hn⟩, a, b'⟩))
  · rcases hr with ⟨a, b', c⟩ | ⟨a, b', c⟩
    · exact Or.inl ⟨by omega, c⟩
    · exact Or.inr ⟨by omega, c⟩
/-! the reference's -/
def suUr (P : jM) (n m h o b : Int) : jM := jup (jup (jup (jup (jup (jup P 101 n m) 102 n h) 103 n o) 104 n b) 105 n 1) 74 41 (n + 1)
def sueR (M N : jM) (m h d o r : Int) : Prop := ∃ b v K, (suPl (M 74 8) (M 74 3) m h d o → bF (M 99) (M 77 m) (M 74 38) b) ∧ (suPl (M 74 8) (M 74 3) m h d o → bMx (rHit M h d o 1) (rHit M h d o 0) (M 74 27) v) ∧ nK M K ∧
  sAns (suPl (M 74 8) (M 74 3) m h d o) (b < M 74 38 ∧ v = 2 ∧ sThere (M 89) (M 90) (M 91) (M 74 27) h d m) (M 74 41 = 20) (M 74 41) r ∧ ((r < 0 ∧ N = K) ∨ (0 ≤ r ∧ N = suUr K (M 74 41) m h o b))
theorem sueR_bad {M K : jM} {m h d o : Int} (hk : nK M K) (hp : ¬ suPl (M 74 8) (M 74 3) m h d o) : sueR M K m h d o (-1) :=
  ⟨0, 0, K, fun z => absurd z hp, fun z => absurd z hp, hk, Or.inl ⟨hp, rfl⟩, Or.inl ⟨by omega, rfl⟩⟩
theorem sueR_no {M K : jM} {m h d o b v : Int} (hk : nK M K) (hp : suPl (M 74 8) (M 74 3) m h d o) (hb : bF (M 99) (M 77 m) (M 74 38) b) (hv : bMx (rHit M h d o 1) (rHit M h d o 0) (M 74 27) v) (hn : ¬ (b < M 74 38 ∧ v = 2 ∧ sThere (M 89) (M 90) (M 91) (M 74 27) h d m)) : sueR M K m h d o (-2) :=
  ⟨b, v, K, fun _ => hb, fun _ => hv, hk, Or.inr (Or.inl ⟨hp, hn, rfl⟩), Or.inl ⟨by omega, rfl⟩⟩
theorem sueR_no' {M K : jM} {m h d o b : Int} (hk : nK M K) (hp : suPl (M 74 8) (M 74 3) m h d o) (hb : bF (M 99) (M 77 m) (M 74 38) b) (hn : ¬ b < M 74 38 ∨ ¬ sThere (M 89) (M 90) (M 91) (M 74 27) h d m) : sueR M K m h d o (-2) := by
  obtain ⟨v, hv⟩ := bMx_ex (rHit M h d o 1) (rHit M h d o 0) (M 74 27)
  exact sueR_no hk hp hb hv (fun z => hn.elim (fun y => y z.1) (fun y => y z.2.2))
theorem sueR_yes {M K N : jM} {m h d o b v r : Int} (hk : nK M K) (hp : suPl (M 74 8) (M 74 3) m h d o) (hb : bF (M 99) (M 77 m) (M 74 38) b) (hv : bMx (rHit M h d o 1) (rHit M h d o 0) (M 74 27) v) (hs : b < M 74 38 ∧ v = 2 ∧ sThere (M 89) (M 90) (M 91) (M 74 27) h d m) (h0 : 0 ≤ M 74 41) (hr : (M 74 41 = 20 ∧ r = -3 ∧ N = K) ∨ (¬ M 74 41 = 20 ∧ r = M 74 41 ∧ N = suUr K (M 74 41) m h o b)) : sueR M N m h d o r := by
  refine ⟨b, v, K, fun _ => hb, fun _ => hv, hk, ?_, ?_⟩
  · rcases hr with ⟨a, b', _⟩ | ⟨a, b', _⟩
    · exact Or.inr (Or.inr (Or.inl ⟨hp, hs, a, b'⟩))
    · exact Or.inr (Or.inr (Or.inr ⟨hp, hs, a, b'⟩))
  · rcases hr with ⟨a, b', c⟩ | ⟨a, b', c⟩
    · exact Or.inl ⟨by omega, c⟩
    · exact Or.inr ⟨by omega, c⟩
def thAt (lh ld lw : Int → Int) (n h d m r : Int) : Prop := (r = 1 ∧ sThere lh ld lw n h d m) ∨ (r = 0 ∧ ¬ sThere lh ld lw n h d m)
theorem thAt_in {lh ld lw : Int → Int} {n h d m r : Int} (H : thAt lh ld lw n h d m r) : r = 0 ∨ r = 1 := H.elim (fun z => Or.inr z.1) (fun z => Or.inl z.1)
theorem thAt_0 (lh ld lw : Int → Int) (h d m : Int) : thAt lh ld lw 0 h d m 0 := Or.inr ⟨rfl, fun ⟨k, a, _⟩ => by omega⟩
theorem thAt_s {lh ld lw : Int → Int} {n h d m r t r' : Int} (hn : 0 ≤ n) (H : thAt lh ld lw n h d m r) (ht : (t = 1 ∧ (lh n = h ∧ ld n = d) ∧ lw n = m) ∨ (t = 0 ∧ ¬ ((lh n = h ∧ ld n = d) ∧ lw n = m))) (hr : (r' = 0 ∧ r = 0 ∧ t = 0) ∨ (r' = 1 ∧ (r = 1 ∨ t = 1))) : thAt lh ld lw (n + 1) h d m r' := by
  have up : sThere lh ld lw n h d m → sThere lh ld lw (n + 1) h d m := fun ⟨k, a, b⟩ => ⟨k, ⟨a.1, by omega⟩, b⟩
  rcases hr with ⟨a, b, c⟩ | ⟨a, b⟩
  · refine Or.inr ⟨a, fun ⟨k, y, z⟩ => ?_⟩
    rcases H with ⟨x, _⟩ | ⟨_, x⟩
    · omega
    · rcases ht with ⟨w, _⟩ | ⟨_, w⟩
      · omega
      · by_cases e : k = n
        · rw [e] at z; exact w z
        · exact x ⟨k, ⟨y.1, by omega⟩, z⟩
  · refine Or.inl ⟨a, ?_⟩
    rcases H with ⟨_, x⟩ | ⟨x, _⟩
    · exact up x
    · rcases ht with ⟨_, w⟩ | ⟨w, _⟩
      · exact ⟨n, ⟨hn, by omega⟩, w⟩
      · omega
theorem thAt_yes {lh ld lw : Int → Int} {n h d m r : Int} (H : thAt lh ld lw n h d m r) (hr : ¬ r = 0) : sThere lh ld lw n h d m := H.elim (fun z => z.2) (fun z => absurd z.1 hr)
theorem thAt_no {lh ld lw : Int → Int} {n h d m r : Int} (H : thAt lh ld lw n h d m r) (hr : r = 0) : ¬ sThere lh ld lw n h d m := H.elim (fun z => by have := z.1; omega) (fun z => z.2)
