/-! ===== DUTIES on the reference's side ===== -/
def rRw (g : Int → Int) (a : Int) (t : Int → Int) : Prop := ∀ w, 0 ≤ w → w ≤ 6 → g (a + 6 + w) = t w
def ruF (a : Int) (M N : jM) : Prop := (∀ c, c ≠ 74 → c ≠ 85 → N c = M c) ∧ (∀ k, k ≠ 15 → k ≠ 16 → k ≠ 17 → k ≠ 18 → k ≠ 19 → N 74 k = M 74 k) ∧ ∀ j, j < a + 5 ∨ a + 12 < j → N 85 j = M 85 j
theorem ruF_rf (a : Int) (M : jM) : ruF a M M := ⟨fun _ _ _ => rfl, fun _ _ _ _ _ _ => rfl, fun _ _ => rfl⟩
theorem ruF_tr {a : Int} {M N O : jM} (h : ruF a M N) (h' : ruF a N O) : ruF a M O := ⟨fun c x y => (h'.1 c x y).trans (h.1 c x y), fun k x1 x2 x3 x4 x5 => (h'.2.1 k x1 x2 x3 x4 x5).trans (h.2.1 k x1 x2 x3 x4 x5), fun j x => (h'.2.2 j x).trans (h.2.2 j x)⟩
theorem ruF_2 {a : Int} {M N : jM} (h : rF2 M N) : ruF a M N := ⟨fun c x _ => h.1 c x, h.2, fun j _ => by rw [h.1 85 (by decide)]⟩
theorem ruF_85 {a k v : Int} {M : jM} (h : a + 5 ≤ k ∧ k ≤ a + 12) : ruF a M (jup M 85 k v) := ⟨fun c _ x => jup_cell x, fun k' _ _ _ _ _ => jup_cellk (by decide), fun j x => jup_ne (by omega)⟩
theorem rP_85 {b : Int → Int} {M : jM} {s k v : Int} (h : rP b M s) : rP b (jup M 85 k v) s := rP_cg h (jup_cell (by decide)) (fun j _ => jup_cellk (by decide))
theorem rRw_2 {M N : jM} {a : Int} {t : Int → Int} (h : rRw (M 85) a t) (hf : rF2 M N) : rRw (N 85) a t := by rw [hf.1 85 (by decide)]; exact h
theorem rRw_up {M : jM} {a w v k : Int} {t : Int → Int} (h : rRw (M 85) a t) (hk : k = a + 6 + w) : rRw (jup M 85 k v 85) a (tUp t w v) := by
  intro j j0 j1
  rw [jup_at]
  unfold tUp
  by_cases e : j = w
  · rw [if_pos (by omega), if_pos e]
  · rw [if_neg (by omega), if_neg e]
    exact h j j0 j1
theorem nV_in (b : Int → Int) {lo hi s : Int} (h : 0 ≤ hi) (h2 : 0 ≤ lo) : 0 ≤ nV b lo hi s ∧ nV b lo hi s ≤ hi := by
  unfold nV
  split <;> omega
def whD (b : Int → Int) (s v k : Int) : Prop := (v = 5 ∧ k = 6 ∧ pDw b s = 0) ∨ (v = 6 ∧ k = 7 ∧ pDw b s = 1) ∨ (v = 8 ∧ k = 9 ∧ pDw b s = 3) ∨ (v = 9 ∧ k = 10 ∧ pDw b s = 4) ∨ (v = 10 ∧ k = 11 ∧ pDw b s = 5) ∨ (v = 11 ∧ k = 12 ∧ pDw b s = 6) ∨ (k = -1 ∧ pDw b s = -9)
theorem whD_in {b : Int → Int} {s v k : Int} (h : whD b s v k) : (k = -1 ∧ pDw b s = -9) ∨ ((6 ≤ k ∧ k ≤ 12) ∧ k = 6 + pDw b s ∧ lK b s = 1) := by
  have := pDw_in b s
  unfold whD at h
  omega
def ruA (b : Int → Int) (a : Int) (N : jM) (R : Int × (Int → Int) × Nat) (v3 v4 s : Int) (t : Int → Int) (m : Nat) : Prop := (v3 = (m : Int) ∧ m ≤ 4 ∧ v4 = 1) ∧ 0 ≤ s ∧ rP b N s ∧ tOk t ∧ rRw (N 85) a t ∧ pDu b (4 - m) s t m = R
def ruE (b : Int → Int) (a : Int) (N : jM) (R : Int × (Int → Int) × Nat) (v3 v4 s : Int) : Prop := rP b N s ∧ tkS b 59 s = R.1 ∧ (v4 = 0 ∨ s < 0) ∧ (0 ≤ v3 ∧ v3 ≤ 5) ∧ (0 ≤ R.1 → rRw (N 85) a R.2.1 ∧ v3 = (R.2.2 : Int))
def ruI (b : Int → Int) (a : Int) (M N : jM) (R : Int × (Int → Int) × Nat) (v3 v4 : Int) : Prop := ((∃ s t m, ruA b a N R v3 v4 s t m) ∨ ∃ s, ruE b a N R v3 v4 s) ∧ ruF a M N
theorem ruI_act {b : Int → Int} {a : Int} {M N : jM} {R : Int × (Int → Int) × Nat} {v3 v4 : Int} (h : ruI b a M N R v3 v4) (h4 : ¬ v4 = 0) (h19 : N 74 19 < 0) : ∃ s t m, ruA b a N R v3 v4 s t m := by
  rcases h.1 with z | ⟨s, z1, z2, z3, _⟩
  · exact z
  · have := (rP_19 z1).1 h19
    omega
theorem ruI_end {b : Int → Int} {a : Int} {M N : jM} {R : Int × (Int → Int) × Nat} {v3 v4 : Int} (h : ruI b a M N R v3 v4) (h4 : v4 = 0 ∨ ¬ N 74 19 < 0) : ∃ s, ruE b a N R v3 v4 s := by
  rcases h.1 with ⟨s, t, m, z⟩ | z
  · obtain ⟨z4, z0, zp, _⟩ := z
    rcases h4 with y | y
    · omega
    · exact absurd ((rP_19 zp).2 z0) y
  · exact z
def ruP (b : Int → Int) (a : Int) (M N : jM) (R : Int × (Int → Int) × Nat) : Prop := (∃ s, rP b N s ∧ tkS b 59 s = R.1) ∧ (0 ≤ R.1 → rRw (N 85) a R.2.1 ∧ N 85 (a + 5) = (R.2.2 : Int)) ∧ ruF a M N
theorem ruP_of {b : Int → Int} {a v3 v4 k : Int} {M N : jM} {R : Int × (Int → Int) × Nat} (h : ruI b a M N R v3 v4) (h4 : v4 = 0 ∨ ¬ N 74 19 < 0) (hk : k = a + 5) : ruP b a M (jup N 85 k v3) R := by
  obtain ⟨s, h1, h2, h3, h5, h6⟩ := ruI_end h h4
  subst hk
  refine ⟨⟨s, rP_85 h1, h2⟩, fun z => ⟨fun w w0 w1 => ?_, ?_⟩, ruF_tr h.2 (ruF_85 (by omega))⟩
  · rw [jup_at, if_neg (by omega)]
    exact (h6 z).1 w w0 w1
  · rw [jup_self]
    exact (h6 z).2
/-- one DUTY is behind: a comma or not -/
theorem pDu_c {b : Int → Int} {m : Nat} {s : Int} {t : Int → Int} {R : Int × (Int → Int) × Nat} (hm : m < 4) (hR : pDu b (4 - m) s t m = R) (h0 : 0 ≤ pD1 b s t) : ((lK b (pD1 b s t) = 3 ∧ lV b (pD1 b s t) = 44) → pDu b (4 - (m + 1)) (lNx b (pD1 b s t)) (pBt b (pDw b s) (lNx b s) t) (m + 1) = R) ∧ (¬ (lK b (pD1 b s t) = 3 ∧ lV b (pD1 b s t) = 44) → (tkS b 59 (pD1 b s t), pBt b (pDw b s) (lNx b s) t, m + 1) = R) := by
  rw [show 4 - m = (4 - (m + 1)) + 1 by omega, pDu, if_neg (by omega)] at hR
  exact ⟨fun z => by rw [if_pos z] at hR; exact hR, fun z => by rw [if_neg z] at hR; exact hR⟩
theorem pDu_n {b : Int → Int} {m : Nat} {s : Int} {t : Int → Int} {R : Int × (Int → Int) × Nat} (hm : m ≤ 4) (hR : pDu b (4 - m) s t m = R) (h0 : pD1 b s t < 0 ∨ m = 4) : R.1 = (if m = 4 then fl s else pD1 b s t) := by
  by_cases h4 : m = 4
  · subst h4
    rw [if_pos rfl, ← hR]
    rfl
  · rw [if_neg h4]
    rw [show 4 - m = (4 - (m + 1)) + 1 by omega, pDu, if_pos (by omega)] at hR
    rw [← hR]
theorem ruI_v {b : Int → Int} {a : Int} {M N : jM} {R : Int × (Int → Int) × Nat} {v3 v4 : Int} (h : ruI b a M N R v3 v4) : 0 ≤ v3 ∧ v3 ≤ 5 := by
  rcases h.1 with ⟨s, t, m, z, _⟩ | ⟨s, _, _, _, z, _⟩
  · omega
  · exact z
theorem pDw_v {b : Int → Int} {s : Int} (h : lK b s = 1) : pDw b s = dWd (lV b s) := by unfold pDw; rw [if_pos h]
theorem pDw_n {b : Int → Int} {s : Int} (h : ¬ lK b s = 1) : pDw b s = -9 := by unfold pDw; rw [if_neg h]
theorem whD_of {b : Int → Int} {s x y v k : Int} (h16 : x = lK b s) (h18 : 1 ≤ lK b s → lK b s ≤ 3 → y = lV b s) (e5 : (x = 1 ∧ v = y) ∨ (¬ x = 1 ∧ v = -1)) (e6 : (v = 5 ∧ k = 6) ∨ (v = 6 ∧ k = 7) ∨ (v = 8 ∧ k = 9) ∨ (v = 9 ∧ k = 10) ∨ (v = 10 ∧ k = 11) ∨ (v = 11 ∧ k = 12) ∨ (k = -1 ∧ ¬ v = 5 ∧ ¬ v = 6 ∧ ¬ v = 8 ∧ ¬ v = 9 ∧ ¬ v = 10 ∧ ¬ v = 11)) : whD b s v k := by
  have go : ∀ c d : Int, v = c → 0 ≤ c → dWd c = d → pDw b s = d := fun c d hv hc hd => by
    have h1 : lK b s = 1 := by omega
    have h2 := h18 (by omega) (by omega)
    rw [pDw_v h1, show lV b s = c by omega, hd]
  unfold whD
  rcases e6 with ⟨a, c⟩ | ⟨a, c⟩ | ⟨a, c⟩ | ⟨a, c⟩ | ⟨a, c⟩ | ⟨a, c⟩ | ⟨c, a1, a2, a3, a4, a5, a6⟩
  · exact Or.inl ⟨a, c, go 5 0 a (by omega) rfl⟩
  · exact Or.inr (Or.inl ⟨a, c, go 6 1 a (by omega) rfl⟩)
  · exact Or.inr (Or.inr (Or.inl ⟨a, c, go 8 3 a (by omega) rfl⟩))
  · exact Or.inr (Or.inr (Or.inr (Or.inl ⟨a, c, go 9 4 a (by omega) rfl⟩)))
  · exact Or.inr (Or.inr (Or.inr (Or.inr (Or.inl ⟨a, c, go 10 5 a (by omega) rfl⟩))))
  · exact Or.inr (Or.inr (Or.inr (Or.inr (Or.inr (Or.inl ⟨a, c, go 11 6 a (by omega) rfl⟩)))))
  · refine Or.inr (Or.inr (Or.inr (Or.inr (Or.inr (Or.inr ⟨c, ?_⟩)))))
    by_cases h1 : lK b s = 1
    · have h2 := h18 (by omega) (by omega)
      rw [pDw_v h1]
      unfold dWd
      rw [if_neg (by omega), if_neg (by omega), if_neg (by omega), if_neg (by omega), if_neg (by omega), if_neg (by omega)]
    · exact pDw_n h1
