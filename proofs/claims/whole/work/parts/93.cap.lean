/-! ===== what act() of the class leaves ===== -/
def caP (b : Int → Int) (f g : Int) (M N : jM) (r : Int) : Prop :=
  (((pTxt b).1 < 0 ∧ r = -9 + (pTxt b).1 ∧ N 0 = M 0 ∧ N 71 0 = M 71 0) ∨ (0 ≤ (pTxt b).1 ∧ r = (pTxt b).2.1 ∧ cAr g N (pTxt b) ∧ N 0 7 = g ∧ N 0 8 = f ∧ (∀ k, k ≠ 7 → k ≠ 8 → N 0 k = M 0 k) ∧ N 71 0 = 0)) ∧
  (∀ c, c ≠ 0 → c ≠ 71 → c ≠ 73 → (c < g ∨ g + 9 < c) → N c = M c) ∧ ∀ k, k ≠ 0 → k ≠ 9 → N g k = M g k
theorem cAr_cg {g : Int} {M N : jM} {A : pSt} (h : cAr g M A) (hc : ∀ c, g ≤ c → c ≤ g + 9 → N c = M c) : cAr g N A := by
  unfold cAr cRw cTw at h ⊢
  rw [hc g (by omega) (by omega), hc (g + 1) (by omega) (by omega), hc (g + 2) (by omega) (by omega), hc (g + 3) (by omega) (by omega), hc (g + 4) (by omega) (by omega), hc (g + 5) (by omega) (by omega), hc (g + 6) (by omega) (by omega), hc (g + 7) (by omega) (by omega), hc (g + 8) (by omega) (by omega), hc (g + 9) (by omega) (by omega)]
  exact h
theorem caP_no {b : Int → Int} {f g r : Int} {M N : jM} (hg : g = 47 ∨ g = 59) (h : ciP g M N (pTxt b) r) (hr : ¬ r = -9) : caP b f g M N (-10 - r) := by
  rcases h with ⟨⟨_, z, _⟩ | ⟨z1, z2⟩, _, z3⟩
  · exact absurd z hr
  · exact ⟨Or.inl ⟨z1, by omega, z3.1 0 (by decide) (by decide) (by omega), z3.2.1 0 (by decide) (by decide) (by decide) (by decide) (by decide) (by decide) (by decide)⟩, fun c a0 a1 a2 a3 => z3.1 c a1 a2 a3, z3.2.2⟩
theorem caP_ok {b : Int → Int} {f g r : Int} {M N O : jM} (hg : g = 47 ∨ g = 59) (h : ciP g M N (pTxt b) r) (hr : r = -9) (hO : O = jup (jup (jup N 0 7 g) 0 8 f) 71 0 0) : caP b f g M O (O g 0) := by
  rcases h with ⟨⟨z1, _, z2⟩ | ⟨z1, z2⟩, _, z3⟩
  · have ec : ∀ c, c ≠ 0 → c ≠ 71 → O c = N c := fun c a1 a2 => by rw [hO, jup_cell a2, jup_cell a1, jup_cell a1]
    have n0 : N 0 = M 0 := z3.1 0 (by decide) (by decide) (by omega)
    have z4 : cAr g O (pTxt b) := cAr_cg z2 (fun c c0 c1 => ec c (by omega) (by omega))
    refine ⟨Or.inr ⟨z1, z4.1, z4, ?_, ?_, fun k k7 k8 => ?_, ?_⟩, fun c a0 a1 a2 a3 => by rw [ec c a0 a1]; exact z3.1 c a1 a2 a3, fun k a1 a2 => by rw [ec g (by omega) (by omega)]; exact z3.2.2 k a1 a2⟩
    · rw [hO, jup_cellk (by decide), jup_ne (by decide), jup_self]
    · rw [hO, jup_cellk (by decide), jup_self]
    · rw [hO, jup_cellk (by decide), jup_ne (by omega), jup_ne (by omega), n0]
    · rw [hO, jup_self]
  · omega
