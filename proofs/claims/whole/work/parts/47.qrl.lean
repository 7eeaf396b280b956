/-! ===== the first quarrel ===== -/
def qF (Q : Int → Int → Prop) (nb : Int → Int) (n r : Int) : Prop :=
  (r = -9 ∧ ∀ a b, 0 ≤ a → a < b → b < n → ¬ Q a b) ∨
  (∃ a b, (0 ≤ a ∧ a < b ∧ b < n) ∧ Q a b ∧ r = 100 * nb a + nb b ∧ ∀ a' b', 0 ≤ a' → a' < b' → b' < n → Q a' b' → a < a' ∨ (a = a' ∧ b ≤ b'))
theorem qF_u {Q Q' : Int → Int → Prop} {nb nb' : Int → Int} {n r r' : Int} (hQ : ∀ a b, 0 ≤ a → a < b → b < n → (Q a b ↔ Q' a b)) (hn : ∀ a, 0 ≤ a → a < n → nb a = nb' a) (h : qF Q nb n r) (h' : qF Q' nb' n r') : r = r' := by
  rcases h with ⟨h1, h2⟩ | ⟨a, b, h1, h2, h3, h4⟩ <;> rcases h' with ⟨g1, g2⟩ | ⟨a', b', g1, g2, g3, g4⟩
  · rw [h1, g1]
  · exact absurd ((hQ a' b' g1.1 g1.2.1 g1.2.2).2 g2) (h2 a' b' g1.1 g1.2.1 g1.2.2)
  · exact absurd ((hQ a b h1.1 h1.2.1 h1.2.2).1 h2) (g2 a b h1.1 h1.2.1 h1.2.2)
  · have x := h4 a' b' g1.1 g1.2.1 g1.2.2 ((hQ a' b' g1.1 g1.2.1 g1.2.2).2 g2)
    have y := g4 a b h1.1 h1.2.1 h1.2.2 ((hQ a b h1.1 h1.2.1 h1.2.2).1 h2)
    have e1 : a = a' := by omega
    have e2 : b = b' := by omega
    rw [h3, g3, e1, e2, hn a' g1.1 (by omega), hn b' (by omega) g1.2.2]
