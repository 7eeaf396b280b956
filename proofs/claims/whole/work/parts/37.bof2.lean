/-! ===== what a token finds ===== -/
theorem tok_at {E : Int → Int → Int} {M : jM} {i len k : Int} (h : gAll M i len) (k0 : 0 ≤ k) (k1 : k < len) :
    wOrd (cAllT (tPre M i k.toNat)).1 ∧ ((cAllT (tPre M i k.toNat)).1.length : Int) ≤ 47 ∧
    (((tAt M i k).1 = 38 ∨ (tAt M i k).1 = 124 ∨ (tAt M i k).1 = 41) → top3 (cAllT (tPre M i k.toNat)).1 ∧ (rpn E (cAllT (tPre M i k.toNat)).2).length = wBin (cAllT (tPre M i k.toNat)).1 + 1) ∧
    ((tAt M i k).1 = 41 → 0 < wOpen (cAllT (tPre M i k.toNat)).1) ∧
    ((tAt M i k).1 = 33 ∨ (tAt M i k).1 = 40 ∨ (tAt M i k).1 = 38 ∨ (tAt M i k).1 = 124 ∨ (tAt M i k).1 = 41 ∨ ((0 ≤ (tAt M i k).1 ∧ (tAt M i k).1 ≤ 6) ∧ (0 ≤ (tAt M i k).2 ∧ (tAt M i k).2 ≤ 9999) ∧ (rpn E (cAllT (tPre M i k.toNat)).2).length = wBin (cAllT (tPre M i k.toNat)).1 ∧ (rpn E (cAllT (tPre M i k.toNat)).2).length ≤ 30)) := by
  obtain ⟨w, o, p, hw⟩ := gAll_at h k0 k1
  have key : ∀ (w : Bool) (o p : Nat), gWf (tPre M i k.toNat).reverse w o p → gInv E (tPre M i k.toNat).reverse w o p ∧ o ≤ 10 := fun w o p z => ⟨sim_all _ w o p z, (gWf_o _ _ _ _ z).1⟩
  have len47 : ∀ (w : Bool) (o p : Nat), gWf (tPre M i k.toNat).reverse w o p → wOrd (cAllT (tPre M i k.toNat)).1 ∧ ((cAllT (tPre M i k.toNat)).1.length : Int) ≤ 47 := by
    intro w o p z
    have g := (key w o p z).1
    unfold gInv at g
    rw [List.reverse_reverse] at g
    have hl := wLen _ g.2.2.1
    have h2 : (cAllT (tPre M i k.toNat)).1.head?.getD 0 ≤ 3 := by
      cases hW : (cAllT (tPre M i k.toNat)).1 with
      | nil => simp
      | cons x W =>
        have := g.2.2.1
        rw [hW] at this
        have := wOrd_hd this
        simp
        omega
    have h3 := g.2.2.2.2.1
    have h4 := (key w o p z).2
    exact ⟨g.2.2.1, by omega⟩
  rcases hw with ⟨c, _, z, _⟩ | ⟨c, _, _, _, z⟩ | ⟨c, _, z⟩ | ⟨c, _, z⟩ | ⟨c, c2, _, _, _, z⟩
  · have a := len47 _ _ _ z
    exact ⟨a.1, a.2, fun y => by omega, fun y => by omega, Or.inl c⟩
  · have a := len47 _ _ _ z
    exact ⟨a.1, a.2, fun y => by omega, fun y => by omega, Or.inr (Or.inl c)⟩
  · have a := len47 _ _ _ z
    have g := (key _ _ _ z).1
    unfold gInv at g
    rw [List.reverse_reverse] at g
    refine ⟨a.1, a.2, fun y => ⟨g.2.2.2.2.2.1 rfl, by rw [g.2.2.2.1, if_neg (by decide)]⟩, fun y => by omega, ?_⟩
    rcases c with c | c
    · exact Or.inr (Or.inr (Or.inl c))
    · exact Or.inr (Or.inr (Or.inr (Or.inl c)))
  · have a := len47 _ _ _ z
    have g := (key _ _ _ z).1
    unfold gInv at g
    rw [List.reverse_reverse] at g
    exact ⟨a.1, a.2, fun y => ⟨g.2.2.2.2.2.1 rfl, by rw [g.2.2.2.1, if_neg (by decide)]⟩, fun y => by rw [g.2.2.2.2.1]; omega, Or.inr (Or.inr (Or.inr (Or.inr (Or.inl c))))⟩
  · have a := len47 _ _ _ z
    have g := (key _ _ _ z).1
    unfold gInv at g
    rw [List.reverse_reverse] at g
    refine ⟨a.1, a.2, fun y => by omega, fun y => by omega, Or.inr (Or.inr (Or.inr (Or.inr (Or.inr ⟨c, c2, by rw [g.2.2.2.1, if_pos rfl]; omega, by have := g.2.2.2.2.2.2.2.1; omega⟩))))⟩
