theorem rTx_jup {N : jM} {k v : Int} (h : k ≠ 14) : rTx (jup N 74 k v) = rTx N := rTx_cg (jup_ne (fun z => h z.2.symm)) (jup_cell (by decide))
theorem nm_in {b : Int → Int} {q : Int} : ∀ (n : Nat), n ≤ 6 → (∀ j, q ≤ j → j < q + n → 97 ≤ b j ∧ b j ≤ 122) → 0 ≤ nmB b q n ∧ nmB b q n ≤ 281474976710655 ∧ (n ≤ 5 → nmB b q n ≤ 1099511627775) ∧ (n ≤ 4 → nmB b q n ≤ 4294967295) ∧ (n ≤ 3 → nmB b q n ≤ 16777215) ∧ (n ≤ 2 → nmB b q n ≤ 65535) ∧ (n ≤ 1 → nmB b q n ≤ 255) ∧ (n = 0 → nmB b q n = 0)
  | 0, _, _ => by unfold nmB; omega
  | n + 1, h, hd => by
    have ih := nm_in (b := b) (q := q) n (by omega) (fun j a c => hd j a (by omega))
    have := hd (q + n) (by omega) (by omega)
    unfold nmB
    omega
theorem wVal_in (k : Int) : 0 ≤ wVal k ∧ wVal k ≤ 281474976710655 := by
  unfold wVal
  (repeat' split) <;> omega
theorem jcmp_eq {x y : Int} : jcmp x y = 0 ↔ x = y := by
  unfold jcmp
  (repeat' split) <;> omega
/-- which of the first n words it is -/
def wdI (x n tk v : Int) (s : Prop) : Prop := (tk = 1 ∧ (0 ≤ v ∧ v < n) ∧ x = wVal v ∧ s) ∨ (tk = 4 ∧ ∀ k, 0 ≤ k → k < n → ¬ x = wVal k)
theorem wdI_0 (x v : Int) (s : Prop) : wdI x 0 4 v s := Or.inr ⟨rfl, fun k a b => by omega⟩
theorem wdI_no {x n tk v : Int} {s : Prop} (h : wdI x n tk v s) (hx : ¬ wVal n = x) : wdI x (n + 1) tk v s := by
  rcases h with ⟨a, b, c, e⟩ | ⟨a, b⟩
  · exact Or.inl ⟨a, ⟨b.1, by omega⟩, c, e⟩
  · refine Or.inr ⟨a, fun k k0 k1 => ?_⟩
    by_cases e : k = n
    · rw [e]; exact fun z => hx z.symm
    · exact b k k0 (by omega)
theorem wdI_yes {x n : Int} {s : Prop} (hn : 0 ≤ n) (hx : wVal n = x) (hs : s) : wdI x (n + 1) 1 n s := Or.inl ⟨rfl, ⟨hn, by omega⟩, hx.symm, hs⟩
theorem wdI_end {b : Int → Int} {x n tk v q e : Int} (h : wdI x n tk v (e - q ≤ 6)) (hn : n ≤ 16) (hx : e - q ≤ 6 → x = nmB b q (e - q).toNat) (hz : 16 ≤ n ∨ 6 < e - q) :
    (e - q ≤ 6 ∧ 0 ≤ wIdx (nmB b q (e - q).toNat) ∧ tk = 1 ∧ v = wIdx (nmB b q (e - q).toNat)) ∨ (¬ (e - q ≤ 6 ∧ 0 ≤ wIdx (nmB b q (e - q).toNat)) ∧ tk = 4) := by
  rcases h with ⟨a, c, d, s⟩ | ⟨a, c⟩
  · have e1 := (wIdx_val (x := x) (k := v) ⟨c.1, by omega⟩).2 d
    rw [hx s] at e1
    exact Or.inl ⟨s, by omega, a, e1.symm⟩
  · refine Or.inr ⟨fun z => ?_, a⟩
    have hi := wIdx_in (nmB b q (e - q).toNat)
    have e1 := (wIdx_val (x := nmB b q (e - q).toNat) (k := wIdx (nmB b q (e - q).toNat)) ⟨z.2, hi.2⟩).1 rfl
    rw [← hx z.1] at e1 hi z
    exact c _ z.2 (by omega) e1
theorem rTkv_neg {b : Int → Int} {q v : Int} (h : b q < 0) : rTkv b q 0 v q := by
  have e : lK b q = 0 := by unfold lK; rw [if_pos h]
  refine ⟨e.symm, fun z => by omega, ?_⟩
  unfold lEd
  rw [if_pos h]
