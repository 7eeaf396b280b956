/-! ===== for the constructors: shapes by tests ===== -/
def jltb (n : Nat) (sh : List jS) : Bool := sh.all (fun s => match s with
  | .inl _ => true
  | .inr o => o.2.all (fun k => k != 2 && decide (k < n + 10)))
def jnb (n : Nat) (sh : List jS) : Bool := sh.all (fun s => match s with
  | .inl _ => true
  | .inr o => o.2.all (fun k => k != 2 && k != n + 10))
theorem jno_app {n0 n : Nat} {sh tl : List jS} (hj : jltb n0 sh = true) (h0 : n0 ≤ n) (ht : jnb n tl = true) : jno n (sh ++ tl) := by
  intro s hs
  rcases List.mem_append.mp hs with h | h
  · have := List.all_eq_true.mp hj s h
    cases s with
    | inl a => exact trivial
    | inr o =>
      intro k hk
      have z := List.all_eq_true.mp this k hk
      simp at z
      exact ⟨z.1, by omega⟩
  · have := List.all_eq_true.mp ht s h
    cases s with
    | inl a => exact trivial
    | inr o =>
      intro k hk
      have z := List.all_eq_true.mp this k hk
      simp at z
      exact ⟨z.1, z.2⟩
def jsb (n : Int) (st : List jV) : Bool := st.all (fun v => match v with
  | .inr (.inr r) => r != n
  | _ => true)
theorem jsb_of {n : Int} {st : List jV} (h : jsb n st = true) : ∀ r, jR r ∈ st → r ≠ n := by
  intro r hr
  have := List.all_eq_true.mp h _ hr
  simpa using this
def jlb (n : Int) (ls : List (Nat × jV)) : Bool := ls.all (fun v => match v.2 with
  | .inr (.inr r) => r != n
  | _ => true)
theorem jlb_of {n : Int} {ls : List (Nat × jV)} (h : jlb n ls = true) : ∀ i r, (i, jR r) ∈ ls → r ≠ n := by
  intro i r hr
  have := List.all_eq_true.mp h _ hr
  simpa using this
theorem j_at {sh r : List jS} {x : jS} {n : Nat} (hn : sh.length = n) : (sh ++ x :: r)[((n : Nat) : Int).toNat]? = some x := by
  rw [Int.toNat_natCast, List.getElem?_append_right (by omega), hn, Nat.sub_self]
  rfl
theorem j_st {sh r : List jS} {x y : jS} {n : Nat} (hn : sh.length = n) : sh ++ y :: r = (sh ++ x :: r).set ((n : Nat) : Int).toNat y := by
  rw [Int.toNat_natCast, List.set_append_right _ _ (by omega), hn, Nat.sub_self]
  rfl
theorem j_ln {sh r : List jS} {n m k : Nat} (hn : sh.length = n) (hr : r.length = m) (hk : n + m = k) : (sh ++ r).length = k := by rw [List.length_append]; omega
/-- nothing but 0 from a on, up to b -/
def jzr (M : jM) (a b : Int) : jM := fun c k => if a ≤ c ∧ c < b then 0 else M c k
theorem jzr_0 (M : jM) (a : Int) : M = jzr M a a := by funext c k; unfold jzr; rw [if_neg (by omega)]
theorem jz_r {M : jM} {a b c : Int} (h : a ≤ b) (hc : b + 1 = c) : jz (jzr M a b) b = jzr M a c := by
  funext x k
  unfold jz jzr
  by_cases e : x = b
  · rw [if_pos e, if_pos (by omega)]
  · rw [if_neg e]
    by_cases e2 : a ≤ x ∧ x < b
    · rw [if_pos e2, if_pos (by omega)]
    · rw [if_neg e2, if_neg (by omega)]
theorem j_atk {sh tl : List jS} {x : jS} {n k : Nat} {c : Int} (hn : sh.length = n) (h : tl[k]? = some x) (hc : c.toNat = n + k) : (sh ++ tl)[c.toNat]? = some x := by
  rw [hc, List.getElem?_append_right (by omega), hn, Nat.add_sub_cancel_left]
  exact h
