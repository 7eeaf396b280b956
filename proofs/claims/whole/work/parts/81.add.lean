/-! ===== a RULE is added ===== -/
def addP (f : Int) (M N : jM) (n a l : Int) : Prop :=
  (∀ c, c ≠ f → c ≠ f + 1 → c ≠ f + 2 → c ≠ f + 3 → c ≠ f + 4 → c ≠ f + 5 → c ≠ f + 6 → c ≠ f + 7 → c ≠ f + 8 → N c = M c) ∧
  (∀ j, N (f + 1) j = if j = M f 0 then n else M (f + 1) j) ∧ (∀ j, N (f + 2) j = if j = M f 0 then a else M (f + 2) j) ∧ (∀ j, N (f + 3) j = if j = M f 0 then l else M (f + 3) j) ∧
  (∀ j, N (f + 4) j = if j = M f 0 then -9 else M (f + 4) j) ∧ (∀ j, N (f + 5) j = if j = M f 0 then 0 else M (f + 5) j) ∧ (∀ j, N (f + 7) j = if j = M f 0 then M f 9 else M (f + 7) j) ∧ (∀ j, N (f + 8) j = if j = M f 0 then M f 9 else M (f + 8) j) ∧
  (∀ j, N (f + 6) j = if M f 0 * 7 ≤ j ∧ j < M f 0 * 7 + 7 then -1 else M (f + 6) j) ∧ N f 0 = M f 0 + 1 ∧ ∀ k, k ≠ 0 → N f k = M f k
