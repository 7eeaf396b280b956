/-! ===== the acts: what a part of a COND says ===== -/
def eTest (f t kd tr pp m : Int) (sort n : Int) : Int :=
  if sort = 0 then (if t < n then 2 else if f < n then 1 else 0)
  else if sort = 1 then (if n < f then 2 else if n < t then 1 else 0)
  else if sort = 2 then (if f = n ∧ t = n then 2 else if f ≤ n ∧ n ≤ t then 1 else 0)
  else if sort = 3 then (if kd = n then 2 else 0)
  else if sort = 4 then (if tr = n then 2 else 0)
  else if sort = 5 then (if m = n then 2 else 0)
  else (if 0 < pp then 2 else 0)
theorem eTest_in (f t kd tr pp m sort n : Int) : 0 ≤ eTest f t kd tr pp m sort n ∧ eTest f t kd tr pp m sort n ≤ 2 := by
  unfold eTest
  (repeat' split) <;> omega
def eFind (nb : Int → Int) (x : Int) : Nat → Nat → Int
  | 0, _ => -9
  | n + 1, k => if nb k = x then k else eFind nb x n (k + 1)
/-! stacks in arrays -/
def aSt (f : Int → Int) : Int → List Int → Prop
  | n, [] => n = 0
  | n, x :: l => f (n - 1) = x ∧ aSt f (n - 1) l
theorem aSt_len {f : Int → Int} : ∀ (l : List Int) {n : Int}, aSt f n l → n = l.length
  | [], n, h => h
  | x :: l, n, h => by
    have := aSt_len l h.2
    simp only [List.length_cons]
    omega
theorem aSt_cg {f g : Int → Int} : ∀ (l : List Int) {n : Int}, aSt f n l → (∀ j, 0 ≤ j → j < n → g j = f j) → aSt g n l
  | [], n, h, _ => h
  | x :: l, n, h, hg => by
    have := aSt_len l h.2
    exact ⟨by rw [hg _ (by omega) (by omega)]; exact h.1, aSt_cg l h.2 (fun j a b => hg j a (by omega))⟩
theorem aSt_push {f g : Int → Int} {l : List Int} {n x : Int} (h : aSt f n l) (h0 : g n = x) (hg : ∀ j, 0 ≤ j → j < n → g j = f j) : aSt g (n + 1) (x :: l) := by
  refine ⟨by rw [show n + 1 - 1 = n by omega]; exact h0, ?_⟩
  rw [show n + 1 - 1 = n by omega]
  exact aSt_cg l h hg
