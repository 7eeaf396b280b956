/-! ===== the best way ===== -/
abbrev wRest (s l : Int) : Int := jand s (jxor (jshl 1 l) (-1))
theorem wRest_in {s l : Int} (hs : jn s) (hl : 0 ≤ l ∧ l < 31) : jn (wRest s l) ∧ ∀ k : Nat, tb (wRest s l) k = (tb s k && !decide (l.toNat = k)) := by
  have e := jshl1 l.toNat (by omega)
  rw [Int.toNat_of_nonneg hl.1] at e
  have hp : 2 ^ l.toNat < 2147483648 := by
    have : 2 ^ l.toNat < 2 ^ 31 := Nat.pow_lt_pow_right (by omega) (by omega)
    omega
  have h := jandn_in hs (show jn (jshl 1 l) by rw [e]; exact ⟨Int.natCast_nonneg _, by omega⟩)
  refine ⟨h.1, fun k => ?_⟩
  rw [h.2 k, e, tb_pow]
theorem wRest_lt {s l : Int} (hs : jn s) (hl : 0 ≤ l ∧ l < 31) (hb : tb s l = true) : wRest s l < s := by
  have h := wRest_in hs hl
  have hsub : s.toNat &&& (wRest s l).toNat = (wRest s l).toNat := by
    apply Nat.eq_of_testBit_eq
    intro k
    have e := h.2 k
    unfold tb at e
    rw [Nat.testBit_and]
    simp only [Int.toNat_natCast] at e
    rw [e]
    cases s.toNat.testBit k <;> simp
  have hle : (wRest s l).toNat ≤ s.toNat := by
    rw [← hsub]; exact Nat.and_le_left
  have hne : (wRest s l).toNat ≠ s.toNat := by
    intro e
    have e1 := h.2 l.toNat
    unfold tb at e1 hb
    simp only [Int.toNat_natCast, decide_true, Bool.not_true, Bool.and_false] at e1
    rw [e, hb] at e1
    cases e1
  omega
/-- the least of what is told, -1 if nothing is -/
def wMin (a x : Int) : Int := if a = -1 then x else min a x
def wAcc (rd tw c : Int → Int) (r l : Int) : Nat → Int
  | 0 => -1
  | n + 1 => if tb r n = true then wMin (wAcc rd tw c r l n) (c n + rd (9 * tw n + tw l) + 2) else wAcc rd tw c r l n
def wCost (rd tw : Int → Int) (n : Nat) (s l : Int) : Int :=
  if h : jn s ∧ (0 ≤ l ∧ l < 31) ∧ tb s l = true then
    (if wRest s l = 0 then rd (tw l) + 2 else wAcc rd tw (fun k => wCost rd tw n (wRest s l) k) (wRest s l) l n)
  else 0
termination_by s.toNat
decreasing_by
  have h1 := wRest_lt h.1 h.2.1 h.2.2
  have h2 := (wRest_in h.1 h.2.1).1
  omega
theorem wCost_eq (rd tw : Int → Int) (n : Nat) {s l : Int} (h1 : jn s) (h2 : 0 ≤ l ∧ l < 31) (h3 : tb s l = true) : wCost rd tw n s l = (if wRest s l = 0 then rd (tw l) + 2 else wAcc rd tw (fun k => wCost rd tw n (wRest s l) k) (wRest s l) l n) := by
  rw [wCost, dif_pos ⟨h1, h2, h3⟩]
theorem wAcc_in {rd tw c : Int → Int} {r l B : Int} (hr : ∀ i, 0 ≤ rd i ∧ rd i ≤ 30) (hc : ∀ k : Int, 0 ≤ k → tb r k = true → -1 ≤ c k ∧ c k ≤ B) : ∀ n : Nat, wAcc rd tw c r l n = -1 ∨ (0 ≤ wAcc rd tw c r l n ∧ wAcc rd tw c r l n ≤ B + 32)
  | 0 => Or.inl rfl
  | n + 1 => by
    have ih := wAcc_in (tw := tw) (l := l) hr hc n
    unfold wAcc
    split
    · rename_i hb
      have a := hc n (by omega) hb
      have b := hr (9 * tw n + tw l)
      unfold wMin
      split <;> omega
    · exact ih
theorem wAcc_some {rd tw c : Int → Int} {r l B : Int} (hr : ∀ i, 0 ≤ rd i ∧ rd i ≤ 30) (hc : ∀ k : Int, 0 ≤ k → tb r k = true → -1 ≤ c k ∧ c k ≤ B) : ∀ (n : Nat) (k : Nat), k < n → tb r k = true → wAcc rd tw c r l n ≠ -1
  | 0, k, h, _ => absurd h (Nat.not_lt_zero _)
  | n + 1, k, h, hk => by
    have q := wAcc_in (tw := tw) (l := l) hr hc n
    unfold wAcc
    by_cases hb : tb r n = true
    · rw [if_pos hb]
      have a := hc n (by omega) hb
      have b := hr (9 * tw n + tw l)
      unfold wMin
      split <;> omega
    · rw [if_neg hb]
      have : k ≠ n := fun e => hb (e ▸ hk)
      exact wAcc_some hr hc n k (by omega) hk
/-- members of a set of n -/
def wPc (s : Int) : Nat → Nat
  | 0 => 0
  | n + 1 => wPc s n + (if tb s n = true then 1 else 0)
theorem wPc_le (s : Int) : ∀ n, wPc s n ≤ n
  | 0 => Nat.le_refl _
  | n + 1 => by have := wPc_le s n; unfold wPc; split <;> omega
theorem wPc_mono {s t : Int} (h : ∀ k : Nat, tb s k = true → tb t k = true) : ∀ n, wPc s n ≤ wPc t n
  | 0 => Nat.le_refl _
  | n + 1 => by
    have ih := wPc_mono h n
    unfold wPc
    by_cases a : tb s n = true
    · rw [if_pos a, if_pos (h n a)]; omega
    · rw [if_neg a]; split <;> omega
theorem wPc_lt {s t : Int} (h : ∀ k : Nat, tb s k = true → tb t k = true) : ∀ (n l : Nat), l < n → tb s l = false → tb t l = true → wPc s n < wPc t n
  | 0, l, hl, _, _ => absurd hl (Nat.not_lt_zero _)
  | n + 1, l, hl, h1, h2 => by
    unfold wPc
    by_cases e : l = n
    · subst e
      have := wPc_mono h l
      rw [h1, h2]
      simp
      omega
    · have := wPc_lt h n l (by omega) h1 h2
      by_cases a : tb s n = true
      · rw [if_pos a, if_pos (h n a)]; omega
      · rw [if_neg a]; split <;> omega
theorem wRest_sub {s l : Int} (hs : jn s) (hl : 0 ≤ l ∧ l < 31) : ∀ k : Nat, tb (wRest s l) k = true → tb s k = true := by
  intro k hk
  rw [(wRest_in hs hl).2 k, Bool.and_eq_true] at hk
  exact hk.1
theorem wCost_in {rd tw : Int → Int} (hr : ∀ i, 0 ≤ rd i ∧ rd i ≤ 30) (n : Nat) : ∀ (m : Nat) (s l : Int), wPc s 31 ≤ m → -1 ≤ wCost rd tw n s l ∧ wCost rd tw n s l ≤ 32 * m
  | 0, s, l, hm => by
    rw [wCost]
    split
    · rename_i h
      have := wPc_lt (s := 0) (t := s) (fun k hk => by simp [tb] at hk) 31 l.toNat (by omega) (by simp [tb]) (by
        have := h.2.2
        unfold tb at this ⊢
        exact this)
      omega
    · omega
  | m + 1, s, l, hm => by
    by_cases h : jn s ∧ (0 ≤ l ∧ l < 31) ∧ tb s l = true
    · rw [wCost_eq rd tw n h.1 h.2.1 h.2.2]
      split
      · have := hr (tw l)
        omega
      · have hlt : wPc (wRest s l) 31 < wPc s 31 := wPc_lt (wRest_sub h.1 h.2.1) 31 l.toNat (by omega) (by
          rw [(wRest_in h.1 h.2.1).2 l.toNat]; simp) (by have := h.2.2; unfold tb at this ⊢; exact this)
        have q := wAcc_in (tw := tw) (l := l) (r := wRest s l) (c := fun k => wCost rd tw n (wRest s l) k) (B := 32 * m) hr (fun k _ _ => wCost_in hr n m (wRest s l) k (by omega)) n
        omega
    · rw [wCost, dif_neg h]
      omega
theorem wCost_b {rd tw : Int → Int} (hr : ∀ i, 0 ≤ rd i ∧ rd i ≤ 30) (n : Nat) (s l : Int) : -1 ≤ wCost rd tw n s l ∧ wCost rd tw n s l ≤ 992 := by
  have := wCost_in (tw := tw) hr n 31 s l (wPc_le s 31)
  omega
/-- a set below 2^n that isn't empty has a member below n -/
theorem w_member {s : Int} (hs : 0 < s) {n : Nat} (hn : s < 2 ^ n) : ∃ k : Nat, k < n ∧ tb s k = true := by
  apply Classical.byContradiction
  intro hno
  have : s.toNat = 0 := by
    apply Nat.eq_of_testBit_eq
    intro k
    rw [Nat.zero_testBit]
    by_cases hk : k < n
    · have := fun h => hno ⟨k, hk, h⟩
      unfold tb at this
      simpa using this
    · apply Nat.testBit_lt_two_pow
      have h1 : s.toNat < 2 ^ n := by
        have : ((s.toNat : Nat) : Int) < ((2 ^ n : Nat) : Int) := by rw [Int.toNat_of_nonneg (by omega)]; simpa using hn
        exact Int.ofNat_lt.mp this
      exact Nat.lt_of_lt_of_le h1 (Nat.pow_le_pow_right (by omega) (by omega))
  omega
theorem wCost_pos {rd tw : Int → Int} (hr : ∀ i, 0 ≤ rd i ∧ rd i ≤ 30) {n : Nat} (hn : n ≤ 30) {s l : Int} (hs : 0 < s) (hsn : s < 2 ^ n) (hl : 0 ≤ l ∧ l < 31) (hb : tb s l = true) : 0 ≤ wCost rd tw n s l := by
  have hjn : jn s := by
    have : (2 : Int) ^ n ≤ 2 ^ 30 := by
      have := Nat.pow_le_pow_right (n := 2) (by omega) hn
      exact_mod_cast this
    omega
  rw [wCost_eq rd tw n hjn hl hb]
  split
  · have := hr (tw l); omega
  · rename_i hz
    have h1 := (wRest_in hjn hl).1
    have h2 := wRest_lt hjn hl hb
    obtain ⟨k, hk, hkb⟩ := w_member (s := wRest s l) (by omega) (n := n) (by omega)
    have q1 := wAcc_in (tw := tw) (l := l) (r := wRest s l) (c := fun k => wCost rd tw n (wRest s l) k) (B := 992) hr (fun k _ _ => wCost_b hr n _ k) n
    have q2 := wAcc_some (tw := tw) (l := l) (r := wRest s l) (c := fun k => wCost rd tw n (wRest s l) k) (B := 992) hr (fun k _ _ => wCost_b hr n _ k) n k hk hkb
    omega
def wSum (db : Int → Int) (s : Int) : Nat → Int
  | 0 => 0
  | n + 1 => wSum db s n + (if tb s n = true then db n else 0)
def wTake (c : Int → Int) (s : Int) : Nat → Int
  | 0 => -1
  | n + 1 => if tb s n = true then wMin (wTake c s n) (c n) else wTake c s n
def wBst (rd tw db : Int → Int) (n : Nat) (H : Int) : Nat → Int × Int × Int
  | 0 => (0, 0, 0)
  | s + 1 => if wTake (fun l => wCost rd tw n (s + 1) l) (s + 1) n ≤ H ∧ ((wBst rd tw db n H s).2.1 < wSum db (s + 1) n ∨ (wSum db (s + 1) n = (wBst rd tw db n H s).2.1 ∧ wTake (fun l => wCost rd tw n (s + 1) l) (s + 1) n < (wBst rd tw db n H s).2.2)) then ((s : Int) + 1, wSum db (s + 1) n, wTake (fun l => wCost rd tw n (s + 1) l) (s + 1) n) else wBst rd tw db n H s
theorem wSum_in {db : Int → Int} (hd : ∀ i, 0 ≤ db i ∧ db i ≤ 99) (s : Int) : ∀ n : Nat, 0 ≤ wSum db s n ∧ wSum db s n ≤ 99 * n
  | 0 => by unfold wSum; omega
  | n + 1 => by
    have := wSum_in hd s n
    have := hd n
    unfold wSum
    split <;> omega
theorem wTake_in {c : Int → Int} {s B : Int} (hc : ∀ k : Int, 0 ≤ k → tb s k = true → 0 ≤ c k ∧ c k ≤ B) : ∀ n : Nat, wTake c s n = -1 ∨ (0 ≤ wTake c s n ∧ wTake c s n ≤ B)
  | 0 => Or.inl rfl
  | n + 1 => by
    have ih := wTake_in hc n
    unfold wTake
    split
    · rename_i hb
      have a := hc n (by omega) hb
      unfold wMin
      split <;> omega
    · exact ih
theorem wTake_some {c : Int → Int} {s B : Int} (hc : ∀ k : Int, 0 ≤ k → tb s k = true → 0 ≤ c k ∧ c k ≤ B) : ∀ (n k : Nat), k < n → tb s k = true → wTake c s n ≠ -1
  | 0, k, h, _ => absurd h (Nat.not_lt_zero _)
  | n + 1, k, h, hk => by
    have q := wTake_in hc n
    unfold wTake
    by_cases hb : tb s n = true
    · rw [if_pos hb]
      have a := hc n (by omega) hb
      unfold wMin
      split <;> omega
    · rw [if_neg hb]
      have : k ≠ n := fun e => hb (e ▸ hk)
      exact wTake_some hc n k (by omega) hk
theorem bit_yes {x k : Int} (hx : jn x) (hk : 0 ≤ k ∧ k < 32) (h : jand (jshr x k) 1 = 1) : tb x k = true := by
  apply Classical.byContradiction
  intro z
  rw [jbit hx hk, if_neg z] at h
  omega
theorem bit_no {x k : Int} (hx : jn x) (hk : 0 ≤ k ∧ k < 32) (h : ¬ jand (jshr x k) 1 = 1) : ¬ tb x k = true := by
  intro z
  rw [jbit hx hk, if_pos z] at h
  exact h rfl
theorem p2n {n : Int} (h : 0 ≤ n ∧ n ≤ 6) : (2 : Int) ^ n.toNat ≤ 64 ∧ jshl 1 n = 2 ^ n.toNat := by
  refine ⟨?_, jshl1' (by omega)⟩
  have : n.toNat ≤ 6 := by omega
  have h2 : (2 : Nat) ^ n.toNat ≤ 2 ^ 6 := Nat.pow_le_pow_right (by omega) this
  have h3 : ((2 ^ n.toNat : Nat) : Int) ≤ ((2 ^ 6 : Nat) : Int) := Int.ofNat_le.mpr h2
  simpa using h3
theorem tb_pos {x k : Int} (hx : 0 ≤ x) (h : tb x k = true) : 0 < x := by
  rcases Int.lt_or_eq_of_le hx with h1 | h1
  · exact h1
  · rw [← h1] at h
    simp [tb] at h
theorem wTake_step {c : Int → Int} {s x v w r : Int} {n : Nat} (hb : tb s n = true) (hr : r = c n) (h0 : 0 ≤ r) (h : (wTake c s n = -1 ∧ v = x) ∨ (¬ wTake c s n = -1 ∧ v = wTake c s n)) (hx : r ≤ x) (hw : w = min v r) (hq : wTake c s n = -1 ∨ 0 ≤ wTake c s n) : (wTake c s (n + 1) = -1 ∧ w = x) ∨ (¬ wTake c s (n + 1) = -1 ∧ w = wTake c s (n + 1)) := by
  right
  show ¬ (if tb s n = true then wMin (wTake c s n) (c n) else wTake c s n) = -1 ∧ w = (if tb s n = true then wMin (wTake c s n) (c n) else wTake c s n)
  rw [if_pos hb, ← hr]
  unfold wMin
  rcases h with ⟨a, b⟩ | ⟨a, b⟩
  · rw [if_pos a]; omega
  · rw [if_neg a]; omega
theorem wTake_skip {c : Int → Int} {s x v : Int} {n : Nat} (hb : ¬ tb s n = true) (h : (wTake c s n = -1 ∧ v = x) ∨ (¬ wTake c s n = -1 ∧ v = wTake c s n)) : (wTake c s (n + 1) = -1 ∧ v = x) ∨ (¬ wTake c s (n + 1) = -1 ∧ v = wTake c s (n + 1)) := by
  have e : wTake c s (n + 1) = wTake c s n := by
    show (if tb s n = true then wMin (wTake c s n) (c n) else wTake c s n) = _
    rw [if_neg hb]
  rw [e]; exact h
theorem wSum_step {db : Int → Int} {s : Int} {n : Nat} (hb : tb s n = true) : wSum db s (n + 1) = wSum db s n + db n := by
  show wSum db s n + (if tb s n = true then db n else 0) = _
  rw [if_pos hb]
theorem wSum_skip {db : Int → Int} {s : Int} {n : Nat} (hb : ¬ tb s n = true) : wSum db s (n + 1) = wSum db s n := by
  show wSum db s n + (if tb s n = true then db n else 0) = _
  rw [if_neg hb]; omega
theorem wBst_step {rd tw db : Int → Int} {n : Nat} {H v sm tk : Int} (hv : 1 ≤ v) (hs : sm = wSum db v n) (ht : tk = wTake (fun l => wCost rd tw n v l) v n) : wBst rd tw db n H v.toNat = if tk ≤ H ∧ ((wBst rd tw db n H (v - 1).toNat).2.1 < sm ∨ (sm = (wBst rd tw db n H (v - 1).toNat).2.1 ∧ tk < (wBst rd tw db n H (v - 1).toNat).2.2)) then (v, sm, tk) else wBst rd tw db n H (v - 1).toNat := by
  obtain ⟨m, hm⟩ : ∃ m : Nat, v = (m : Int) + 1 := ⟨(v - 1).toNat, by omega⟩
  have e1 : v.toNat = m + 1 := by omega
  have e2 : (v - 1).toNat = m := by omega
  rw [e1, e2, hs, ht, hm]
  rfl
theorem p2m {n : Nat} : ((2 : Int) ^ n - 1).toNat = 2 ^ n - 1 := by
  have : (2 : Int) ^ n = ((2 ^ n : Nat) : Int) := by simp
  rw [this]
  omega
