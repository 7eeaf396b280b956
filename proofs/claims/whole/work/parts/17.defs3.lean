/-! ===== sums over a square ===== -/
theorem sSum_add (g g' : Int → Int) : ∀ n : Nat, sSum (fun j => g j + g' j) n = sSum g n + sSum g' n
  | 0 => rfl
  | n + 1 => by
    unfold sSum
    rw [sSum_add g g' n]
    omega
theorem sSum_zero {g : Int → Int} (n : Nat) (h : ∀ j : Int, 0 ≤ j → j < n → g j = 0) : sSum g n = 0 := by
  have : sSum g n = sSum (fun _ => 0) n := sSum_congr n h
  rw [this]
  clear this h
  induction n with
  | zero => rfl
  | succ n ih => unfold sSum; rw [ih]; rfl
theorem sSum_swap (f : Int → Int → Int) (m : Nat) : ∀ n : Nat, sSum (fun a => sSum (fun b => f a b) m) n = sSum (fun b => sSum (fun a => f a b) n) m
  | 0 => by
    exact (sSum_zero (g := fun b => sSum (fun a => f a b) 0) m (fun j _ _ => rfl)).symm
  | n + 1 => by
    show sSum (fun a => sSum (fun b => f a b) m) n + sSum (fun b => f n b) m = _
    rw [sSum_swap f m n, ← sSum_add]
    rfl
/-- two lines of n clash: each pair once -/
def cSq (g : Int → Int → Bool) (n : Nat) : Int := sSum (fun k => sSum (fun l => if k < l ∧ g k l = true then 1 else 0) n) n
theorem sSum_ext {g : Int → Int} {m : Nat} : ∀ n : Nat, m ≤ n → (∀ j : Int, (m : Int) ≤ j → j < n → g j = 0) → sSum g n = sSum g m
  | 0, h, _ => by have : m = 0 := by omega
                  subst this; rfl
  | n + 1, h, hz => by
    by_cases hm : m = n + 1
    · rw [hm]
    · show sSum g n + g n = _
      rw [hz n (by omega) (by omega), sSum_ext n (by omega) (fun j a b => hz j a (by omega))]
      omega
theorem cRow_sum (g : Int → Int → Bool) (a : Int) : ∀ n : Nat, (n : Int) ≤ a → cRow g a n = sSum (fun b => if b < a ∧ g a b = true then 1 else 0) n
  | 0, _ => rfl
  | n + 1, h => by
    unfold cRow sSum
    rw [cRow_sum g a n (by omega)]
    congr 1
    by_cases hg : g a n = true
    · rw [if_pos hg, if_pos ⟨by omega, hg⟩]
    · rw [if_neg hg, if_neg (fun z => hg z.2)]
theorem cAll_sum (g : Int → Int → Bool) (N : Nat) : ∀ n : Nat, n ≤ N → cAll g n = sSum (fun a => sSum (fun b => if b < a ∧ g a b = true then 1 else 0) N) n
  | 0, _ => rfl
  | n + 1, h => by
    unfold cAll
    rw [cAll_sum g N n (by omega), cRow_sum g n n (Int.le_refl _)]
    show _ = _ + _
    congr 1
    exact (sSum_ext N (by omega) (fun j a b => by rw [if_neg (fun z => by omega)])).symm
theorem cAll_sq {g g' : Int → Int → Bool} (n : Nat) (hs : ∀ a b : Int, 0 ≤ a → a < n → 0 ≤ b → b < n → g a b = g' b a) : cAll g n = cSq g' n := by
  rw [cAll_sum g n n (Nat.le_refl _), sSum_swap]
  unfold cSq
  refine sSum_congr n (fun b b0 b1 => sSum_congr n (fun a a0 a1 => ?_))
  show (if b < a ∧ g a b = true then (1 : Int) else 0) = (if b < a ∧ g' b a = true then 1 else 0)
  rw [hs a b a0 a1 b0 b1]
def pB (M : jM) (k l : Int) : Bool := decide (max (M 24 k) (M 24 l) < min (M 25 k) (M 25 l))
theorem pB_eq {M N : jM} {h d : Int} {n : Nat} (hp : pPicked M N h d n) {k l : Int} (k0 : 0 ≤ k) (k1 : k < N 16 6) (l0 : 0 ≤ l) (l1 : l < N 16 6) : pB N k l = fClash (M 6) (M 7) (M 8) (M 19) (M 20) (M 21) (sSel (M 17) (M 18) h d n k) (sSel (M 17) (M 18) h d n l) := by
  obtain ⟨p1, p2, p3, p4, p5, p6, -, -⟩ := hp
  unfold pB fClash
  rw [p4 k k0 k1, p4 l l0 l1, p5 k k0 k1, p5 l l0 l1]
  rfl
theorem sSum01_in {g : Int → Int} (n : Nat) (h : ∀ j : Int, 0 ≤ j → j < n → 0 ≤ g j ∧ g j ≤ 1) : 0 ≤ sSum g n ∧ sSum g n ≤ n := by
  have := sSum_in (B := 1) n h
  omega
theorem pWorked_eq' {M N : jM} {h d s w : Int} {n : Nat} (hp : pPicked M N h d n) (hs : s = 2 ∨ s = 1) (hw : w = 2 - s) (j : Int) (j0 : 0 ≤ j) (j1 : j < N 16 6) : pWorked N s j = fPart (M 6) (M 7) (M 8) (M 19) (M 20) (M 21) (sSel (M 17) (M 18) h d n j) w := by
  subst hw
  exact pWorked_eq hp hs j j0 j1
theorem pWork_all {M N : jM} {h d s w : Int} {n : Nat} (hp : pPicked M N h d n) (hs : s = 2 ∨ s = 1) (hw : w = 2 - s) : sSum (fun j => pWorked N s j) (N 16 6).toNat = fWork (M 6) (M 7) (M 8) (M 17) (M 18) (M 19) (M 20) (M 21) h d w n := by
  have hc := sCnt_in (M 17) (M 18) h d n
  rw [fWork_sel, ← hp.1]
  exact sSum_congr _ (fun j a b => pWorked_eq' hp hs hw j a (by rw [hp.1] at b ⊢; omega))
theorem pSchool_all {M N : jM} {h d : Int} {n : Nat} (hp : pPicked M N h d n) (hio : ∀ i, M 20 i ≤ M 21 i) : sSum (fun j => pSchool N j) (N 16 6).toNat = fWork (M 6) (M 7) (M 8) (M 17) (M 18) (M 19) (M 20) (M 21) h d 2 n := by
  have hc := sCnt_in (M 17) (M 18) h d n
  rw [fWork_sel, ← hp.1]
  exact sSum_congr _ (fun j a b => pSchool_eq hp hio j a (by rw [hp.1] at b ⊢; omega))
theorem pClash_all {M N : jM} {h d : Int} {n : Nat} (hp : pPicked M N h d n) : cSq (pB N) (N 16 6).toNat = cAll (fun a b => fClash (M 6) (M 7) (M 8) (M 19) (M 20) (M 21) (sSel (M 17) (M 18) h d n a) (sSel (M 17) (M 18) h d n b)) (sCnt (M 17) (M 18) h d n).toNat := by
  have hc := sCnt_in (M 17) (M 18) h d n
  rw [← hp.1]
  refine (cAll_sq _ (fun a b a0 a1 b0 b1 => ?_)).symm
  rw [pB_eq hp b0 (by rw [hp.1] at b1 ⊢; omega) a0 (by rw [hp.1] at a1 ⊢; omega)]
  exact fClash_comm _ _ _ _ _ _ _ _
