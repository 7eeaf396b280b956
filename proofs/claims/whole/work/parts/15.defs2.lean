/-! ===== lines of one hand on one day ===== -/
def sCnt (lh ld : Int → Int) (h d : Int) : Nat → Int
  | 0 => 0
  | n + 1 => sCnt lh ld h d n + (if lh n = h ∧ ld n = d then 1 else 0)
def sSel (lh ld : Int → Int) (h d : Int) : Nat → Int → Int
  | 0 => fun _ => 0
  | n + 1 => fun j => if lh n = h ∧ ld n = d ∧ j = sCnt lh ld h d n then (n : Int) else sSel lh ld h d n j
theorem sCnt_in (lh ld : Int → Int) (h d : Int) : ∀ n : Nat, 0 ≤ sCnt lh ld h d n ∧ sCnt lh ld h d n ≤ n
  | 0 => by unfold sCnt; omega
  | n + 1 => by
    have := sCnt_in lh ld h d n
    unfold sCnt
    split <;> omega
theorem sSel_in (lh ld : Int → Int) (h d : Int) : ∀ (n : Nat) (j : Int), 0 ≤ j → j < sCnt lh ld h d n → 0 ≤ sSel lh ld h d n j ∧ sSel lh ld h d n j < n ∧ lh (sSel lh ld h d n j) = h ∧ ld (sSel lh ld h d n j) = d
  | 0, j, h0, h1 => by unfold sCnt at h1; omega
  | n + 1, j, h0, h1 => by
    have ih := sSel_in lh ld h d n j h0
    unfold sCnt at h1
    unfold sSel
    by_cases hm : lh n = h ∧ ld n = d
    · rw [if_pos hm] at h1
      by_cases hj : j = sCnt lh ld h d n
      · rw [if_pos ⟨hm.1, hm.2, hj⟩]; exact ⟨by omega, by omega, hm.1, hm.2⟩
      · rw [if_neg (fun z => hj z.2.2)]
        obtain ⟨a, b, c, e⟩ := ih (by omega)
        exact ⟨a, by omega, c, e⟩
    · rw [if_neg hm] at h1
      rw [if_neg (fun z => hm ⟨z.1, z.2.1⟩)]
      obtain ⟨a, b, c, e⟩ := ih (by omega)
      exact ⟨a, by omega, c, e⟩
theorem sSel_lt {lh ld : Int → Int} {h d : Int} {n : Nat} {j : Int} (hj : j < sCnt lh ld h d n) : sSel lh ld h d (n + 1) j = sSel lh ld h d n j := by
  show (if lh n = h ∧ ld n = d ∧ j = sCnt lh ld h d n then (n : Int) else sSel lh ld h d n j) = _
  rw [if_neg (fun z => by omega)]
theorem sSel_at {lh ld : Int → Int} {h d : Int} {n : Nat} (hm : lh n = h ∧ ld n = d) : sSel lh ld h d (n + 1) (sCnt lh ld h d n) = n := by
  show (if lh n = h ∧ ld n = d ∧ sCnt lh ld h d n = sCnt lh ld h d n then (n : Int) else _) = _
  rw [if_pos ⟨hm.1, hm.2, rfl⟩]
/-- a sum over the picked ones -/
def sSum (g : Int → Int) : Nat → Int
  | 0 => 0
  | n + 1 => sSum g n + g n
theorem sSum_congr {g g' : Int → Int} : ∀ n : Nat, (∀ j : Int, 0 ≤ j → j < n → g j = g' j) → sSum g n = sSum g' n
  | 0, _ => rfl
  | n + 1, h => by
    unfold sSum
    rw [sSum_congr n (fun j a b => h j a (by omega)), h n (by omega) (by omega)]
theorem fWork_sel (ck cm ce lh ld wh li lo : Int → Int) (h d w : Int) : ∀ n : Nat, fWork ck cm ce lh ld wh li lo h d w n = sSum (fun j => fPart ck cm ce wh li lo (sSel lh ld h d n j) w) (sCnt lh ld h d n).toNat
  | 0 => rfl
  | n + 1 => by
    have ih := fWork_sel ck cm ce lh ld wh li lo h d w n
    have hc := sCnt_in lh ld h d n
    unfold fWork sCnt
    by_cases hm : lh n = h ∧ ld n = d
    · rw [if_pos hm, if_pos hm, toNat_s hc.1]
      unfold sSum
      rw [ih, toNat_c hc.1, sSel_at hm]
      congr 1
      exact sSum_congr _ (fun j a b => by rw [sSel_lt (by omega)])
    · rw [if_neg hm, if_neg hm, Int.add_zero, Int.add_zero, ih]
      exact sSum_congr _ (fun j a b => by rw [sSel_lt (by omega)])
/-- in surely at both -/
def fClash (ck cm ce wh li lo : Int → Int) (a b : Int) : Bool := decide (max (fTruth ck cm ce (wh a) (li a) 1) (fTruth ck cm ce (wh b) (li b) 1) < min (fTruth ck cm ce (wh a) (lo a) 0) (fTruth ck cm ce (wh b) (lo b) 0))
theorem fClash_comm (ck cm ce wh li lo : Int → Int) (a b : Int) : fClash ck cm ce wh li lo a b = fClash ck cm ce wh li lo b a := by
  unfold fClash
  rw [Int.max_comm, Int.min_comm]
/-- pairs b < a < n that clash -/
def cRow (g : Int → Int → Bool) (a : Int) : Nat → Int
  | 0 => 0
  | n + 1 => cRow g a n + (if g a n = true then 1 else 0)
def cAll (g : Int → Int → Bool) : Nat → Int
  | 0 => 0
  | n + 1 => cAll g n + cRow g n n
theorem cRow_in (g : Int → Int → Bool) (a : Int) : ∀ n : Nat, 0 ≤ cRow g a n ∧ cRow g a n ≤ n
  | 0 => by unfold cRow; omega
  | n + 1 => by
    have := cRow_in g a n
    unfold cRow
    split <;> omega
theorem cAll_in (g : Int → Int → Bool) : ∀ n : Nat, n ≤ 60 → 0 ≤ cAll g n ∧ cAll g n ≤ 60 * n
  | 0, _ => by unfold cAll; omega
  | n + 1, h => by
    have := cAll_in g n (by omega)
    have := cRow_in g n n
    unfold cAll
    omega
theorem jup_at (M : jM) (c k v j : Int) : jup M c k v c j = if j = k then v else M c j := by
  unfold jup
  by_cases h : j = k <;> simp [h]
/-- a row of the picked ones grows -/
theorem sSel_put {lh ld : Int → Int} {h d x v : Int} {n : Nat} {g F : Int → Int} (hx : x = sCnt lh ld h d n) (hm : lh n = h ∧ ld n = d) (hv : v = F n) (h5 : ∀ j, 0 ≤ j → j < x → g j = F (sSel lh ld h d n j)) : ∀ j, 0 ≤ j → j < x + 1 → (if j = x then v else g j) = F (sSel lh ld h d (n + 1) j) := by
  intro j j0 j1
  by_cases hj : j = x
  · rw [if_pos hj, hj, hx, sSel_at hm, hv]
  · rw [if_neg hj, sSel_lt (by omega)]
    exact h5 j j0 (by omega)
theorem sSel_skip {lh ld : Int → Int} {h d x : Int} {n : Nat} {g F : Int → Int} (hx : x = sCnt lh ld h d n) (h5 : ∀ j, 0 ≤ j → j < x → g j = F (sSel lh ld h d n j)) : ∀ j, 0 ≤ j → j < x → g j = F (sSel lh ld h d (n + 1) j) := by
  intro j j0 j1
  rw [sSel_lt (by omega)]
  exact h5 j j0 j1
theorem sCnt_yes {lh ld : Int → Int} {h d : Int} {n : Nat} (hm : lh n = h ∧ ld n = d) : sCnt lh ld h d (n + 1) = sCnt lh ld h d n + 1 := by
  show sCnt lh ld h d n + (if lh n = h ∧ ld n = d then 1 else 0) = _
  rw [if_pos hm]
theorem sCnt_no {lh ld : Int → Int} {h d : Int} {n : Nat} (hm : ¬ (lh n = h ∧ ld n = d)) : sCnt lh ld h d (n + 1) = sCnt lh ld h d n := by
  show sCnt lh ld h d n + (if lh n = h ∧ ld n = d then 1 else 0) = _
  rw [if_neg hm]; omega
/-! the class's picked lines -/
def pT (M : jM) (z t w : Int) : Int := fTruth (M 6) (M 7) (M 8) (M 19 z) t w
def pPicked (M N : jM) (h d : Int) (n : Nat) : Prop :=
  N 16 6 = sCnt (M 17) (M 18) h d n ∧
  (∀ j, 0 ≤ j → j < N 16 6 → N 22 j = M 19 (sSel (M 17) (M 18) h d n j)) ∧
  (∀ j, 0 ≤ j → j < N 16 6 → N 23 j = (fun z => pT M z (M 20 z) 0) (sSel (M 17) (M 18) h d n j)) ∧
  (∀ j, 0 ≤ j → j < N 16 6 → N 24 j = (fun z => pT M z (M 20 z) 1) (sSel (M 17) (M 18) h d n j)) ∧
  (∀ j, 0 ≤ j → j < N 16 6 → N 25 j = (fun z => pT M z (M 21 z) 0) (sSel (M 17) (M 18) h d n j)) ∧
  (∀ j, 0 ≤ j → j < N 16 6 → N 26 j = (fun z => pT M z (M 21 z) 1) (sSel (M 17) (M 18) h d n j)) ∧
  (∀ c, c ≠ 16 → c ≠ 22 → c ≠ 23 → c ≠ 24 → c ≠ 25 → c ≠ 26 → N c = M c) ∧ (∀ k, k ≠ 6 → N 16 k = M 16 k)
/-- what the readers of the picked lines need -/
def pRg (M : jM) : Prop := (0 ≤ M 16 6 ∧ M 16 6 ≤ 60) ∧ ∀ j, 0 ≤ j → j < M 16 6 → (M 22 j = -9 ∨ (0 ≤ M 22 j ∧ M 22 j < 6)) ∧ (-100 ≤ M 23 j ∧ M 23 j ≤ 1540) ∧ (-100 ≤ M 24 j ∧ M 24 j ≤ 1540) ∧ (-100 ≤ M 25 j ∧ M 25 j ≤ 1540) ∧ (-100 ≤ M 26 j ∧ M 26 j ≤ 1540)
theorem pPicked.rg {M N : jM} {h d : Int} {n : Nat} (hp : pPicked M N h d n) (hn : n ≤ 60) (hw : ∀ i, M 19 i = -9 ∨ (0 ≤ M 19 i ∧ M 19 i < 6)) (he : ∀ i, -90 ≤ M 8 i ∧ M 8 i ≤ 90) (hi : ∀ i, 0 ≤ M 20 i ∧ M 20 i ≤ 1439) (ho : ∀ i, 0 ≤ M 21 i ∧ M 21 i ≤ 1440) : pRg N := by
  obtain ⟨p1, p2, p3, p4, p5, p6, -, -⟩ := hp
  have hc := sCnt_in (M 17) (M 18) h d n
  refine ⟨by omega, fun j j0 j1 => ?_⟩
  have x := hw (sSel (M 17) (M 18) h d n j)
  have y := hi (sSel (M 17) (M 18) h d n j)
  have z := ho (sSel (M 17) (M 18) h d n j)
  have t3 := fTruth_in (ck := M 6) (cm := M 7) he (M 19 (sSel (M 17) (M 18) h d n j)) (M 20 (sSel (M 17) (M 18) h d n j)) 0
  have t4 := fTruth_in (ck := M 6) (cm := M 7) he (M 19 (sSel (M 17) (M 18) h d n j)) (M 20 (sSel (M 17) (M 18) h d n j)) 1
  have t5 := fTruth_in (ck := M 6) (cm := M 7) he (M 19 (sSel (M 17) (M 18) h d n j)) (M 21 (sSel (M 17) (M 18) h d n j)) 0
  have t6 := fTruth_in (ck := M 6) (cm := M 7) he (M 19 (sSel (M 17) (M 18) h d n j)) (M 21 (sSel (M 17) (M 18) h d n j)) 1
  rw [p2 j j0 j1, p3 j j0 j1, p4 j j0 j1, p5 j j0 j1, p6 j j0 j1]
  simp only [pT]
  exact ⟨x, by omega, by omega, by omega, by omega⟩
def pLasts (M : jM) (k s : Int) : Int := max 0 (if s = 2 then M 25 k - M 24 k else M 26 k - M 23 k)
theorem pLasts_in {M : jM} (hr : pRg M) {k : Int} (h0 : 0 ≤ k) (h1 : k < M 16 6) (s : Int) : 0 ≤ pLasts M k s ∧ pLasts M k s ≤ 1640 := by
  obtain ⟨-, a, b, c, e⟩ := hr.2 k h0 h1
  unfold pLasts
  split <;> omega
theorem sSum_in {g : Int → Int} {B : Int} : ∀ n : Nat, (∀ j : Int, 0 ≤ j → j < n → 0 ≤ g j ∧ g j ≤ B) → 0 ≤ sSum g n ∧ sSum g n ≤ B * n
  | 0, _ => by unfold sSum; omega
  | n + 1, h => by
    have a := sSum_in n (fun j x y => h j x (by omega))
    have b := h n (by omega) (by omega)
    unfold sSum
    rw [show ((n + 1 : Nat) : Int) = (n : Int) + 1 by omega, Int.mul_add]
    omega
def pWorked (M : jM) (s j : Int) : Int := if M 22 j = -9 then 0 else pLasts M j s
def pSchool (M : jM) (j : Int) : Int := if M 22 j = -9 then pLasts M j 2 else 0
def pLongest (M : jM) (m s : Int) : Nat → Int
  | 0 => 0
  | n + 1 => if M 22 n = m then max (pLongest M m s n) (pLasts M n s) else pLongest M m s n
/-- does one of the first n picked ones have it -/
def pAny (p : Int → Prop) [DecidablePred p] (n : Nat) : Prop := ∃ j : Int, 0 ≤ j ∧ j < n ∧ p j
theorem pWorked_eq {M N : jM} {h d s : Int} {n : Nat} (hp : pPicked M N h d n) (hs : s = 2 ∨ s = 1) (j : Int) (j0 : 0 ≤ j) (j1 : j < N 16 6) : pWorked N s j = fPart (M 6) (M 7) (M 8) (M 19) (M 20) (M 21) (sSel (M 17) (M 18) h d n j) (2 - s) := by
  obtain ⟨p1, p2, p3, p4, p5, p6, -, -⟩ := hp
  unfold pWorked pLasts fPart fLong
  rw [p2 j j0 j1, p3 j j0 j1, p4 j j0 j1, p5 j j0 j1, p6 j j0 j1]
  simp only [pT]
  rcases hs with rfl | rfl
  · simp
  · simp
theorem pSchool_eq {M N : jM} {h d : Int} {n : Nat} (hp : pPicked M N h d n) (hio : ∀ i, M 20 i ≤ M 21 i) (j : Int) (j0 : 0 ≤ j) (j1 : j < N 16 6) : pSchool N j = fPart (M 6) (M 7) (M 8) (M 19) (M 20) (M 21) (sSel (M 17) (M 18) h d n j) 2 := by
  obtain ⟨p1, p2, p3, p4, p5, p6, -, -⟩ := hp
  unfold pSchool pLasts fPart
  rw [p2 j j0 j1, p3 j j0 j1, p4 j j0 j1, p5 j j0 j1, p6 j j0 j1]
  simp only [pT]
  have := hio (sSel (M 17) (M 18) h d n j)
  by_cases hw : M 19 (sSel (M 17) (M 18) h d n j) = -9
  · simp only [hw, if_true, fTruth]
    omega
  · simp [hw]
