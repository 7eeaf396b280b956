/-! ===== what both sides answer, as functions of the numbers that they hold ===== -/
def fCustom (k g p : Int) : Int := if k = 0 then 900 - 30 * g else if k = 1 then (900 - 30 * g) / 2 + 30 else if k = 2 then 900 - 30 * g - 150 else if k = 3 then (900 - 30 * g) / 2 + 30 - 45 else if k = 4 then 900 - 30 * g - (900 - 30 * g) / 10 else (900 - 30 * g) / 2 + 30 + 15 * p
def fTrace (k : Int) : Int := if k = 0 then 1 else if k = 1 then 11 else if k = 2 then 101 else if k = 3 then 1011 else if k = 4 then 10001 else 100011
def pLeast (pp : Int → Int) (k : Int) : Int := if pp k = 0 then pp (k + 1) else if pp k = 1 then 360 * (pp (k + 1) / 3) - pp (k + 2) else 360 * pp (k + 1) - pp (k + 2)
def pMost (pp : Int → Int) (k : Int) : Int := if pp k = 0 then pp (k + 1) else if pp k = 1 then 360 * (pp (k + 1) / 2 + 5) - pp (k + 2) - 1 else 10799
def bFrom (pp : Int → Int) (h : Int) : Nat → Int
  | 0 => 0
  | n + 1 => max (bFrom pp h n) (pLeast pp (9 * h + 3 * n))
def bTo (pp : Int → Int) (h : Int) : Nat → Int
  | 0 => 10799
  | n + 1 => min (bTo pp h n) (pMost pp (9 * h + 3 * n))
def fBorn (pp np : Int → Int) (h w : Int) : Int :=
  if w = 2 then (if bTo pp h (np h).toNat < bFrom pp h (np h).toNat then 1 else 0) else if w = 0 then (if bTo pp h (np h).toNat < bFrom pp h (np h).toNat then 0 else bFrom pp h (np h).toNat) else (if bTo pp h (np h).toNat < bFrom pp h (np h).toNat then 10799 else bTo pp h (np h).toNat)
def tAhead (cm : Int → Int) (b t : Int) : Nat → Int
  | 0 => -9
  | n + 1 => if cm (b + n) ≤ t ∧ (tAhead cm b t n = -9 ∨ cm (tAhead cm b t n) ≤ cm (b + n)) then b + n else tAhead cm b t n
def tBehind (cm : Int → Int) (b t : Int) : Nat → Int
  | 0 => -9
  | n + 1 => if t ≤ cm (b + n) ∧ (tBehind cm b t n = -9 ∨ cm (b + n) ≤ cm (tBehind cm b t n)) then b + n else tBehind cm b t n
theorem tAhead_in (cm : Int → Int) (b t : Int) : ∀ n : Nat, tAhead cm b t n = -9 ∨ (b ≤ tAhead cm b t n ∧ tAhead cm b t n < b + n)
  | 0 => Or.inl rfl
  | n + 1 => by
    have := tAhead_in cm b t n
    unfold tAhead
    split <;> omega
theorem tBehind_in (cm : Int → Int) (b t : Int) : ∀ n : Nat, tBehind cm b t n = -9 ∨ (b ≤ tBehind cm b t n ∧ tBehind cm b t n < b + n)
  | 0 => Or.inl rfl
  | n + 1 => by
    have := tBehind_in cm b t n
    unfold tBehind
    split <;> omega
def tJoin (ce : Int → Int) (a b t w : Int) : Int :=
  if a = -9 ∧ b = -9 then t else if a = -9 ∨ b = -9 then t + ce (if a = -9 then b else a) + (if w = 0 then -10 else 10) else t + (if w = 0 then min (ce a) (ce b) else max (ce a) (ce b))
def fTruth (ck cm ce : Int → Int) (m t w : Int) : Int :=
  if m = -9 then t else tJoin ce (tAhead cm (4 * m) t (ck m).toNat) (tBehind cm (4 * m) t (ck m).toNat) t w
theorem nat_of {x : Int} (h : 0 ≤ x) : ∃ n : Nat, x = (n : Int) := ⟨x.toNat, (Int.toNat_of_nonneg h).symm⟩
theorem toNat_s {x : Int} (h : 0 ≤ x) : (x + 1).toNat = x.toNat + 1 := by omega
theorem toNat_c {x : Int} (h : 0 ≤ x) : ((x.toNat : Nat) : Int) = x := Int.toNat_of_nonneg h
def fMill (n a b c : Int) : Int := if 0 ≤ a ∧ a ≤ 3 ∧ 1 ≤ b ∧ b ≤ 9 ∧ 1 ≤ c ∧ c ≤ 8 then (if n = 6 then -3 else n) else -1
def fHand (n a b : Int) : Int := if 0 ≤ a ∧ a ≤ 5 ∧ 0 ≤ b ∧ b ≤ 3 then (if n = 24 then -3 else n) else -1
def fPaper (nh : Int) (np : Int → Int) (h s n d : Int) : Int := if 0 ≤ h ∧ h < nh ∧ 0 ≤ s ∧ s ≤ 2 ∧ 0 ≤ n ∧ (s = 0 → n ≤ 9999) ∧ (s = 1 → n ≤ 32) ∧ (s = 2 → n ≤ 30) ∧ (0 < s → 0 ≤ d ∧ d ≤ 359) then (if np h = 3 then -3 else np h + 1) else -1
def fBornQ (nh : Int) (pp np : Int → Int) (h w : Int) : Int := if 0 ≤ h ∧ h < nh ∧ 0 ≤ w ∧ w ≤ 2 then fBorn pp np h w else -1
def fAge (pp np : Int → Int) (h d w : Int) : Int := (fBorn pp np h w + d) / 360
def fAgeQ (nh : Int) (pp np : Int → Int) (h d w : Int) : Int := if 0 ≤ h ∧ h < nh ∧ 0 ≤ d ∧ d ≤ 359 ∧ 0 ≤ w ∧ w ≤ 1 then fAge pp np h d w else -1
def fCustomQ (nh : Int) (gr np : Int → Int) (k h : Int) : Int := if 0 ≤ k ∧ k ≤ 5 ∧ 0 ≤ h ∧ h < nh then fCustom k (gr h) (np h) else -1
def fCheck (nm : Int) (ck : Int → Int) (m t e : Int) : Int := if 0 ≤ m ∧ m < nm ∧ 0 ≤ t ∧ t ≤ 1439 ∧ -90 ≤ e ∧ e ≤ 90 then (if ck m = 4 then -3 else ck m + 1) else -1
def fTruthQ (nm : Int) (ck cm ce : Int → Int) (m t w : Int) : Int := if 0 ≤ m ∧ m < nm ∧ 0 ≤ t ∧ t ≤ 1440 ∧ 0 ≤ w ∧ w ≤ 1 then fTruth ck cm ce m t w else -999
def fLine (nh nm nl h d w i o : Int) : Int := if 0 ≤ h ∧ h < nh ∧ 0 ≤ d ∧ d ≤ 359 ∧ (w = -9 ∨ (0 ≤ w ∧ w < nm)) ∧ 0 ≤ i ∧ i < o ∧ o ≤ 1440 then (if nl = 60 then -3 else nl + 1) else -1
/-- a line's length: surely (w = 0), at most -/
def fLong (ck cm ce wh li lo : Int → Int) (k w : Int) : Int := max 0 (if w = 0 then fTruth ck cm ce (wh k) (lo k) 0 - fTruth ck cm ce (wh k) (li k) 1 else fTruth ck cm ce (wh k) (lo k) 1 - fTruth ck cm ce (wh k) (li k) 0)
/-- one line's share of WORK -/
def fPart (ck cm ce wh li lo : Int → Int) (k w : Int) : Int := if wh k = -9 then (if w = 2 then lo k - li k else 0) else (if w = 2 then 0 else fLong ck cm ce wh li lo k w)
def fWork (ck cm ce lh ld wh li lo : Int → Int) (h d w : Int) : Nat → Int
  | 0 => 0
  | n + 1 => fWork ck cm ce lh ld wh li lo h d w n + (if lh n = h ∧ ld n = d then fPart ck cm ce wh li lo n w else 0)
theorem tJoin_in {ce : Int → Int} (he : ∀ i, -90 ≤ ce i ∧ ce i ≤ 90) (a b t w : Int) : t - 100 ≤ tJoin ce a b t w ∧ tJoin ce a b t w ≤ t + 100 := by
  unfold tJoin
  have h1 := he a
  have h2 := he b
  have h3 := he (if a = -9 then b else a)
  split
  · omega
  · split
    · split <;> omega
    · split <;> omega
theorem fTruth_in {ck cm ce : Int → Int} (he : ∀ i, -90 ≤ ce i ∧ ce i ≤ 90) (m t w : Int) : t - 100 ≤ fTruth ck cm ce m t w ∧ fTruth ck cm ce m t w ≤ t + 100 := by
  unfold fTruth
  split
  · omega
  · exact tJoin_in he _ _ _ _
theorem fLong_in {ck cm ce wh li lo : Int → Int} (he : ∀ i, -90 ≤ ce i ∧ ce i ≤ 90) (h1 : ∀ i, 0 ≤ li i ∧ li i ≤ 1439) (h2 : ∀ i, 0 ≤ lo i ∧ lo i ≤ 1440) (k w : Int) : 0 ≤ fLong ck cm ce wh li lo k w ∧ fLong ck cm ce wh li lo k w ≤ 1640 := by
  unfold fLong
  have a1 := fTruth_in (ck := ck) (cm := cm) he (wh k) (lo k) 0
  have a2 := fTruth_in (ck := ck) (cm := cm) he (wh k) (lo k) 1
  have a3 := fTruth_in (ck := ck) (cm := cm) he (wh k) (li k) 0
  have a4 := fTruth_in (ck := ck) (cm := cm) he (wh k) (li k) 1
  have b1 := h1 k
  have b2 := h2 k
  split <;> omega
theorem fPart_in {ck cm ce wh li lo : Int → Int} (he : ∀ i, -90 ≤ ce i ∧ ce i ≤ 90) (h1 : ∀ i, 0 ≤ li i ∧ li i ≤ 1439) (h2 : ∀ i, 0 ≤ lo i ∧ lo i ≤ 1440) (k w : Int) : -1640 ≤ fPart ck cm ce wh li lo k w ∧ fPart ck cm ce wh li lo k w ≤ 1640 := by
  unfold fPart
  have a1 := fLong_in (ck := ck) (cm := cm) (wh := wh) he h1 h2 k w
  have b1 := h1 k
  have b2 := h2 k
  split <;> split <;> omega
theorem fWork_in {ck cm ce lh ld wh li lo : Int → Int} (he : ∀ i, -90 ≤ ce i ∧ ce i ≤ 90) (h1 : ∀ i, 0 ≤ li i ∧ li i ≤ 1439) (h2 : ∀ i, 0 ≤ lo i ∧ lo i ≤ 1440) (h d w : Int) : ∀ n : Nat, -1640 * (n : Int) ≤ fWork ck cm ce lh ld wh li lo h d w n ∧ fWork ck cm ce lh ld wh li lo h d w n ≤ 1640 * (n : Int)
  | 0 => by unfold fWork; omega
  | n + 1 => by
    have := fWork_in (ck := ck) (cm := cm) (lh := lh) (ld := ld) (wh := wh) he h1 h2 h d w n
    have a1 := fPart_in (ck := ck) (cm := cm) (wh := wh) he h1 h2 n w
    unfold fWork
    split <;> omega
/-- PAPERS in the reference's row: sort, number, day (of a BIRTH any) -/
def pOk (pp : Int → Int) : Prop := ∀ i, (0 ≤ pp (3 * i) ∧ pp (3 * i) ≤ 2) ∧ (0 ≤ pp (3 * i + 1) ∧ pp (3 * i + 1) ≤ 9999) ∧ (pp (3 * i) = 0 ∨ (0 ≤ pp (3 * i + 2) ∧ pp (3 * i + 2) ≤ 359))
theorem pOk_at {pp : Int → Int} (hp : pOk pp) (h n : Int) : (0 ≤ pp (9 * h + 3 * n) ∧ pp (9 * h + 3 * n) ≤ 2) ∧ (0 ≤ pp (9 * h + 3 * n + 1) ∧ pp (9 * h + 3 * n + 1) ≤ 9999) ∧ (pp (9 * h + 3 * n) = 0 ∨ (0 ≤ pp (9 * h + 3 * n + 2) ∧ pp (9 * h + 3 * n + 2) ≤ 359)) := by
  have := hp (3 * h + n)
  rw [show 3 * (3 * h + n) = 9 * h + 3 * n by omega] at this
  exact this
theorem bFrom_in {pp : Int → Int} (hp : pOk pp) (h : Int) : ∀ n : Nat, 0 ≤ bFrom pp h n ∧ bFrom pp h n ≤ 3600000
  | 0 => by unfold bFrom; omega
  | n + 1 => by
    have := bFrom_in hp h n
    unfold bFrom pLeast
    have a := pOk_at hp h n
    split
    · omega
    · split <;> omega
theorem bTo_in {pp : Int → Int} (hp : pOk pp) (h : Int) : ∀ n : Nat, -10000 ≤ bTo pp h n ∧ bTo pp h n ≤ 10799
  | 0 => by unfold bTo; omega
  | n + 1 => by
    have := bTo_in hp h n
    unfold bTo pMost
    have a := pOk_at hp h n
    split
    · omega
    · split <;> omega
theorem fBorn_in {pp np : Int → Int} (hp : pOk pp) (h w : Int) : 0 ≤ fBorn pp np h w ∧ fBorn pp np h w ≤ 10799 := by
  unfold fBorn
  have a := bFrom_in hp h (np h).toNat
  have b := bTo_in hp h (np h).toNat
  (repeat' split) <;> omega
theorem jup_zz : True := trivial
def fBench (n k : Int) : Int := if 0 ≤ k ∧ k ≤ 1023 then (if n = 5 then -3 else n) else -1
def fBase (bs : Int → Int) (o v : Int) : Int := if 0 ≤ o ∧ o ≤ 5 ∧ 0 ≤ v ∧ v ≤ 500 then bs o else -1
/-- how many cases ahead of i stand for the mill -/
def fAheadN (sd cm : Int → Int) (m : Int) : Nat → Int
  | 0 => 1
  | n + 1 => fAheadN sd cm m n + (if ¬ sd n = 0 ∧ cm n = m then 1 else 0)
def fFine (sd cm co bs : Int → Int) (i : Int) : Int := if sd i = 0 then 0 else bs (co i) * fAheadN sd cm (cm i) i.toNat
def fFines (sd cm co bs : Int → Int) (m : Int) : Nat → Int
  | 0 => 0
  | n + 1 => fFines sd cm co bs m n + (if m = -9 ∨ cm n = m then fFine sd cm co bs n else 0)
def fSuit (nc : Int) (sd cm co cb bs : Int → Int) (i w : Int) : Int := if 0 ≤ i ∧ i < nc ∧ 0 ≤ w ∧ w ≤ 4 then (if w = 0 then cb i else if w = 1 then fFine sd cm co bs i else if w = 2 then (if sd i = 0 then 0 else 1) else if w = 3 then cm i else co i) else -1
def fStanding (sd : Int → Int) : Nat → Int
  | 0 => 0
  | n + 1 => fStanding sd n + (if sd n = 0 then 0 else 1)
/-- an appeal of i: what stands behind it, up to n -/
def fFall (sd ch co : Int → Int) (i : Int) : Nat → Int → Int
  | 0 => sd
  | n + 1 => fun k => if k = i + n ∧ ¬ sd k = 0 ∧ ch k = ch i ∧ co k = co i then 0 else fFall sd ch co i n k
def fFell (sd ch co : Int → Int) (i : Int) : Nat → Int
  | 0 => 0
  | n + 1 => fFell sd ch co i n + (if ¬ sd (i + n) = 0 ∧ ch (i + n) = ch i ∧ co (i + n) = co i then 1 else 0)
def fRoad (rd : Int → Int) (a b v : Int) : Int := if 0 ≤ a ∧ a ≤ 8 ∧ 0 ≤ b ∧ b ≤ 8 ∧ ¬ a = b ∧ 1 ≤ v ∧ v ≤ 30 then rd (9 * a + b) else -1
def fDoubt (nm : Int) (db : Int → Int) (m v : Int) : Int := if 0 ≤ m ∧ m < nm ∧ 0 ≤ v ∧ v ≤ 99 then db m else -1
def fCount (a0 a1 a2 a3 a4 a5 a6 a7 w : Int) : Int := if w = 0 then a0 else if w = 1 then a1 else if w = 2 then a2 else if w = 3 then a3 else if w = 4 then a4 else if w = 5 then a5 else if w = 6 then a6 else if w = 7 then a7 else -1
theorem fAheadN_in (sd cm : Int → Int) (m : Int) : ∀ n : Nat, 1 ≤ fAheadN sd cm m n ∧ fAheadN sd cm m n ≤ n + 1
  | 0 => by unfold fAheadN; omega
  | n + 1 => by
    have := fAheadN_in sd cm m n
    unfold fAheadN
    split <;> omega
theorem mul_in {a b A B : Int} (ha : 0 ≤ a ∧ a ≤ A) (hb : 0 ≤ b ∧ b ≤ B) : 0 ≤ a * b ∧ a * b ≤ A * B := ⟨Int.mul_nonneg ha.1 hb.1, Int.mul_le_mul ha.2 hb.2 hb.1 (by omega)⟩
theorem fFine_in {sd cm co bs : Int → Int} (hb : ∀ i, 0 ≤ bs i ∧ bs i ≤ 500) {i : Int} (h0 : 0 ≤ i) (h1 : i < 20) : 0 ≤ fFine sd cm co bs i ∧ fFine sd cm co bs i ≤ 10500 := by
  unfold fFine
  split
  · omega
  · have a := fAheadN_in sd cm (cm i) i.toNat
    have b := mul_in (hb (co i)) (show 0 ≤ fAheadN sd cm (cm i) i.toNat ∧ fAheadN sd cm (cm i) i.toNat ≤ 21 by omega)
    omega
theorem fFines_in {sd cm co bs : Int → Int} (hb : ∀ i, 0 ≤ bs i ∧ bs i ≤ 500) (m : Int) : ∀ n : Nat, n ≤ 20 → 0 ≤ fFines sd cm co bs m n ∧ fFines sd cm co bs m n ≤ 10500 * n
  | 0, _ => by unfold fFines; omega
  | n + 1, h => by
    have a := fFines_in (sd := sd) (cm := cm) (co := co) hb m n (by omega)
    have b := fFine_in (sd := sd) (cm := cm) (co := co) hb (show (0 : Int) ≤ n by omega) (by omega)
    unfold fFines
    split <;> omega
theorem fStanding_in (sd : Int → Int) : ∀ n : Nat, 0 ≤ fStanding sd n ∧ fStanding sd n ≤ n
  | 0 => by unfold fStanding; omega
  | n + 1 => by
    have := fStanding_in sd n
    unfold fStanding
    split <;> omega
theorem fFell_in (sd ch co : Int → Int) (i : Int) : ∀ n : Nat, 0 ≤ fFell sd ch co i n ∧ fFell sd ch co i n ≤ n
  | 0 => by unfold fFell; omega
  | n + 1 => by
    have := fFell_in sd ch co i n
    unfold fFell
    split <;> omega
def nNarrow (M : jM) (h a b : Int) : jM := if ¬ M 14 h = 0 then M else if min (M 13 h) b < max (M 12 h) a then jup (jup (jup (jup (jup M 12 h (max (M 12 h) a)) 13 h (min (M 13 h) b)) 14 h 1) 12 h 0) 13 h 10799 else jup (jup M 12 h (max (M 12 h) a)) 13 h (min (M 13 h) b)
theorem nNarrow_fr {M : jM} {h a b c : Int} (h1 : c ≠ 12) (h2 : c ≠ 13) (h3 : c ≠ 14) : nNarrow M h a b c = M c := by
  unfold nNarrow
  (repeat' split) <;> simp only [jup_cell h1, jup_cell h2, jup_cell h3]
def cLeast (s n d : Int) : Int := if s = 0 then n else if s = 1 then n / 3 * 360 - d else n * 360 - d
def cMost (s n d : Int) : Int := if s = 0 then n else if s = 1 then (n / 2 + 5) * 360 - d - 1 else 10799
def nPaper (M : jM) (h s n d : Int) : jM := jup (nNarrow M h (cLeast s n d) (cMost s n d)) 11 h (M 11 h + 1)
theorem fFall_ge {sd ch co : Int → Int} {i : Int} : ∀ {n : Nat} {k : Int}, i + n ≤ k → fFall sd ch co i n k = sd k
  | 0, k, _ => rfl
  | n + 1, k, h => by
    unfold fFall
    rw [if_neg (by omega)]
    exact fFall_ge (by omega)
