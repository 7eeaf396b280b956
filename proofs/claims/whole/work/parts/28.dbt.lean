/-! ===== the fewest doubted ===== -/
def zOnes (s : Int) : Nat → Int
  | 0 => 0
  | k + 1 => zOnes s k + zBit s k
theorem zOnes_in (s : Int) : ∀ n : Nat, 0 ≤ zOnes s n ∧ zOnes s n ≤ n
  | 0 => ⟨Int.le_refl _, Int.le_refl _⟩
  | n + 1 => by
    have := zOnes_in s n
    have := zBit_in s n
    unfold zOnes
    omega
theorem zOnes_s {s i : Int} (h : 0 ≤ i) : zOnes s (i + 1).toNat = zOnes s i.toNat + zBit s i := by
  rw [toNat_s h]
  show zOnes s i.toNat + zBit s ((i.toNat : Nat) : Int) = _
  rw [toNat_c h]
def bc1 (i : Int) : Int := i - jand (jushr i 1) 1431655765
def bc2 (i : Int) : Int := jand (bc1 i) 858993459 + jand (jushr (bc1 i) 2) 858993459
def bc3 (i : Int) : Int := bc2 i + jushr (bc2 i) 4
def bc4 (i : Int) : Int := jand (bc3 i) 252645135 + jushr (jand (bc3 i) 252645135) 8
def bc5 (i : Int) : Int := bc4 i + jushr (bc4 i) 16
theorem bc_all : ∀ a : Nat, a < 64 → ∀ b : Nat, b < 64 → jr (bc1 ((64 * a + b : Nat) : Int)) ∧ jr (bc2 ((64 * a + b : Nat) : Int)) ∧ jr (bc3 ((64 * a + b : Nat) : Int)) ∧ jr (bc4 ((64 * a + b : Nat) : Int)) ∧ jr (bc5 ((64 * a + b : Nat) : Int)) ∧ jand (bc5 ((64 * a + b : Nat) : Int)) 63 = zOnes ((64 * a + b : Nat) : Int) 16 := by decide +kernel
theorem bc_i {i : Int} (h : 0 ≤ i ∧ i < 4096) : jr (bc1 i) ∧ jr (bc2 i) ∧ jr (bc3 i) ∧ jr (bc4 i) ∧ jr (bc5 i) ∧ jand (bc5 i) 63 = zOnes i 16 := by
  have g := bc_all (i.toNat / 64) (by omega) (i.toNat % 64) (by omega)
  rw [show ((64 * (i.toNat / 64) + i.toNat % 64 : Nat) : Int) = i by omega] at g
  exact g
theorem p2k {n : Int} (h : 0 ≤ n ∧ n ≤ 12) : (2 : Int) ^ n.toNat ≤ 4096 ∧ (0 : Int) < 2 ^ n.toNat ∧ jshl 1 n = 2 ^ n.toNat := by
  have : (2 : Int) ^ n.toNat ≤ 2 ^ 12 := by
    have h2 : 2 ^ n.toNat ≤ 2 ^ 12 := Nat.pow_le_pow_right (by omega) (by omega)
    have e : ((2 ^ n.toNat : Nat) : Int) = (2 : Int) ^ n.toNat := by simp
    rw [← e]
    exact_mod_cast h2
  exact ⟨this, Int.pow_pos (by decide), jshl1' ⟨by omega, by omega⟩⟩
def dV (g : Int → Int → Bool) (n s : Int) : Prop := ∀ a b, 0 ≤ b → b < a → a < n → tb s a = true ∨ tb s b = true ∨ g a b = false
def dR (g : Int → Int → Bool) (a m s : Int) : Prop := ∀ b, 0 ≤ b → b < m → tb s a = true ∨ tb s b = true ∨ g a b = false
def dLs (g : Int → Int → Bool) (n r : Int) (P : Int → Prop) : Prop := (0 ≤ r ∧ r < 2 ^ n.toNat) ∧ dV g n r ∧ ∀ s, 0 ≤ s → s < 2 ^ n.toNat → P s → dV g n s → zOnes r 16 < zOnes s 16 ∨ (zOnes r 16 = zOnes s 16 ∧ r ≤ s)
def dAns (g : Int → Int → Bool) (n w r : Int) : Prop := ∃ s, dLs g n s (fun _ => True) ∧ r = (if w = 0 then zOnes s 16 else s)
theorem dLs_u {g : Int → Int → Bool} {n r r' : Int} (h : dLs g n r (fun _ => True)) (h' : dLs g n r' (fun _ => True)) : r = r' := by
  have a := h.2.2 r' h'.1.1 h'.1.2 trivial h'.2.1
  have b := h'.2.2 r h.1.1 h.1.2 trivial h.2.1
  omega
theorem dAns_u {g : Int → Int → Bool} {n w r r' : Int} (h : dAns g n w r) (h' : dAns g n w r') : r = r' := by
  obtain ⟨s, hs, e⟩ := h
  obtain ⟨s', hs', e'⟩ := h'
  rw [e, e', dLs_u hs hs']
theorem dV_cg {g g' : Int → Int → Bool} {n s : Int} (hg : ∀ a b, 0 ≤ a → a < n → 0 ≤ b → b < n → g a b = g' a b) (h : dV g n s) : dV g' n s := by
  intro a b b0 ba an
  have := h a b b0 ba an
  rw [hg a b (by omega) an b0 (by omega)] at this
  exact this
theorem dLs_cg {g g' : Int → Int → Bool} {n r : Int} {P : Int → Prop} (hg : ∀ a b, 0 ≤ a → a < n → 0 ≤ b → b < n → g a b = g' a b) (h : dLs g n r P) : dLs g' n r P :=
  ⟨h.1, dV_cg hg h.2.1, fun s s0 s1 p v => h.2.2 s s0 s1 p (dV_cg (fun a b a0 a1 b0 b1 => (hg a b a0 a1 b0 b1).symm) v)⟩
theorem tb_all {n : Nat} {k : Nat} (h : k < n) : tb ((2 : Int) ^ n - 1) k = true := by
  unfold tb
  have e : (((2 : Int) ^ n - 1)).toNat = 2 ^ n - 1 := p2m
  rw [e]
  simp [h]
theorem dV_all (g : Int → Int → Bool) {n : Int} : dV g n (2 ^ n.toNat - 1) := by
  intro a b b0 ba an
  left
  have := tb_all (n := n.toNat) (k := a.toNat) (by omega)
  rw [toNat_c (by omega)] at this
  exact this
/-- downwards, at most as many -/
theorem dLs_dn {g : Int → Int → Bool} {n r r' v : Int} (hv : 0 ≤ v ∧ v < 2 ^ n.toNat) (h : dLs g n r (fun s => v < s))
    (hr : (r' = v ∧ zOnes v 16 ≤ zOnes r 16 ∧ dV g n v) ∨ (r' = r ∧ ¬ (zOnes v 16 ≤ zOnes r 16 ∧ dV g n v))) : dLs g n r' (fun s => v + -1 < s) := by
  rcases hr with ⟨e, h1, h2⟩ | ⟨e, h1⟩
  · rw [e]
    refine ⟨hv, h2, fun s s0 s1 hp hs => ?_⟩
    simp only at hp
    by_cases es : s = v
    · rw [es]; right; exact ⟨rfl, Int.le_refl _⟩
    · have := h.2.2 s s0 s1 (show v < s by omega) hs
      omega
  · rw [e]
    refine ⟨h.1, h.2.1, fun s s0 s1 hp hs => ?_⟩
    simp only at hp
    by_cases es : s = v
    · rw [es] at hs ⊢
      left
      apply Classical.byContradiction
      intro z
      exact h1 ⟨by omega, hs⟩
    · exact h.2.2 s s0 s1 (show v < s by omega) hs
theorem dLs_dn0 {g : Int → Int → Bool} {n r v : Int} (h : dLs g n r (fun s => v < s)) (hv : v < 0) : dLs g n r (fun _ => True) :=
  ⟨h.1, h.2.1, fun s s0 s1 _ hs => h.2.2 s s0 s1 (show v < s by omega) hs⟩
theorem dLs_top {g : Int → Int → Bool} {n : Int} (hn : (0 : Int) < 2 ^ n.toNat) : dLs g n (2 ^ n.toNat - 1) (fun s => 2 ^ n.toNat - 1 < s) :=
  ⟨⟨by omega, by omega⟩, dV_all g, fun s s0 s1 hp _ => by simp only at hp; omega⟩
/-- upwards, fewer -/
theorem dLs_up {g : Int → Int → Bool} {n r r' v : Int} (hv : 0 ≤ v ∧ v < 2 ^ n.toNat - 1) (h : dLs g n r (fun s => s < v ∨ s = 2 ^ n.toNat - 1))
    (hr : (r' = v ∧ zOnes v 16 < zOnes r 16 ∧ dV g n v) ∨ (r' = r ∧ ¬ (zOnes v 16 < zOnes r 16 ∧ dV g n v))) (hc : r < v ∨ r = 2 ^ n.toNat - 1) : dLs g n r' (fun s => s < v + 1 ∨ s = 2 ^ n.toNat - 1) ∨ (r = 2 ^ n.toNat - 1 ∧ dV g n v ∧ zOnes r 16 ≤ zOnes v 16) := by
  rcases hr with ⟨e, h1, h2⟩ | ⟨e, h1⟩
  · left
    rw [e]
    refine ⟨⟨hv.1, by omega⟩, h2, fun s s0 s1 hp hs => ?_⟩
    simp only at hp
    by_cases es : s = v
    · rw [es]; right; exact ⟨rfl, Int.le_refl _⟩
    · have := h.2.2 s s0 s1 (show s < v ∨ s = 2 ^ n.toNat - 1 by omega) hs
      omega
  · rw [e]
    by_cases hd : dV g n v
    · by_cases hr2 : r = 2 ^ n.toNat - 1
      · right
        refine ⟨hr2, hd, ?_⟩
        apply Classical.byContradiction
        intro z
        exact h1 ⟨by omega, hd⟩
      · left
        refine ⟨h.1, h.2.1, fun s s0 s1 hp hs => ?_⟩
        simp only at hp
        by_cases es : s = v
        · have : ¬ zOnes v 16 < zOnes r 16 := fun z => h1 ⟨z, hd⟩
          rw [es]
          omega
        · exact h.2.2 s s0 s1 (show s < v ∨ s = 2 ^ n.toNat - 1 by omega) hs
    · left
      refine ⟨h.1, h.2.1, fun s s0 s1 hp hs => ?_⟩
      simp only at hp
      by_cases es : s = v
      · rw [es] at hs; exact absurd hs hd
      · exact h.2.2 s s0 s1 (show s < v ∨ s = 2 ^ n.toNat - 1 by omega) hs
/-- no set but all holds all -/
theorem zOnes_le {s : Int} : ∀ n : Nat, zOnes s n ≤ zOnes (2 ^ n - 1) n := by
  intro n
  have h : ∀ m : Nat, m ≤ n → zOnes s m ≤ zOnes (2 ^ n - 1) m := by
    intro m
    induction m with
    | zero => intro _; exact Int.le_refl _
    | succ m ih =>
      intro hm
      have := ih (by omega)
      have h1 := zBit_in s m
      unfold zOnes
      rw [show zBit ((2 : Int) ^ n - 1) m = 1 from if_pos (tb_all (by omega))]
      omega
  exact h n (Nat.le_refl _)
theorem zOnes_lt {s : Int} {n k : Nat} (hk : k < n) (hb : tb s k = false) : zOnes s n < zOnes (2 ^ n - 1) n := by
  have h : ∀ m : Nat, m ≤ n → zOnes s m + (if k < m then 1 else 0) ≤ zOnes (2 ^ n - 1) m := by
    intro m
    induction m with
    | zero => intro _; exact Int.le_refl _
    | succ m ih =>
      intro hm
      have := ih (by omega)
      have h1 := zBit_in s m
      unfold zOnes
      rw [show zBit ((2 : Int) ^ n - 1) m = 1 from if_pos (tb_all (by omega))]
      by_cases e : k = m
      · rw [show zBit s m = 0 from if_neg (by rw [← e, hb]; decide), if_pos (by omega)]
        rw [if_neg (by omega)] at this
        omega
      · by_cases e2 : k < m
        · rw [if_pos (by omega)]
          rw [if_pos e2] at this
          omega
        · rw [if_neg (by omega)]
          rw [if_neg e2] at this
          omega
  have := h n (Nat.le_refl _)
  rw [if_pos hk] at this
  omega
theorem zOnes_cut {s : Int} {n : Nat} (h0 : 0 ≤ s) (h : s < 2 ^ n) : ∀ d : Nat, zOnes s (n + d) = zOnes s n
  | 0 => rfl
  | d + 1 => by
    show zOnes s (n + d) + zBit s ((n + d : Nat) : Int) = _
    rw [zOnes_cut h0 h d, show zBit s ((n + d : Nat) : Int) = 0 from if_neg (by rw [tb_lt h h0 (by omega)]; decide)]
    omega
theorem zOnes_fewer {s n : Int} (hn : 0 ≤ n ∧ n ≤ 12) (h0 : 0 ≤ s) (h : s < 2 ^ n.toNat - 1) : zOnes s 16 < zOnes (2 ^ n.toNat - 1) 16 := by
  have h1 := zOnes_cut (s := s) (n := n.toNat) h0 (by omega) (16 - n.toNat)
  have hp : (0 : Int) < 2 ^ n.toNat := Int.pow_pos (by decide)
  have h2 := zOnes_cut (s := 2 ^ n.toNat - 1) (n := n.toNat) (by omega) (by omega) (16 - n.toNat)
  rw [show n.toNat + (16 - n.toNat) = 16 by omega] at h1 h2
  rw [h1, h2]
  have : ∃ k : Nat, k < n.toNat ∧ tb s k = false := by
    apply Classical.byContradiction
    intro z
    have e : s = 2 ^ n.toNat - 1 := by
      apply tb_ext h0 (by omega)
      intro k
      by_cases hk : k < n.toNat
      · rw [tb_all hk]
        cases hb : tb s k
        · exact absurd ⟨k, hk, hb⟩ z
        · rfl
      · rw [tb_lt (n := n.toNat) (by omega) h0 (by omega), tb_lt (n := n.toNat) (by omega) (by omega) (by omega)]
    omega
  obtain ⟨k, hk, hb⟩ := this
  exact zOnes_lt hk hb
theorem dLs_up' {g : Int → Int → Bool} {n r r' v : Int} (hn : 0 ≤ n ∧ n ≤ 12) (hv : 0 ≤ v ∧ v < 2 ^ n.toNat - 1) (h : dLs g n r (fun s => s < v ∨ s = 2 ^ n.toNat - 1))
    (hr : (r' = v ∧ zOnes v 16 < zOnes r 16 ∧ dV g n v) ∨ (r' = r ∧ ¬ (zOnes v 16 < zOnes r 16 ∧ dV g n v))) (hc : r < v ∨ r = 2 ^ n.toNat - 1) : dLs g n r' (fun s => s < v + 1 ∨ s = 2 ^ n.toNat - 1) := by
  rcases dLs_up hv h hr hc with z | ⟨z1, z2, z3⟩
  · exact z
  · have := zOnes_fewer hn hv.1 hv.2
    rw [z1] at z3
    omega
theorem dLs_up0 {g : Int → Int → Bool} {n r v : Int} (h : dLs g n r (fun s => s < v ∨ s = 2 ^ n.toNat - 1)) (hv : 2 ^ n.toNat - 1 ≤ v) : dLs g n r (fun _ => True) :=
  ⟨h.1, h.2.1, fun s s0 s1 _ hs => h.2.2 s s0 s1 (show s < v ∨ s = 2 ^ n.toNat - 1 by omega) hs⟩
theorem dLs_bot {g : Int → Int → Bool} {n : Int} (hn : (0 : Int) < 2 ^ n.toNat) : dLs g n (2 ^ n.toNat - 1) (fun s => s < 0 ∨ s = 2 ^ n.toNat - 1) :=
  ⟨⟨by omega, by omega⟩, dV_all g, fun s s0 s1 hp _ => by simp only at hp; right; have : s = 2 ^ n.toNat - 1 := by omega
                                                          rw [this]; exact ⟨rfl, Int.le_refl _⟩⟩
/-- the row of those that clash -/
def dW (P : Int → Bool) (i n : Int) : Prop := jn n ∧ ∀ j : Nat, tb n j = (decide ((j : Int) < i) && P j)
theorem dW_0 (P : Int → Bool) : dW P 0 0 := by
  refine ⟨⟨by decide, by decide⟩, fun j => ?_⟩
  rw [zero_bit rfl, decide_eq_false (by omega)]
  rfl
theorem dW_y {P : Int → Bool} {i n : Int} (hi : 0 ≤ i ∧ i < 31) (h : dW P i n) (hk : P i = true) : dW P (i + 1) (jor n (jshl 1 i)) := by
  have e := jshl1 i.toNat (by omega)
  rw [toNat_c hi.1] at e
  have hp : 2 ^ i.toNat < 2147483648 := by
    have : 2 ^ i.toNat < 2 ^ 31 := Nat.pow_lt_pow_right (by omega) (by omega)
    omega
  have g := jor_in h.1 (show jn (jshl 1 i) by rw [e]; exact ⟨Int.natCast_nonneg _, by omega⟩)
  refine ⟨g.1, fun j => ?_⟩
  rw [g.2 j, e, tb_pow, h.2 j]
  by_cases hj : i.toNat = j
  · have : (j : Int) = i := by omega
    rw [this, hk]
    simp [hj]
    omega
  · have : (j : Int) < i + 1 ↔ (j : Int) < i := by omega
    simp [hj, this]
theorem dW_n {P : Int → Bool} {i n : Int} (hi : 0 ≤ i) (h : dW P i n) (hk : P i = false) : dW P (i + 1) n := by
  refine ⟨h.1, fun j => ?_⟩
  rw [h.2 j]
  by_cases hj : (j : Int) = i
  · rw [hj, hk]; simp
  · have : (j : Int) < i + 1 ↔ (j : Int) < i := by omega
    simp [this]
theorem pB_comm (M : jM) (k l : Int) : pB M k l = pB M l k := by
  unfold pB
  rw [Int.max_comm, Int.min_comm]
theorem pB_cg {M N : jM} (h1 : N 24 = M 24) (h2 : N 25 = M 25) (k l : Int) : pB N k l = pB M k l := by
  unfold pB
  rw [h1, h2]
abbrev dP (M : jM) (k : Int) : Int → Bool := fun l => decide (l ≠ k) && pB M k l
theorem d_left {n s : Int} (hn : 0 ≤ n ∧ n ≤ 12) (hs : 0 ≤ s ∧ s < 2 ^ n.toNat) : jn (jand (2 ^ n.toNat - 1) (jxor s (-1))) ∧ ∀ k : Nat, tb (jand (2 ^ n.toNat - 1) (jxor s (-1))) k = (decide ((k : Int) < n) && !tb s k) := by
  have hp := p2k hn
  have h := jandn_in (x := 2 ^ n.toNat - 1) (y := s) ⟨by omega, by omega⟩ ⟨by omega, by omega⟩
  refine ⟨h.1, fun k => ?_⟩
  rw [h.2 k]
  by_cases hk : (k : Int) < n
  · rw [tb_all (by omega), decide_eq_true hk]
  · rw [tb_lt (n := n.toNat) (by omega) (by omega) (by omega), decide_eq_false hk]
theorem d_peace {M N : jM} {n s : Int} (hn : 0 ≤ n ∧ n ≤ 12) (hs : 0 ≤ s ∧ s < 2 ^ n.toNat) (hr : ∀ k, 0 ≤ k → k < n → dW (dP M k) n (N 27 k)) :
    (∀ k, 0 ≤ k → k < n → tb (jand (2 ^ n.toNat - 1) (jxor s (-1))) k = true → jand (N 27 k) (jand (2 ^ n.toNat - 1) (jxor s (-1))) = 0) ↔ dV (pB M) n s := by
  have hl := d_left hn hs
  constructor
  · intro h a b b0 ba an
    cases ha : tb s a
    · cases hb : tb s b
      · right; right
        have la : tb (jand (2 ^ n.toNat - 1) (jxor s (-1))) a = true := by
          have := hl.2 a.toNat
          rw [toNat_c (by omega), ha, decide_eq_true an] at this
          exact this
        have lb : tb (jand (2 ^ n.toNat - 1) (jxor s (-1))) b = true := by
          have := hl.2 b.toNat
          rw [toNat_c (by omega), hb, decide_eq_true (by omega)] at this
          exact this
        have e := h a (by omega) an la
        have w := hr a (by omega) an
        have q := (jand_in w.1 hl.1).2 b.toNat
        rw [zero_bit e, w.2 b.toNat, toNat_c b0, lb] at q
        cases hp : pB M a b
        · rfl
        · rw [decide_eq_true (show b < n by omega)] at q
          simp [dP, hp] at q
          omega
      · right; left; rfl
    · left; rfl
  · intro h k k0 kn hk
    have w := hr k k0 kn
    have q := jand_in w.1 hl.1
    apply Classical.byContradiction
    intro hne
    obtain ⟨l, hlb⟩ := ne0_bit q.1 hne
    rw [q.2 l, Bool.and_eq_true, w.2 l, hl.2 l] at hlb
    have hk' := hl.2 k.toNat
    rw [toNat_c k0, hk, decide_eq_true kn] at hk'
    simp only [dP, Bool.and_eq_true, decide_eq_true_iff, Bool.not_eq_true', Bool.true_and] at hlb hk'
    have sk : tb s k = false := by cases hz : tb s k <;> simp [hz] at hk' ⊢
    obtain ⟨⟨h1, h2, h3⟩, _, h4⟩ := hlb
    rcases Int.lt_or_gt_of_ne h2 with z | z
    · have := h k l (by omega) z kn
      rw [sk, h4, h3] at this
      simp at this
    · have := h l k k0 z h1
      rw [sk, h4, pB_comm, h3] at this
      simp at this
