/-! ===== what tables can be ===== -/
def zR (s : Int) : Nat → Int
  | 0 => 0
  | n + 1 => if tb s n = true then zR s n + 1 else 0
def zL (s : Int) : Nat → Int
  | 0 => 0
  | n + 1 => max (zL s n) (zR s (n + 1))
theorem zR_in (s : Int) : ∀ n : Nat, 0 ≤ zR s n ∧ zR s n ≤ n
  | 0 => ⟨Int.le_refl _, Int.le_refl _⟩
  | n + 1 => by
    have := zR_in s n
    unfold zR
    split <;> omega
theorem zL_in (s : Int) : ∀ n : Nat, 0 ≤ zL s n ∧ zL s n ≤ n
  | 0 => ⟨Int.le_refl _, Int.le_refl _⟩
  | n + 1 => by
    have := zL_in s n
    have := zR_in s (n + 1)
    unfold zL
    omega
theorem zR_y {s i : Int} (h0 : 0 ≤ i) (h : tb s i = true) : zR s (i + 1).toNat = zR s i.toNat + 1 := by
  rw [toNat_s h0]
  unfold zR
  rw [if_pos (by rw [toNat_c h0]; exact h)]
  cases i.toNat <;> rfl
theorem zR_n {s i : Int} (h0 : 0 ≤ i) (h : ¬ tb s i = true) : zR s (i + 1).toNat = 0 := by
  rw [toNat_s h0]
  unfold zR
  rw [if_neg (by rw [toNat_c h0]; exact h)]
theorem zL_s {s i : Int} (h0 : 0 ≤ i) : zL s (i + 1).toNat = max (zL s i.toNat) (zR s (i + 1).toNat) := by
  rw [toNat_s h0]
  rfl
theorem wSum_y {mn : Int → Int} {s i : Int} (h0 : 0 ≤ i) (h : tb s i = true) : wSum mn s (i + 1).toNat = wSum mn s i.toNat + mn i := by
  rw [toNat_s h0, wSum_step (by rw [toNat_c h0]; exact h), toNat_c h0]
theorem wSum_n {mn : Int → Int} {s i : Int} (h0 : 0 ≤ i) (h : ¬ tb s i = true) : wSum mn s (i + 1).toNat = wSum mn s i.toNat := by
  rw [toNat_s h0, wSum_skip (by rw [toNat_c h0]; exact h)]
theorem wSum_in3 {mn : Int → Int} (hd : ∀ i, 0 ≤ mn i ∧ mn i ≤ 300) (s : Int) : ∀ n : Nat, 0 ≤ wSum mn s n ∧ wSum mn s n ≤ 300 * n
  | 0 => ⟨Int.le_refl _, Int.le_refl _⟩
  | n + 1 => by
    have := wSum_in3 hd s n
    have := hd n
    by_cases hb : tb s n = true
    · rw [wSum_step hb]; omega
    · rw [wSum_skip hb]; omega
abbrev zOk (mn : Int → Int) (p most q s : Int) : Prop := wSum mn s p.toNat ≤ most ∧ zL s p.toNat ≤ q
def zBit (s i : Int) : Int := if tb s i = true then 1 else 0
def zNd (nd : Int → Int) (a b c : Int) : Nat → Bool
  | 0 => true
  | n + 1 => zNd nd a b c n && decide (nd n ≤ zBit a n + zBit b n + zBit c n)
theorem zNd_mono {nd : Int → Int} {a b c : Int} {n : Nat} : ∀ m : Nat, n ≤ m → zNd nd a b c m = true → zNd nd a b c n = true
  | 0, h, e => by rw [show n = 0 by omega]; rfl
  | m + 1, h, e => by
    by_cases hn : n = m + 1
    · rw [hn]; exact e
    · unfold zNd at e
      rw [Bool.and_eq_true] at e
      exact zNd_mono m (by omega) e.1
theorem zNd_iff {nd : Int → Int} {a b c : Int} : ∀ n : Nat, zNd nd a b c n = true ↔ ∀ i : Nat, i < n → nd i ≤ zBit a i + zBit b i + zBit c i
  | 0 => ⟨fun _ i h => absurd h (Nat.not_lt_zero _), fun _ => rfl⟩
  | n + 1 => by
    unfold zNd
    rw [Bool.and_eq_true, zNd_iff n, decide_eq_true_iff]
    constructor
    · rintro ⟨h1, h2⟩ i hi
      by_cases e : i = n
      · rw [e]; exact h2
      · exact h1 i (by omega)
    · intro h
      exact ⟨fun i hi => h i (by omega), h n (by omega)⟩
def zT (mn nd : Int → Int) (p most q a b c : Int) : Bool := decide (zOk mn p most q a) && decide (zOk mn p most q b) && decide (zOk mn p most q c) && zNd nd a b c p.toNat
theorem zT_iff {mn nd : Int → Int} {p most q a b c : Int} : zT mn nd p most q a b c = true ↔ zOk mn p most q a ∧ zOk mn p most q b ∧ zOk mn p most q c ∧ zNd nd a b c p.toNat = true := by
  unfold zT
  simp only [Bool.and_eq_true, decide_eq_true_iff]
  constructor
  · rintro ⟨⟨⟨h1, h2⟩, h3⟩, h4⟩; exact ⟨h1, h2, h3, h4⟩
  · rintro ⟨h1, h2, h3, h4⟩; exact ⟨⟨⟨h1, h2⟩, h3⟩, h4⟩
abbrev zI (b : Bool) : Int := if b = true then 1 else 0
abbrev zS2 (T : Int → Int → Int → Bool) (S : Int) (c b : Int) : Int := zP (fun a => zI (T a b c)) S.toNat
abbrev zS3 (T : Int → Int → Int → Bool) (S B C : Int) : Int := zP (fun c => zP (fun b => zS2 T S c b) B.toNat) C.toNat
def zLst (T : Int → Int → Int → Bool) (S B C x r : Int) : Prop :=
  (r = -9 ∧ ∀ a b c, 0 ≤ a → a < S → 0 ≤ b → b < B → 0 ≤ c → c < C → T a b c = true → x ≤ a + 64 * b + 4096 * c) ∨
  (0 ≤ r ∧ r < x ∧ (∃ a b c, (0 ≤ a ∧ a < S ∧ 0 ≤ b ∧ b < B ∧ 0 ≤ c ∧ c < C) ∧ T a b c = true ∧ r = a + 64 * b + 4096 * c) ∧ ∀ a b c, 0 ≤ a → a < S → 0 ≤ b → b < B → 0 ≤ c → c < C → T a b c = true → r ≤ a + 64 * b + 4096 * c)
theorem zLst_u {T : Int → Int → Int → Bool} {S B C x r r' : Int} (h : zLst T S B C x r) (h' : zLst T S B C x r') : r = r' := by
  rcases h with ⟨h1, h2⟩ | ⟨h1, h2, ⟨a, b, c, h3, h4, h5⟩, h6⟩ <;> rcases h' with ⟨g1, g2⟩ | ⟨g1, g2, ⟨a', b', c', g3, g4, g5⟩, g6⟩
  · omega
  · have := h2 a' b' c' g3.1 g3.2.1 g3.2.2.1 g3.2.2.2.1 g3.2.2.2.2.1 g3.2.2.2.2.2 g4; omega
  · have := g2 a b c h3.1 h3.2.1 h3.2.2.1 h3.2.2.2.1 h3.2.2.2.2.1 h3.2.2.2.2.2 h4; omega
  · have := h6 a' b' c' g3.1 g3.2.1 g3.2.2.1 g3.2.2.2.1 g3.2.2.2.2.1 g3.2.2.2.2.2 g4
    have := g6 a b c h3.1 h3.2.1 h3.2.2.1 h3.2.2.2.1 h3.2.2.2.2.1 h3.2.2.2.2.2 h4
    omega
theorem zLst_step {T : Int → Int → Int → Bool} {S B C a b c r r' : Int} (hS : S ≤ 64) (hB : B ≤ 64) (ha : 0 ≤ a ∧ a < S) (hb : 0 ≤ b ∧ b < B) (hc : 0 ≤ c ∧ c < C) (h : zLst T S B C (a + 64 * b + 4096 * c) r)
    (hr : (T a b c = true ∧ ((r = -9 ∧ r' = a + 64 * b + 4096 * c) ∨ (¬ r = -9 ∧ r' = r))) ∨ (¬ T a b c = true ∧ r' = r)) : zLst T S B C (a + 1 + 64 * b + 4096 * c) r' := by
  rcases h with ⟨h1, h2⟩ | ⟨h1, h2, h3, h6⟩
  · rcases hr with ⟨g1, ⟨g2, g3⟩ | ⟨g2, g3⟩⟩ | ⟨g1, g2⟩
    · exact Or.inr ⟨by omega, by omega, ⟨a, b, c, ⟨ha.1, ha.2, hb.1, hb.2, hc.1, hc.2⟩, g1, g3⟩, by rw [g3]; exact h2⟩
    · exact absurd h1 g2
    · refine Or.inl ⟨by omega, fun a' b' c' k1 k2 k3 k4 k5 k6 k7 => ?_⟩
      have := h2 a' b' c' k1 k2 k3 k4 k5 k6 k7
      by_cases e : a' + 64 * b' + 4096 * c' = a + 64 * b + 4096 * c
      · have e1 : c' = c := by omega
        have e2 : b' = b := by omega
        have e3 : a' = a := by omega
        rw [e1, e2, e3] at k7
        exact absurd k7 g1
      · omega
  · have e : r' = r := by omega
    rw [e]
    exact Or.inr ⟨h1, by omega, h3, h6⟩
theorem zLst_to {T : Int → Int → Int → Bool} {S B C x y r : Int} (hxy : x ≤ y) (hn : ∀ a b c : Int, 0 ≤ a → a < S → 0 ≤ b → b < B → 0 ≤ c → c < C → x ≤ a + 64 * b + 4096 * c → y ≤ a + 64 * b + 4096 * c) (h : zLst T S B C x r) : zLst T S B C y r := by
  rcases h with ⟨h1, h2⟩ | ⟨h1, h2, h3, h6⟩
  · exact Or.inl ⟨h1, fun a b c k1 k2 k3 k4 k5 k6 k7 => hn a b c k1 k2 k3 k4 k5 k6 (h2 a b c k1 k2 k3 k4 k5 k6 k7)⟩
  · exact Or.inr ⟨h1, by omega, h3, h6⟩
theorem zP_cg {f g : Int → Int} : ∀ n : Nat, (∀ i : Nat, i < n → f i = g i) → zP f n = zP g n
  | 0, _ => rfl
  | n + 1, h => by
    unfold zP
    rw [zP_cg n (fun i hi => h i (by omega)), h n (by omega)]
theorem zP_0 {f : Int → Int} (n : Nat) (h : ∀ i : Nat, i < n → f i = 0) : zP f n = 0 := by
  induction n with
  | zero => rfl
  | succ n ih =>
    unfold zP
    rw [ih (fun i hi => h i (by omega)), h n (by omega)]
    rfl
theorem zP_in {f : Int → Int} {B : Int} (hf : ∀ i : Nat, 0 ≤ f i ∧ f i ≤ B) : ∀ n : Nat, 0 ≤ zP f n ∧ zP f n ≤ B * n
  | 0 => ⟨Int.le_refl _, by unfold zP; omega⟩
  | n + 1 => by
    have := zP_in hf n
    have := hf n
    unfold zP
    rw [show ((n + 1 : Nat) : Int) = (n : Int) + 1 by omega, Int.mul_add]
    omega
theorem zI_in (b : Bool) : 0 ≤ zI b ∧ zI b ≤ 1 := by unfold zI; split <;> omega
/-- bits -/
theorem lt_of_bits {r : Int} {n : Nat} (h0 : 0 ≤ r) (h : ∀ i : Nat, n ≤ i → tb r i = false) : r < 2 ^ n := by
  have := Nat.lt_pow_two_of_testBit r.toNat (n := n) (fun i hi => by have := h i hi; unfold tb at this; simpa using this)
  have e : ((2 ^ n : Nat) : Int) = 2 ^ n := by simp
  omega
theorem tb_lt {r : Int} {n : Nat} (h : r < 2 ^ n) (h0 : 0 ≤ r) {i : Nat} (hi : n ≤ i) : tb r i = false := by
  unfold tb
  apply Nat.testBit_lt_two_pow
  have e : ((2 ^ n : Nat) : Int) = 2 ^ n := by simp
  have : r.toNat < 2 ^ n := by omega
  calc r.toNat < 2 ^ n := this
    _ ≤ 2 ^ i := Nat.pow_le_pow_right (by omega) hi
theorem jand_sub {s r : Int} (hs : jn s) (hr : jn r) : jand s r = r ↔ ∀ i : Nat, tb r i = true → tb s i = true := by
  have h := jand_in hs hr
  constructor
  · intro e i hi
    have := h.2 i
    rw [e, hi] at this
    cases hb : tb s i
    · rw [hb] at this; cases this
    · rfl
  · intro g
    apply tb_ext h.1.1 hr.1
    intro k
    rw [h.2 k]
    cases hb : tb r k
    · simp
    · rw [g k hb]; rfl
abbrev zNb (nd : Int → Int) (p k n : Int) : Prop := jn n ∧ ∀ i : Nat, tb n i = decide ((i : Int) < p ∧ k ≤ nd i)
theorem zNb_step {nd : Int → Int} {k n i : Int} (hi : 0 ≤ i ∧ i < 31) (h : zNb nd i k n) (hk : k ≤ nd i) : zNb nd (i + 1) k (jor n (jshl 1 i)) := by
  have e := jshl1 i.toNat (by omega)
  rw [toNat_c hi.1] at e
  have hp : 2 ^ i.toNat < 2147483648 := by
    have : 2 ^ i.toNat < 2 ^ 31 := Nat.pow_lt_pow_right (by omega) (by omega)
    omega
  have g := jor_in h.1 (show jn (jshl 1 i) by rw [e]; exact ⟨Int.natCast_nonneg _, by omega⟩)
  refine ⟨g.1, fun j => ?_⟩
  rw [g.2 j, e, tb_pow, h.2 j]
  by_cases hj : i.toNat = j
  · have : (j : Int) = i := by omega
    rw [this]
    simp [hj, hk]
    omega
  · have : (j : Int) < i + 1 ↔ (j : Int) < i := by omega
    simp [hj, this]
theorem zNb_skip {nd : Int → Int} {k n i : Int} (hi : 0 ≤ i) (h : zNb nd i k n) (hk : ¬ k ≤ nd i) : zNb nd (i + 1) k n := by
  refine ⟨h.1, fun j => ?_⟩
  rw [h.2 j]
  by_cases hj : (j : Int) = i
  · rw [hj]; simp [hk]
  · have : (j : Int) < i + 1 ↔ (j : Int) < i := by omega
    simp [this]
/-- what is wanted of the third -/
abbrev zWt (n1 n2 n3 a b r : Int) : Prop :=
  (r = -9 ∧ ∃ i : Nat, (tb n2 i && !(tb a i || tb b i) || tb n3 i && !(tb a i && tb b i)) = true) ∨
  (jn r ∧ (∀ i : Nat, (tb n2 i && !(tb a i || tb b i) || tb n3 i && !(tb a i && tb b i)) = false) ∧ ∀ i : Nat, tb r i = (tb n1 i && !(tb a i || tb b i) || tb n2 i && !(tb a i && tb b i) || tb n3 i))
theorem ne0_bit {x : Int} (hx : jn x) (h : ¬ x = 0) : ∃ i : Nat, tb x i = true := by
  have e : x < 2 ^ 31 := hx.2
  obtain ⟨k, _, hk⟩ := w_member (s := x) (by omega) (n := 31) e
  exact ⟨k, hk⟩
theorem zero_bit {x : Int} (h : x = 0) (i : Nat) : tb x i = false := by rw [h]; unfold tb; simp
theorem zWt_no {n1 n2 n3 a b : Int} (h2 : jn n2) (h3 : jn n3) (ha : jn a) (hb : jn b) (h : ¬ jand n2 (jxor (jor a b) (-1)) = 0 ∨ ¬ jand n3 (jxor (jand a b) (-1)) = 0) : zWt n1 n2 n3 a b (-9) := by
  refine Or.inl ⟨rfl, ?_⟩
  have go := jor_in ha hb
  have ga := jand_in ha hb
  rcases h with h | h
  · have g := jandn_in h2 go.1
    obtain ⟨i, hi⟩ := ne0_bit g.1 h
    rw [g.2 i, go.2 i] at hi
    exact ⟨i, by rw [hi]; rfl⟩
  · have g := jandn_in h3 ga.1
    obtain ⟨i, hi⟩ := ne0_bit g.1 h
    rw [g.2 i, ga.2 i] at hi
    exact ⟨i, by rw [hi]; simp⟩
theorem zWt_yes {n1 n2 n3 a b : Int} (h1 : jn n1) (h2 : jn n2) (h3 : jn n3) (ha : jn a) (hb : jn b) (k2 : jand n2 (jxor (jor a b) (-1)) = 0) (k3 : jand n3 (jxor (jand a b) (-1)) = 0) : zWt n1 n2 n3 a b (jor (jor (jand n1 (jxor (jor a b) (-1))) (jand n2 (jxor (jand a b) (-1)))) n3) := by
  have go := jor_in ha hb
  have ga := jand_in ha hb
  have g1 := jandn_in h1 go.1
  have g2 := jandn_in h2 ga.1
  have g3 := jor_in g1.1 g2.1
  have g4 := jor_in g3.1 h3
  have q2 := jandn_in h2 go.1
  have q3 := jandn_in h3 ga.1
  refine Or.inr ⟨g4.1, fun i => ?_, fun i => ?_⟩
  · have z2 := q2.2 i
    have z3 := q3.2 i
    rw [zero_bit k2, go.2 i] at z2
    rw [zero_bit k3, ga.2 i] at z3
    rw [← z2, ← z3]; rfl
  · rw [g4.2 i, g3.2 i, g1.2 i, g2.2 i, go.2 i, ga.2 i]
theorem zWt_no' {nd : Int → Int} (hnd : ∀ i, 0 ≤ nd i ∧ nd i ≤ 3) {p n1 n2 n3 b c : Int} (hp : 0 ≤ p) (h2 : zNb nd p 2 n2) (h3 : zNb nd p 3 n3) (h : zWt n1 n2 n3 c b (-9)) (s : Int) : zNd nd s b c p.toNat = false := by
  rcases h with ⟨_, i, hi⟩ | ⟨h, _⟩
  · apply Bool.eq_false_iff.2
    intro e
    rw [zNd_iff] at e
    rw [h2.2 i, h3.2 i] at hi
    have hd := hnd i
    by_cases hip : (i : Int) < p
    · have e1 := e i (by omega)
      unfold zBit at e1
      cases hb : tb b i <;> cases hc : tb c i <;> simp [hb, hc, hip] at hi e1 <;> (try split at e1) <;> omega
    · simp [hip] at hi
  · unfold jn at h; omega
theorem zWt_yes' {nd : Int → Int} (hnd : ∀ i, 0 ≤ nd i ∧ nd i ≤ 3) {p n1 n2 n3 b c r : Int} (hp : 0 ≤ p) (h1 : zNb nd p 1 n1) (h2 : zNb nd p 2 n2) (h3 : zNb nd p 3 n3) (h : zWt n1 n2 n3 c b r) (hr : ¬ r = -9) : (jn r ∧ r < 2 ^ p.toNat) ∧ ∀ s : Int, jn s → (jand s r = r ↔ zNd nd s b c p.toNat = true) := by
  rcases h with ⟨e, _⟩ | ⟨hj, g1, g2⟩
  · exact absurd e hr
  · refine ⟨⟨hj, lt_of_bits hj.1 (fun i hi => ?_)⟩, fun s hs => ?_⟩
    · rw [g2 i, h1.2 i, h2.2 i, h3.2 i]
      have : ¬ (i : Int) < p := by omega
      simp [this]
    · rw [jand_sub hs hj, zNd_iff]
      constructor
      · intro g i hi
        have k0 := g i
        have k1 := g1 i
        have hip : (i : Int) < p := by omega
        rw [g2 i, h1.2 i, h2.2 i, h3.2 i] at k0
        rw [h2.2 i, h3.2 i] at k1
        have hd := hnd i
        unfold zBit
        cases hb : tb b i <;> cases hc : tb c i <;> cases hs : tb s i <;> simp [hb, hc, hs, hip] at k0 k1 ⊢ <;> omega
      · intro g i
        have k1 := g1 i
        rw [g2 i, h1.2 i, h2.2 i, h3.2 i]
        rw [h2.2 i, h3.2 i] at k1
        by_cases hip : (i : Int) < p
        · have e1 := g i (by omega)
          unfold zBit at e1
          cases hb : tb b i <;> cases hc : tb c i <;> cases hs : tb s i <;> simp [hb, hc, hs, hip] at k1 e1 ⊢ <;> omega
        · simp [hip]

/-- the shifts in their row -/
abbrev zIV (mn : Int → Int) (p most q s : Int) : Int := if zOk mn p most q s then 1 else 0
abbrev zIdx (mn : Int → Int) (p most q s : Int) : Int := zP (zIV mn p most q) s.toNat
theorem zIdx_s {mn : Int → Int} {p most q s : Int} (h : 0 ≤ s) : zIdx mn p most q (s + 1) = zIdx mn p most q s + zIV mn p most q s := zP_s h
theorem zIV_in (mn : Int → Int) (p most q s : Int) : 0 ≤ zIV mn p most q s ∧ zIV mn p most q s ≤ 1 := by unfold zIV; split <;> omega
theorem zIdx_nn (mn : Int → Int) (p most q : Int) : ∀ n : Nat, 0 ≤ zP (zIV mn p most q) n ∧ zP (zIV mn p most q) n ≤ n
  | 0 => ⟨Int.le_refl _, Int.le_refl _⟩
  | n + 1 => by
    have := zIdx_nn mn p most q n
    have := zIV_in mn p most q n
    rw [show zP (zIV mn p most q) (n + 1) = zP (zIV mn p most q) n + zIV mn p most q (n : Int) from rfl]
    omega
theorem zIdx_in {mn : Int → Int} {p most q s : Int} (h : 0 ≤ s) : 0 ≤ zIdx mn p most q s ∧ zIdx mn p most q s ≤ s := by
  have := zIdx_nn mn p most q s.toNat
  exact ⟨this.1, by have := this.2; rw [toNat_c h] at this; exact this⟩
theorem zIdx_mn {mn : Int → Int} {p most q : Int} {n : Nat} : ∀ d : Nat, zP (zIV mn p most q) n ≤ zP (zIV mn p most q) (n + d)
  | 0 => Int.le_refl _
  | d + 1 => by
    have := zIdx_mn (mn := mn) (p := p) (most := most) (q := q) (n := n) d
    show _ ≤ zP (zIV mn p most q) (n + d + 1)
    rw [show zP (zIV mn p most q) (n + d + 1) = zP (zIV mn p most q) (n + d) + zIV mn p most q ((n + d : Nat) : Int) from rfl]
    have := zIV_in mn p most q ((n + d : Nat) : Int)
    omega
theorem zIdx_mono {mn : Int → Int} {p most q s t : Int} (h : 0 ≤ s) (hst : s ≤ t) : zIdx mn p most q s ≤ zIdx mn p most q t := by
  have := zIdx_mn (mn := mn) (p := p) (most := most) (q := q) (n := s.toNat) (t.toNat - s.toNat)
  rw [show s.toNat + (t.toNat - s.toNat) = t.toNat by omega] at this
  exact this
theorem zIdx_lt {mn : Int → Int} {p most q s t : Int} (h : 0 ≤ s) (hst : s < t) (ho : zOk mn p most q s) : zIdx mn p most q s < zIdx mn p most q t := by
  have := zIdx_mono (mn := mn) (p := p) (most := most) (q := q) (s := s + 1) (t := t) (by omega) (by omega)
  have e := zIdx_s (mn := mn) (p := p) (most := most) (q := q) h
  unfold zIV at e
  rw [if_pos ho] at e
  omega
theorem zIdx_ex {mn : Int → Int} {p most q : Int} : ∀ (n : Nat) (k : Int), 0 ≤ k → k < zP (zIV mn p most q) n → ∃ s : Int, (0 ≤ s ∧ s < n) ∧ zOk mn p most q s ∧ k = zIdx mn p most q s
  | 0, k, h0, h1 => by unfold zP at h1; omega
  | n + 1, k, h0, h1 => by
    by_cases hk : k < zP (zIV mn p most q) n
    · obtain ⟨s, h2, h3⟩ := zIdx_ex n k h0 hk
      exact ⟨s, ⟨h2.1, by omega⟩, h3⟩
    · rw [show zP (zIV mn p most q) (n + 1) = zP (zIV mn p most q) n + zIV mn p most q (n : Int) from rfl] at h1
      unfold zIV at h1
      by_cases ho : zOk mn p most q (n : Int)
      · rw [if_pos ho] at h1
        exact ⟨(n : Int), ⟨by omega, by omega⟩, ho, by
          show k = zP (zIV mn p most q) ((n : Int)).toNat
          rw [show ((n : Int)).toNat = n by omega]
          unfold zIV at hk ⊢
          omega⟩
      · rw [if_neg ho] at h1
        unfold zIV at hk
        omega
def zList (L : Int → Int) (mn : Int → Int) (p most q S : Int) : Prop := ∀ s, 0 ≤ s → s < S → zOk mn p most q s → L (zIdx mn p most q s) = s
theorem zSum_n {L mn f : Int → Int} {p most q S : Int} (hL : zList L mn p most q S) : ∀ n : Nat, (n : Int) ≤ S → zP (fun k => f (L k)) (zP (zIV mn p most q) n).toNat = zP (fun s => if zOk mn p most q s then f s else 0) n
  | 0, _ => rfl
  | n + 1, h => by
    have ih := zSum_n (f := f) hL n (by omega)
    have h0 := zIdx_nn mn p most q n
    rw [show zP (zIV mn p most q) (n + 1) = zP (zIV mn p most q) n + zIV mn p most q (n : Int) from rfl]
    rw [show zP (fun s => if zOk mn p most q s then f s else 0) (n + 1) = zP (fun s => if zOk mn p most q s then f s else 0) n + (if zOk mn p most q (n : Int) then f n else 0) from rfl]
    rw [← ih]
    by_cases ho : zOk mn p most q (n : Int)
    · have e := hL n (by omega) (by omega) ho
      rw [if_pos ho, show zIV mn p most q (n : Int) = 1 from if_pos ho, zP_s h0.1]
      unfold zIdx at e
      rw [show ((n : Int)).toNat = n by omega] at e
      rw [e]
    · rw [if_neg ho, show zIV mn p most q (n : Int) = 0 from if_neg ho]
      simp
theorem zSum {L mn f : Int → Int} {p most q S B : Int} (hL : zList L mn p most q S) (h0 : 0 ≤ B) (h : B ≤ S) : zP (fun k => f (L k)) (zIdx mn p most q B).toNat = zP (fun s => if zOk mn p most q s then f s else 0) B.toNat := zSum_n hL B.toNat (by omega)
abbrev zWith (L : Int → Int) (w : Int) (k : Int) : Int := if jand (L k) w = w then 1 else 0
abbrev zLeast (L : Int → Int) (w K x : Int) (y : Int) : Prop := 0 < x → ∃ k, (0 ≤ k ∧ k < K) ∧ y = L k ∧ jand (L k) w = w ∧ ∀ k', 0 ≤ k' → k' < k → ¬ jand (L k') w = w
def zPrep (M : jM) (mn nd : Int → Int) (p most q S : Int) : Prop :=
  (zNb nd p 1 (M 28 2) ∧ zNb nd p 2 (M 28 3) ∧ zNb nd p 3 (M 28 4)) ∧ M 28 6 = zIdx mn p most q S ∧ zList (M 31) mn p most q S ∧
  ∀ w, 0 ≤ w → w < S → M 32 w = zP (zWith (M 31) w) (zIdx mn p most q S).toNat ∧ zLeast (M 31) w (zIdx mn p most q S) (M 32 w) (M 33 w)
theorem zP_pos {f : Int → Int} (hf : ∀ i : Nat, 0 ≤ f i) : ∀ (n : Nat) (i : Nat), i < n → 0 < f i → 0 < zP f n
  | 0, i, h, _ => absurd h (Nat.not_lt_zero _)
  | n + 1, i, h, hp => by
    have h0 : ∀ m : Nat, 0 ≤ zP f m := by
      intro m
      induction m with
      | zero => exact Int.le_refl _
      | succ m ih => have := hf m; unfold zP; omega
    have := hf n
    unfold zP
    by_cases e : i = n
    · rw [e] at hp
      have := h0 n
      omega
    · have := zP_pos hf n i (by omega) hp
      omega
theorem zOk_0 {mn : Int → Int} {p most q : Int} (hm : 0 ≤ most) (hq : 0 ≤ q) : zOk mn p most q 0 := by
  have h1 : ∀ n : Nat, wSum mn 0 n = 0 := by
    intro n
    induction n with
    | zero => rfl
    | succ n ih => rw [wSum_skip (by rw [zero_bit rfl]; decide)]; exact ih
  have h2 : ∀ n : Nat, zL 0 n = 0 := by
    intro n
    induction n with
    | zero => rfl
    | succ n ih =>
      unfold zL zR
      rw [ih, if_neg (by rw [zero_bit rfl]; decide)]
      rfl
  unfold zOk
  rw [h1, h2]
  exact ⟨hm, hq⟩
theorem zIdx_1 {mn : Int → Int} {p most q : Int} (hm : 0 ≤ most) (hq : 0 ≤ q) : zIdx mn p most q 1 = 1 := by
  show 0 + zIV mn p most q 0 = 1
  unfold zIV
  rw [if_pos (zOk_0 hm hq)]
  rfl
theorem zTab {M : jM} {mn nd : Int → Int} {p most q S c b r : Int} (hnd : ∀ i, 0 ≤ nd i ∧ nd i ≤ 3) (hp : 0 ≤ p) (hS : S = 2 ^ p.toNat) (hS' : S ≤ 64) (h : zPrep M mn nd p most q S) (hc : zOk mn p most q c) (hb : zOk mn p most q b) (hw : zWt (M 28 2) (M 28 3) (M 28 4) c b r) :
    (¬ r = -9 → (0 ≤ r ∧ r < S) ∧ M 32 r = zS2 (zT mn nd p most q) S c b) ∧ (r = -9 → zS2 (zT mn nd p most q) S c b = 0) := by
  obtain ⟨⟨h1, h2, h3⟩, _, hL, hw2⟩ := h
  constructor
  · intro hr
    have g := zWt_yes' hnd hp h1 h2 h3 hw hr
    have hr2 : 0 ≤ r ∧ r < S := ⟨g.1.1.1, by rw [hS]; exact g.1.2⟩
    refine ⟨hr2, ?_⟩
    rw [(hw2 r hr2.1 hr2.2).1]
    have e := zSum (f := fun a => if jand a r = r then 1 else 0) hL (B := S) (by omega) (by omega)
    rw [show zP (zWith (M 31) r) (zIdx mn p most q S).toNat = zP (fun s => if zOk mn p most q s then (if jand s r = r then 1 else 0) else 0) S.toNat from e]
    apply zP_cg
    intro a ha
    have ja : jn (a : Int) := ⟨by omega, by omega⟩
    have k := g.2 a ja
    by_cases ho : zOk mn p most q (a : Int)
    · rw [if_pos ho]
      by_cases hj : jand (a : Int) r = r
      · rw [if_pos hj]
        show (1 : Int) = zI (zT mn nd p most q a b c)
        unfold zI
        rw [if_pos (zT_iff.2 ⟨ho, hb, hc, k.1 hj⟩)]
      · rw [if_neg hj]
        show (0 : Int) = zI (zT mn nd p most q a b c)
        unfold zI
        rw [if_neg (fun z => hj (k.2 (zT_iff.1 z).2.2.2))]
    · rw [if_neg ho]
      show (0 : Int) = zI (zT mn nd p most q a b c)
      unfold zI
      rw [if_neg (fun z => ho (zT_iff.1 z).1)]
  · intro hr
    rw [hr] at hw
    apply zP_0
    intro a ha
    have k := zWt_no' hnd hp h2 h3 hw (a : Int)
    show zI (zT mn nd p most q a b c) = 0
    unfold zI
    rw [if_neg (fun z => by rw [(zT_iff.1 z).2.2.2] at k; cases k)]
theorem zTab_none {mn nd : Int → Int} {p most q S c b : Int} (h : zS2 (zT mn nd p most q) S c b ≤ 0) {a : Int} (ha : 0 ≤ a ∧ a < S) : ¬ zT mn nd p most q a b c = true := by
  intro e
  have k := zP_pos (f := fun a => zI (zT mn nd p most q a b c)) (fun i => (zI_in _).1) S.toNat a.toNat (by omega) (by
    show 0 < zI (zT mn nd p most q ((a.toNat : Nat) : Int) b c)
    rw [toNat_c ha.1]
    unfold zI
    rw [if_pos e]
    decide)
  unfold zS2 at h
  omega
theorem zTab_first {M : jM} {mn nd : Int → Int} {p most q S c b r : Int} (hnd : ∀ i, 0 ≤ nd i ∧ nd i ≤ 3) (hp : 0 ≤ p) (hS : S = 2 ^ p.toNat) (hS' : S ≤ 64) (h : zPrep M mn nd p most q S) (hc : zOk mn p most q c) (hb : zOk mn p most q b) (hw : zWt (M 28 2) (M 28 3) (M 28 4) c b r) (hr : ¬ r = -9) (hx : 0 < M 32 r) :
    (0 ≤ M 33 r ∧ M 33 r < S) ∧ zT mn nd p most q (M 33 r) b c = true ∧ ∀ a, 0 ≤ a → a < S → zT mn nd p most q a b c = true → M 33 r ≤ a := by
  obtain ⟨⟨h1, h2, h3⟩, _, hL, hw2⟩ := h
  have g := zWt_yes' hnd hp h1 h2 h3 hw hr
  have hr2 : 0 ≤ r ∧ r < S := ⟨g.1.1.1, by rw [hS]; exact g.1.2⟩
  obtain ⟨k, hk, e1, e2, e3⟩ := (hw2 r hr2.1 hr2.2).2 hx
  obtain ⟨s, hs, ho, e4⟩ := zIdx_ex S.toNat k hk.1 hk.2
  have e5 := hL s hs.1 (by omega) ho
  rw [← e4] at e5
  rw [e1, e5]
  rw [e5] at e2
  refine ⟨⟨hs.1, by omega⟩, zT_iff.2 ⟨ho, hb, hc, (g.2 s ⟨by omega, by omega⟩).1 e2⟩, fun a a0 a1 ha => ?_⟩
  have ha' := zT_iff.1 ha
  have hj := (g.2 a ⟨by omega, by omega⟩).2 ha'.2.2.2
  apply Classical.byContradiction
  intro hlt
  have q1 := zIdx_lt (mn := mn) (p := p) (most := most) (q := q) a0 (show a < s by omega) ha'.1
  have q2 := hL a a0 a1 ha'.1
  have q3 := zIdx_in (mn := mn) (p := p) (most := most) (q := q) a0
  exact e3 _ q3.1 (by omega) (by rw [q2]; exact hj)
theorem zAll {mn nd L : Int → Int} {p most q S B C : Int} (hL : zList L mn p most q S) (hB : 0 ≤ B ∧ B ≤ S) (hC : 0 ≤ C ∧ C ≤ S) : zP (fun k => zP (fun l => zS2 (zT mn nd p most q) S (L k) (L l)) (zIdx mn p most q B).toNat) (zIdx mn p most q C).toNat = zS3 (zT mn nd p most q) S B C := by
  have z : ∀ c b : Int, ¬ (zOk mn p most q c ∧ zOk mn p most q b) → zS2 (zT mn nd p most q) S c b = 0 := by
    intro c b hn
    apply zP_0
    intro a _
    show zI (zT mn nd p most q a b c) = 0
    unfold zI
    rw [if_neg (fun z => hn ⟨(zT_iff.1 z).2.2.1, (zT_iff.1 z).2.1⟩)]
  rw [show zP (fun k => zP (fun l => zS2 (zT mn nd p most q) S (L k) (L l)) (zIdx mn p most q B).toNat) (zIdx mn p most q C).toNat = _ from zSum (f := fun c => zP (fun l => zS2 (zT mn nd p most q) S c (L l)) (zIdx mn p most q B).toNat) hL hC.1 hC.2]
  apply zP_cg
  intro c _
  by_cases hc : zOk mn p most q (c : Int)
  · rw [if_pos hc]
    rw [show zP (fun l => zS2 (zT mn nd p most q) S c (L l)) (zIdx mn p most q B).toNat = _ from zSum (f := fun b => zS2 (zT mn nd p most q) S c b) hL hB.1 hB.2]
    apply zP_cg
    intro b _
    by_cases hb : zOk mn p most q (b : Int)
    · rw [if_pos hb]
    · rw [if_neg hb, z _ _ (fun x => hb x.2)]
  · rw [if_neg hc]
    symm
    apply zP_0
    intro b _
    exact z _ _ (fun x => hc x.1)
/-- the code of a table -/
theorem jor_add {x a : Int} (hx : 0 ≤ x ∧ x < 33554432) (ha : 0 ≤ a ∧ a < 64) : jor (64 * x) a = 64 * x + a := by
  have h := jor_in (x := 64 * x) (y := a) ⟨by omega, by omega⟩ ⟨by omega, by omega⟩
  apply tb_ext h.1.1 (by omega)
  intro k
  rw [h.2 k]
  unfold tb
  rw [show (64 * x).toNat = 2 ^ 6 * x.toNat by omega, show (64 * x + a).toNat = 2 ^ 6 * x.toNat + a.toNat by omega]
  rw [Nat.two_pow_add_eq_or_of_lt (show a.toNat < 2 ^ 6 by omega), Nat.testBit_or]
theorem jshl_6 : ∀ b : Nat, b < 64 → jshl b 6 = 64 * b ∧ jshl b 12 = 4096 * b := by decide +kernel
theorem zCode {c b a : Int} (hc : 0 ≤ c ∧ c < 64) (hb : 0 ≤ b ∧ b < 64) (ha : 0 ≤ a ∧ a < 64) : jor (jor (jshl c 12) (jshl b 6)) a = a + 64 * b + 4096 * c := by
  have e1 := (jshl_6 c.toNat (by omega)).2
  have e2 := (jshl_6 b.toNat (by omega)).1
  rw [toNat_c hc.1] at e1
  rw [toNat_c hb.1] at e2
  have h := jor_in (x := 4096 * c) (y := 64 * b) ⟨by omega, by omega⟩ ⟨by omega, by omega⟩
  have e3 : jor (4096 * c) (64 * b) = 64 * (64 * c + b) := by
    apply tb_ext h.1.1 (by omega)
    intro k
    rw [h.2 k]
    unfold tb
    rw [show (4096 * c).toNat = 2 ^ 12 * c.toNat by omega, show (64 * (64 * c + b)).toNat = 2 ^ 12 * c.toNat + (64 * b).toNat by omega]
    rw [Nat.two_pow_add_eq_or_of_lt (show (64 * b).toNat < 2 ^ 12 by omega), Nat.testBit_or]
  rw [e1, e2, e3, jor_add ⟨by omega, by omega⟩ ha]
  omega
theorem zW_in (L : Int → Int) (w : Int) : ∀ n : Nat, 0 ≤ zP (zWith L w) n ∧ zP (zWith L w) n ≤ n
  | 0 => ⟨Int.le_refl _, Int.le_refl _⟩
  | n + 1 => by
    have := zW_in L w n
    rw [show zP (zWith L w) (n + 1) = zP (zWith L w) n + zWith L w (n : Int) from rfl]
    have : 0 ≤ zWith L w (n : Int) ∧ zWith L w (n : Int) ≤ 1 := by unfold zWith; split <;> omega
    omega
def zLf (L : Int → Int) (w v K x y : Int) : Prop := x = 0 ∨ ∃ k, (0 ≤ k ∧ k < K) ∧ y = L k ∧ jand (L k) w = w ∧ ∀ k', v < k' → k' < k → ¬ jand (L k') w = w
