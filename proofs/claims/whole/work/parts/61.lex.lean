/-! ===== the text and its tokens ===== -/
def cTx (M : jM) : Int → Int := fun k => if 0 ≤ k ∧ k < M 71 0 then M 72 k % 256 else -1
def rTx (M : jM) : Int → Int := fun k => if 0 ≤ k ∧ k < M 74 14 then M 84 k else -1
/-- a text of n bytes -/
def bOk (b : Int → Int) (n : Int) : Prop := (0 ≤ n ∧ n ≤ 900) ∧ (∀ k, 0 ≤ k → k < n → 0 ≤ b k ∧ b k ≤ 255) ∧ ∀ k, n ≤ k → b k = -1
def skp (b : Int → Int) : Nat → Int → Int
  | 0, p => p
  | f + 1, p => if b p = 32 ∨ b p = 10 then skp b f (p + 1) else p
def rnI (lo hi : Int) (b : Int → Int) : Nat → Int → Int
  | 0, p => p
  | f + 1, p => if lo ≤ b p ∧ b p ≤ hi then rnI lo hi b f (p + 1) else p
def lSk (b : Int → Int) (p : Int) : Int := skp b 1000 p
theorem skp_of {b : Int → Int} : ∀ (f : Nat) {p q : Int}, p ≤ q → q - p < f → (∀ j, p ≤ j → j < q → b j = 32 ∨ b j = 10) → ¬ (b q = 32 ∨ b q = 10) → skp b f p = q
  | 0, p, q, h1, h2, _, _ => by omega
  | f + 1, p, q, h1, h2, h3, h4 => by
    unfold skp
    by_cases e : p = q
    · rw [e, if_neg h4]
    · rw [if_pos (h3 p (by omega) (by omega))]
      exact skp_of f (by omega) (by omega) (fun j a c => h3 j (by omega) c) h4
theorem lSk_of {b : Int → Int} {p q : Int} (h1 : p ≤ q) (h2 : q - p < 1000) (h3 : ∀ j, p ≤ j → j < q → b j = 32 ∨ b j = 10) (h4 : ¬ (b q = 32 ∨ b q = 10)) : lSk b p = q := skp_of 1000 h1 (by omega) h3 h4
theorem rnI_of {lo hi : Int} {b : Int → Int} : ∀ (f : Nat) {p q : Int}, p ≤ q → q - p < f → (∀ j, p ≤ j → j < q → lo ≤ b j ∧ b j ≤ hi) → ¬ (lo ≤ b q ∧ b q ≤ hi) → rnI lo hi b f p = q
  | 0, p, q, h1, h2, _, _ => by omega
  | f + 1, p, q, h1, h2, h3, h4 => by
    unfold rnI
    by_cases e : p = q
    · rw [e, if_neg h4]
    · rw [if_pos (h3 p (by omega) (by omega))]
      exact rnI_of f (by omega) (by omega) (fun j a c => h3 j (by omega) c) h4
theorem skp_in {b : Int → Int} {n : Int} (hb : bOk b n) : ∀ (f : Nat) {p : Int}, p ≤ n → p ≤ skp b f p ∧ skp b f p ≤ n
  | 0, p, h => by unfold skp; omega
  | f + 1, p, h => by
    unfold skp
    split
    · rename_i z
      have : p < n := by
        rcases Int.lt_or_le p n with y | y
        · exact y
        · have := hb.2.2 p y
          omega
      have := skp_in hb f (p := p + 1) (by omega)
      omega
    · omega
theorem rnI_in {lo hi : Int} (hl : 0 ≤ lo) {b : Int → Int} {n : Int} (hb : bOk b n) : ∀ (f : Nat) {p : Int}, p ≤ n → p ≤ rnI lo hi b f p ∧ rnI lo hi b f p ≤ n
  | 0, p, h => by unfold rnI; omega
  | f + 1, p, h => by
    unfold rnI
    split
    · rename_i z
      have : p < n := by
        rcases Int.lt_or_le p n with y | y
        · exact y
        · have := hb.2.2 p y
          omega
      have := rnI_in (hi := hi) hl hb f (p := p + 1) (by omega)
      omega
    · omega
abbrev isL (c : Int) : Prop := 97 ≤ c ∧ c ≤ 122
abbrev isD (c : Int) : Prop := 48 ≤ c ∧ c ≤ 57
abbrev isSg (c : Int) : Prop := c = 58 ∨ c = 59 ∨ c = 40 ∨ c = 41 ∨ c = 38 ∨ c = 124 ∨ c = 33 ∨ c = 60 ∨ c = 62 ∨ c = 61 ∨ c = 44 ∨ c = 45
/-- a token's end -/
def lEd (b : Int → Int) (q : Int) : Int := if b q < 0 then q else if isL (b q) then rnI 97 122 b 1000 q else if isD (b q) then rnI 48 57 b 1000 q else q + 1
def nmB (b : Int → Int) (q : Int) : Nat → Int
  | 0 => 0
  | n + 1 => 256 * nmB b q n + b (q + n)
def nvB (b : Int → Int) (q : Int) : Nat → Int
  | 0 => 0
  | n + 1 => 10 * nvB b q n + (b (q + n) - 48)
/-- the reference's numbers of the words -/
def wVal (k : Int) : Int :=
  if k = 0 then 1920298085 else if k = 1 then 28526 else if k = 2 then 26982 else if k = 3 then 1952998766 else if k = 4 then 126943972911973 else if k = 5 then 448546566771
  else if k = 6 then 1718775661 else if k = 7 then 29807 else if k = 8 then 126870791090028 else if k = 9 then 1919251316 else if k = 10 then 482671093106 else if k = 11 then 6447474
  else if k = 12 then 6383461 else if k = 13 then 1802071652 else if k = 14 then 500135191653 else 1835625580
def wIdx (x : Int) : Int :=
  if x = 1920298085 then 0 else if x = 28526 then 1 else if x = 26982 then 2 else if x = 1952998766 then 3 else if x = 126943972911973 then 4 else if x = 448546566771 then 5
  else if x = 1718775661 then 6 else if x = 29807 then 7 else if x = 126870791090028 then 8 else if x = 1919251316 then 9 else if x = 482671093106 then 10 else if x = 6447474 then 11
  else if x = 6383461 then 12 else if x = 1802071652 then 13 else if x = 500135191653 then 14 else if x = 1835625580 then 15 else -1
/-- the word at q, -1: none of the sixteen -/
def lW (b : Int → Int) (q : Int) : Int := if lEd b q - q ≤ 6 then wIdx (nmB b q (lEd b q - q).toNat) else -1
abbrev nOk (b : Int → Int) (q : Int) : Prop := lEd b q - q ≤ 4 ∧ (¬ b q = 48 ∨ lEd b q = q + 1)
def lK (b : Int → Int) (q : Int) : Int :=
  if b q < 0 then 0 else if isL (b q) then (if 0 ≤ lW b q then 1 else 4) else if isD (b q) then (if nOk b q then 2 else 4) else if isSg (b q) then 3 else 4
def lV (b : Int → Int) (q : Int) : Int := if isL (b q) then lW b q else if isD (b q) then nvB b q (lEd b q - q).toNat else b q
/-- the class's token -/
def cK (b : Int → Int) (q : Int) : Int := if b q < 0 then -3 else if isL (b q) then -1 else if isD (b q) then (if nOk b q then -2 else -4) else b q
def lNx (b : Int → Int) (q : Int) : Int := lSk b (lEd b q)
theorem lEd_in {b : Int → Int} {n : Int} (hb : bOk b n) {q : Int} (h0 : 0 ≤ q) (hq : q ≤ n) : q ≤ lEd b q ∧ lEd b q ≤ n ∧ (¬ b q = -1 → q < lEd b q) ∧ (b q = -1 ↔ q = n) := by
  have e0 : b q = -1 ↔ q = n := by
    constructor
    · intro z
      rcases Int.lt_or_le q n with y | y
      · have := hb.2.1 q h0 y
        omega
      · omega
    · intro z
      exact hb.2.2 q (by omega)
  by_cases hn : q = n
  · have := e0.2 hn
    unfold lEd
    rw [if_pos (by omega)]
    exact ⟨by omega, by omega, fun z => absurd this z, e0⟩
  · have hv := hb.2.1 q h0 (by omega)
    unfold lEd
    rw [if_neg (by omega)]
    split
    · rename_i z
      have s : rnI 97 122 b 1000 q = rnI 97 122 b 999 (q + 1) := by
        show (if 97 ≤ b q ∧ b q ≤ 122 then rnI 97 122 b 999 (q + 1) else q) = _
        rw [if_pos z]
      have := rnI_in (lo := 97) (hi := 122) (by omega) hb 999 (p := q + 1) (by omega)
      rw [s]
      exact ⟨by omega, by omega, fun _ => by omega, e0⟩
    · split
      · rename_i z
        have s : rnI 48 57 b 1000 q = rnI 48 57 b 999 (q + 1) := by
          show (if 48 ≤ b q ∧ b q ≤ 57 then rnI 48 57 b 999 (q + 1) else q) = _
          rw [if_pos z]
        have := rnI_in (lo := 48) (hi := 57) (by omega) hb 999 (p := q + 1) (by omega)
        rw [s]
        exact ⟨by omega, by omega, fun _ => by omega, e0⟩
      · exact ⟨by omega, by omega, fun _ => by omega, e0⟩
theorem lNx_in {b : Int → Int} {n : Int} (hb : bOk b n) {q : Int} (h0 : 0 ≤ q) (hq : q ≤ n) : q ≤ lNx b q ∧ lNx b q ≤ n ∧ (¬ b q = -1 → q < lNx b q) := by
  have a := lEd_in hb h0 hq
  have c := skp_in hb 1000 (p := lEd b q) a.2.1
  unfold lNx lSk
  exact ⟨by omega, c.2, fun z => by have := a.2.2.1 z; omega⟩
theorem nv_le {b : Int → Int} {q : Int} : ∀ (n : Nat), n ≤ 4 → (∀ j, q ≤ j → j < q + n → 48 ≤ b j ∧ b j ≤ 57) → 0 ≤ nvB b q n ∧ nvB b q n ≤ 9999 ∧ (n ≤ 3 → nvB b q n ≤ 999) ∧ (n ≤ 2 → nvB b q n ≤ 99) ∧ (n ≤ 1 → nvB b q n ≤ 9) ∧ (n = 0 → nvB b q n = 0)
  | 0, _, _ => by unfold nvB; omega
  | n + 1, h, hd => by
    have ih := nv_le (b := b) (q := q) n (by omega) (fun j a c => hd j a (by omega))
    have := hd (q + n) (by omega) (by omega)
    unfold nvB
    omega
theorem nv_ge0 {b : Int → Int} {q : Int} : ∀ (n : Nat), (∀ j, q ≤ j → j < q + n → 48 ≤ b j ∧ b j ≤ 57) → 0 ≤ nvB b q n
  | 0, _ => by unfold nvB; omega
  | n + 1, hd => by
    have ih := nv_ge0 (b := b) (q := q) n (fun j a c => hd j a (by omega))
    have := hd (q + n) (by omega) (by omega)
    unfold nvB
    omega
theorem nv_ge {b : Int → Int} {q : Int} (h48 : ¬ b q = 48) : ∀ (n : Nat), (∀ j, q ≤ j → j < q + n → 48 ≤ b j ∧ b j ≤ 57) → (1 ≤ n → 1 ≤ nvB b q n) ∧ (2 ≤ n → 10 ≤ nvB b q n) ∧ (3 ≤ n → 100 ≤ nvB b q n) ∧ (4 ≤ n → 1000 ≤ nvB b q n) ∧ (5 ≤ n → 10000 ≤ nvB b q n)
  | 0, _ => by omega
  | n + 1, hd => by
    have ih := nv_ge h48 n (fun j a c => hd j a (by omega))
    have h1 := hd (q + n) (by omega) (by omega)
    have h0 := nv_ge0 (b := b) (q := q) n (fun j a c => hd j a (by omega))
    unfold nvB
    by_cases hn : n = 0
    · subst hn
      rw [show q + ((0 : Nat) : Int) = q by omega] at h1 ⊢
      omega
    · omega
theorem nm_inj {b b' : Int → Int} {q q' : Int} : ∀ (n n' : Nat), (∀ j : Nat, j < n → 1 ≤ b (q + j) ∧ b (q + j) ≤ 255) → (∀ j : Nat, j < n' → 1 ≤ b' (q' + j) ∧ b' (q' + j) ≤ 255) → nmB b q n = nmB b' q' n' → n = n' ∧ ∀ j : Nat, j < n → b (q + j) = b' (q' + j)
  | 0, 0, _, _, _ => ⟨rfl, fun j h => by omega⟩
  | 0, n' + 1, _, h', e => by
    have a := h' n' (by omega)
    have p : ∀ (m : Nat), m ≤ n' → 0 ≤ nmB b' q' m := by
      intro m
      induction m with
      | zero => intro _; unfold nmB; omega
      | succ m ih => intro hm; have := ih (by omega); have := h' m (by omega); unfold nmB; omega
    have := p n' (Nat.le_refl _)
    unfold nmB at e
    omega
  | n + 1, 0, h, _, e => by
    have a := h n (by omega)
    have p : ∀ (m : Nat), m ≤ n → 0 ≤ nmB b q m := by
      intro m
      induction m with
      | zero => intro _; unfold nmB; omega
      | succ m ih => intro hm; have := ih (by omega); have := h m (by omega); unfold nmB; omega
    have := p n (Nat.le_refl _)
    unfold nmB at e
    omega
  | n + 1, n' + 1, h, h', e => by
    have a := h n (by omega)
    have a' := h' n' (by omega)
    unfold nmB at e
    have e1 : nmB b q n = nmB b' q' n' := by omega
    have e2 : b (q + n) = b' (q' + n') := by omega
    obtain ⟨hn, hd⟩ := nm_inj n n' (fun j z => h j (by omega)) (fun j z => h' j (by omega)) e1
    subst hn
    refine ⟨rfl, fun j hj => ?_⟩
    by_cases hj2 : j = n
    · subst hj2; exact e2
    · exact hd j (by omega)
theorem nm_cg {b b' : Int → Int} {q q' : Int} : ∀ (n : Nat), (∀ j : Nat, j < n → b (q + j) = b' (q' + j)) → nmB b q n = nmB b' q' n
  | 0, _ => rfl
  | n + 1, h => by
    unfold nmB
    rw [nm_cg n (fun j z => h j (by omega)), h n (by omega)]
/-- the class's i-th literal is the reference's word wMap i -/
def wMap (i : Nat) : Int := [0, 1, 2, 12, 13, 14, 15, 10, 3, 5, 6, 8, 9, 11, 7, 4].getD i 0
theorem wMap_all : ∀ i, i < 16 → nmB (jch i) 0 (jlen.getD i 0) = wVal (wMap i) ∧ (0 ≤ wMap i ∧ wMap i ≤ 15) := by decide
theorem wIdx_1 (x : Int) : wIdx x = -1 ∨ x = wVal (wIdx x) := by
  by_cases h0 : x = 1920298085
  · subst h0; exact Or.inr (by decide)
  by_cases h1 : x = 28526
  · subst h1; exact Or.inr (by decide)
  by_cases h2 : x = 26982
  · subst h2; exact Or.inr (by decide)
  by_cases h3 : x = 1952998766
  · subst h3; exact Or.inr (by decide)
  by_cases h4 : x = 126943972911973
  · subst h4; exact Or.inr (by decide)
  by_cases h5 : x = 448546566771
  · subst h5; exact Or.inr (by decide)
  by_cases h6 : x = 1718775661
  · subst h6; exact Or.inr (by decide)
  by_cases h7 : x = 29807
  · subst h7; exact Or.inr (by decide)
  by_cases h8 : x = 126870791090028
  · subst h8; exact Or.inr (by decide)
  by_cases h9 : x = 1919251316
  · subst h9; exact Or.inr (by decide)
  by_cases h10 : x = 482671093106
  · subst h10; exact Or.inr (by decide)
  by_cases h11 : x = 6447474
  · subst h11; exact Or.inr (by decide)
  by_cases h12 : x = 6383461
  · subst h12; exact Or.inr (by decide)
  by_cases h13 : x = 1802071652
  · subst h13; exact Or.inr (by decide)
  by_cases h14 : x = 500135191653
  · subst h14; exact Or.inr (by decide)
  by_cases h15 : x = 1835625580
  · subst h15; exact Or.inr (by decide)
  exact Or.inl (by unfold wIdx; rw [if_neg h0, if_neg h1, if_neg h2, if_neg h3, if_neg h4, if_neg h5, if_neg h6, if_neg h7, if_neg h8, if_neg h9, if_neg h10, if_neg h11, if_neg h12, if_neg h13, if_neg h14, if_neg h15])
theorem wIdx_2 : ∀ k : Nat, k < 16 → wIdx (wVal k) = k := by decide
theorem wIdx_val {x k : Int} (hk : 0 ≤ k ∧ k ≤ 15) : wIdx x = k ↔ x = wVal k := by
  constructor
  · intro z
    rcases wIdx_1 x with y | y
    · omega
    · rw [y, z]
  · intro z
    have := wIdx_2 k.toNat (by omega)
    rw [show ((k.toNat : Nat) : Int) = k by omega] at this
    rw [z, this]
theorem wIdx_in (x : Int) : -1 ≤ wIdx x ∧ wIdx x ≤ 15 := by
  unfold wIdx
  (repeat' split) <;> omega
theorem rnI_sp {lo hi : Int} (hl : 0 ≤ lo) {b : Int → Int} {n : Int} (hb : bOk b n) : ∀ (f : Nat) {p : Int}, p ≤ n → n - p < f → (∀ j, p ≤ j → j < rnI lo hi b f p → lo ≤ b j ∧ b j ≤ hi) ∧ ¬ (lo ≤ b (rnI lo hi b f p) ∧ b (rnI lo hi b f p) ≤ hi)
  | 0, p, h, h2 => by omega
  | f + 1, p, h, h2 => by
    by_cases z : lo ≤ b p ∧ b p ≤ hi
    · have e : rnI lo hi b (f + 1) p = rnI lo hi b f (p + 1) := by rw [rnI, if_pos z]
      have : p < n := by
        rcases Int.lt_or_le p n with y | y
        · exact y
        · have := hb.2.2 p y
          omega
      have ih := rnI_sp (hi := hi) hl hb f (p := p + 1) (by omega) (by omega)
      rw [e]
      refine ⟨fun j a c => ?_, ih.2⟩
      by_cases hj : j = p
      · rw [hj]; exact z
      · exact ih.1 j (by omega) c
    · have e : rnI lo hi b (f + 1) p = p := by rw [rnI, if_neg z]
      rw [e]
      exact ⟨fun j a c => by omega, z⟩
/-- a run of letters spells the i-th literal -/
theorem lW_lit {b : Int → Int} {n q : Int} (hb : bOk b n) (h0 : 0 ≤ q) (hq : q ≤ n) (hl : isL (b q)) {i : Nat} (hi : i < 16) : lW b q = wMap i ↔ (lEd b q - q = jsl i ∧ ∀ j, 0 ≤ j → j < jsl i → b (q + j) = jch i j) := by
  have e : lEd b q = rnI 97 122 b 1000 q := by
    unfold lEd
    rw [if_neg (by omega), if_pos hl]
  have sp := rnI_sp (lo := 97) (hi := 122) (by omega) hb 1000 hq (by have := hb.1; omega)
  rw [← e] at sp
  have ed := lEd_in hb h0 hq
  have hw := wMap_all i hi
  have hs := jsl_all i hi
  have hs2 : jsl i = ((jlen.getD i 0 : Nat) : Int) := rfl
  have hc : ∀ j : Nat, j < jlen.getD i 0 → 1 ≤ jch i (0 + j) ∧ jch i (0 + j) ≤ 255 := fun j hj => by
    rw [Int.zero_add]
    have := (jch_at hi (j := (j : Int)) (by omega) (by omega)).1
    omega
  constructor
  · intro z
    unfold lW at z
    by_cases h6 : lEd b q - q ≤ 6
    · rw [if_pos h6, wIdx_val hw.2, ← hw.1] at z
      obtain ⟨a, c⟩ := nm_inj _ _ (fun j hj => by have := sp.1 (q + j) (by omega) (by omega); omega) hc z
      refine ⟨by omega, fun j j0 j1 => ?_⟩
      have := c j.toNat (by omega)
      rw [show ((j.toNat : Nat) : Int) = j by omega, Int.zero_add] at this
      exact this
    · rw [if_neg h6] at z
      omega
  · rintro ⟨a, c⟩
    unfold lW
    rw [if_pos (by omega), wIdx_val hw.2, ← hw.1, a]
    rw [hs2, Int.toNat_natCast]
    exact nm_cg _ (fun j hj => by rw [Int.zero_add]; exact c j (by omega) (by omega))
