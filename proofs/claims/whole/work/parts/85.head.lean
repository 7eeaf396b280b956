/-! ===== the head of a RULE ===== -/
def pH1 (b : Int → Int) (s : Int) : Int := tkN b 1 99 s
def pH2 (b : Int → Int) (s : Int) : Int := tkW b 1 (pH1 b s)
def pH3 (b : Int → Int) (s : Int) : Int := tkN b 0 359 (pH2 b s)
def pHf (b : Int → Int) (s : Int) : Int := nV b 0 359 (pH2 b s)
def pH4 (b : Int → Int) (s : Int) : Int := tkS b 45 (pH3 b s)
def pH5 (b : Int → Int) (s : Int) : Int := tkN b (pHf b s) 359 (pH4 b s)
def pHl (b : Int → Int) (s : Int) : Int := nV b (pHf b s) 359 (pH4 b s)
def pH6 (b : Int → Int) (s : Int) : Int := tkS b 58 (pH5 b s)
def zBd (x y : Int) : Prop := x < 0 ∧ y = -1 - x
theorem pHb_5 {b : Int → Int} {s y : Int} (h : zBd (pH5 b s) y) : zBd (pH6 b s) y := by
  have e : pH6 b s = pH5 b s := tkS_neg h.1
  rw [e]; exact h
theorem pHb_4 {b : Int → Int} {s y : Int} (h : zBd (pH4 b s) y) : zBd (pH6 b s) y := by
  have e : pH5 b s = pH4 b s := tkN_neg h.1
  exact pHb_5 (by rw [e]; exact h)
theorem pHb_3 {b : Int → Int} {s y : Int} (h : zBd (pH3 b s) y) : zBd (pH6 b s) y := by
  have e : pH4 b s = pH3 b s := tkS_neg h.1
  exact pHb_4 (by rw [e]; exact h)
theorem pHb_2 {b : Int → Int} {s y : Int} (h : zBd (pH2 b s) y) : zBd (pH6 b s) y := by
  have e : pH3 b s = pH2 b s := tkN_neg h.1
  exact pHb_3 (by rw [e]; exact h)
theorem pHb_1 {b : Int → Int} {s y : Int} (h : zBd (pH1 b s) y) : zBd (pH6 b s) y := by
  have e : pH2 b s = pH1 b s := tkW_neg h.1
  exact pHb_2 (by rw [e]; exact h)
theorem zN {b : Int → Int} {lo lo' hi q r : Int} {N : jM} (hq : 0 ≤ q) (h : (r = lV b q ∧ (lK b q = 2 ∧ lo ≤ lV b q ∧ lV b q ≤ hi) ∧ cT b N (lNx b q)) ∨ (r = -9 ∧ ¬ (lK b q = 2 ∧ lo ≤ lV b q ∧ lV b q ≤ hi) ∧ cT b N q)) (hl : lo = lo') (h0 : 0 ≤ lo) :
    (¬ r = -9 → cT b N (tkN b lo' hi q) ∧ r = nV b lo' hi q ∧ lo ≤ r ∧ r ≤ hi) ∧ (r = -9 → zBd (tkN b lo' hi q) (N 71 3)) := by
  subst hl
  rcases h with ⟨a, c, d⟩ | ⟨a, c, d⟩
  · have e := (tkN_at (b := b) (lo := lo) (hi := hi) hq).1 c
    exact ⟨fun _ => ⟨by rw [e.1]; exact d, by rw [e.2]; exact a, by omega, by omega⟩, fun z => by omega⟩
  · have t := cT_tok d
    have e := (tkN_at (b := b) (lo := lo) (hi := hi) hq).2 c
    exact ⟨fun z => absurd a z, fun _ => ⟨by omega, by omega⟩⟩
theorem zW {b : Int → Int} {k q r : Int} {N : jM} (hq : 0 ≤ q) (h : (r = 1 ∧ (lK b q = 1 ∧ lV b q = k) ∧ cT b N (lNx b q)) ∨ (r = 0 ∧ ¬ (lK b q = 1 ∧ lV b q = k) ∧ cT b N q)) : (¬ r = 0 → cT b N (tkW b k q)) ∧ (r = 0 → zBd (tkW b k q) (N 71 3)) := by
  rcases h with ⟨a, c, d⟩ | ⟨a, c, d⟩
  · have e := (tkW_at (b := b) (k := k) hq).1 c
    exact ⟨fun _ => by rw [e]; exact d, fun z => by omega⟩
  · have t := cT_tok d
    have e := (tkW_at (b := b) (k := k) hq).2 c
    exact ⟨fun z => absurd a z, fun _ => ⟨by omega, by omega⟩⟩
theorem zS {b : Int → Int} {k q r : Int} {N : jM} (hq : 0 ≤ q) (h : (r = 1 ∧ (lK b q = 3 ∧ lV b q = k) ∧ cT b N (lNx b q)) ∨ (r = 0 ∧ ¬ (lK b q = 3 ∧ lV b q = k) ∧ cT b N q)) : (¬ r = 0 → cT b N (tkS b k q)) ∧ (r = 0 → zBd (tkS b k q) (N 71 3)) := by
  rcases h with ⟨a, c, d⟩ | ⟨a, c, d⟩
  · have e := (tkS_at (b := b) (k := k) hq).1 c
    exact ⟨fun _ => by rw [e]; exact d, fun z => by omega⟩
  · have t := cT_tok d
    have e := (tkS_at (b := b) (k := k) hq).2 c
    exact ⟨fun z => absurd a z, fun _ => ⟨by omega, by omega⟩⟩
theorem cT_0 {b : Int → Int} {N : jM} {q : Int} (h : cT b N q) : 0 ≤ q := (cT_tok h).2.2.2.2.1.1
/-- the number is a RULE's already -/
def hDup (b : Int → Int) (f : Int) (M : jM) (s : Int) : Prop := lK b s = 2 ∧ ∃ j, 0 ≤ j ∧ j < M f 0 ∧ M (f + 1) j = lV b s
theorem hD_k {b : Int → Int} {f s : Int} {M : jM} (h : ¬ lK b s = 2) : ¬ hDup b f M s := fun z => h z.1
theorem hD_no {b : Int → Int} {f s r n x : Int} {M N : jM} (hf : f = 47 ∨ f = 59) (hr : cFr M N) (hn : n = M f 0) (hx : x = lV b s)
    (h : (r = -9 ∧ ∀ j, 0 ≤ j → j < n → ¬ N (f + 1) j = x) ∨ ((0 ≤ r ∧ r < n) ∧ N (f + 1) r = x ∧ ∀ j, 0 ≤ j → j < r → ¬ N (f + 1) j = x)) (h9 : r = -9) : ¬ hDup b f M s := by
  have e : N (f + 1) = M (f + 1) := hr.1 (f + 1) (by omega)
  rcases h with ⟨_, h⟩ | ⟨h, _⟩
  · intro ⟨_, j, a, c, d⟩
    exact h j a (by omega) (by rw [e, hx]; exact d)
  · omega
theorem hD_yes {b : Int → Int} {f s r n x : Int} {M N : jM} (hf : f = 47 ∨ f = 59) (hr : cFr M N) (hn : n = M f 0) (hx : x = lV b s) (hk : lK b s = 2)
    (h : (r = -9 ∧ ∀ j, 0 ≤ j → j < n → ¬ N (f + 1) j = x) ∨ ((0 ≤ r ∧ r < n) ∧ N (f + 1) r = x ∧ ∀ j, 0 ≤ j → j < r → ¬ N (f + 1) j = x)) (h9 : ¬ r = -9) : hDup b f M s := by
  have e : N (f + 1) = M (f + 1) := hr.1 (f + 1) (by omega)
  rcases h with ⟨h, _⟩ | ⟨h, d, _⟩
  · exact absurd h h9
  · exact ⟨hk, r, h.1, by omega, by rw [← e, ← hx]; exact d⟩
def hdP (b : Int → Int) (f : Int) (M N : jM) (s r : Int) : Prop := (hDup b f M s ∧ r = 0 ∧ N 71 3 = s ∧ cFr M N) ∨ (¬ hDup b f M s ∧
  ((r = 1 ∧ 0 ≤ pH6 b s ∧ cT b N (pH6 b s) ∧ ∃ K, cFr M K ∧ addP f K N (nV b 1 99 s) (pHf b s) (pHl b s)) ∨ (r = 0 ∧ zBd (pH6 b s) (N 71 3) ∧ cFr M N)))
theorem hdP_ok {b : Int → Int} {f s n a l : Int} {M K N : jM} (hf : f = 47 ∨ f = 59) (nd : ¬ hDup b f M s) (ht : cT b K (pH6 b s)) (hr : cFr M K) (h : addP f K N n a l) (en : n = nV b 1 99 s) (ea : a = pHf b s) (el : l = pHl b s) : hdP b f M N s 1 := by
  subst en ea el
  refine Or.inr ⟨nd, Or.inl ⟨rfl, cT_0 ht, cT_cg ht ?_ (fun k _ => ?_), K, hr, h⟩⟩
  · exact h.1 72 (by omega) (by omega) (by omega) (by omega) (by omega) (by omega) (by omega) (by omega) (by omega)
  · rw [h.1 71 (by omega) (by omega) (by omega) (by omega) (by omega) (by omega) (by omega) (by omega) (by omega)]
