/-! ===== where a reader stands: s ≥ 0 well, its token begins at s; s < 0 a FAULT at -1 - s ===== -/
def tkW (b : Int → Int) (k s : Int) : Int := if s < 0 then s else if lK b s = 1 ∧ lV b s = k then lNx b s else -1 - s
def tkS (b : Int → Int) (c s : Int) : Int := if s < 0 then s else if lK b s = 3 ∧ lV b s = c then lNx b s else -1 - s
def tkN (b : Int → Int) (lo hi s : Int) : Int := if s < 0 then s else if lK b s = 2 ∧ lo ≤ lV b s ∧ lV b s ≤ hi then lNx b s else -1 - s
def nV (b : Int → Int) (lo hi s : Int) : Int := if 0 ≤ s ∧ lK b s = 2 ∧ lo ≤ lV b s ∧ lV b s ≤ hi then lV b s else 0
def fl (s : Int) : Int := if s < 0 then s else -1 - s
theorem lEd_ge (b : Int → Int) (s : Int) : s ≤ lEd b s := by
  have rin : ∀ (lo hi : Int) (f : Nat) (p : Int), p ≤ rnI lo hi b f p := by
    intro lo hi f
    induction f with
    | zero => intro p; exact Int.le_refl _
    | succ f ih => intro p; unfold rnI; split; (· have := ih (p + 1); omega); (· omega)
  unfold lEd
  split
  · omega
  · split
    · exact rin _ _ _ _
    · split
      · exact rin _ _ _ _
      · omega
theorem cK_word {b : Int → Int} {q : Int} : cK b q = -1 ↔ isL (b q) := by
  unfold cK
  (repeat' split) <;> omega
theorem cK_num {b : Int → Int} {q : Int} : cK b q = -2 ↔ lK b q = 2 := by
  unfold cK lK
  (repeat' split) <;> omega
theorem cK_end {b : Int → Int} {q : Int} : cK b q = -3 ↔ lK b q = 0 := by
  unfold cK lK
  (repeat' split) <;> omega
theorem cK_sign {b : Int → Int} {q c : Int} (hc : isSg c) : cK b q = c ↔ (lK b q = 3 ∧ lV b q = c) := by
  unfold cK lK lV
  (repeat' split) <;> omega
theorem lK_in (b : Int → Int) (q : Int) : 0 ≤ lK b q ∧ lK b q ≤ 4 := by
  unfold lK
  (repeat' split) <;> omega
theorem lK_word {b : Int → Int} {q k : Int} (hk : 0 ≤ k) : (lK b q = 1 ∧ lV b q = k) ↔ (isL (b q) ∧ lW b q = k) := by
  unfold lK lV
  (repeat' split) <;> omega
theorem lK_end {b : Int → Int} {n q : Int} (hb : bOk b n) (h0 : 0 ≤ q) (h1 : q ≤ n) : lK b q = 0 ↔ q = n := by
  have a := lEd_in hb h0 h1
  have c : q < n → 0 ≤ b q := fun z => (hb.2.1 q h0 z).1
  have e : lK b q = 0 ↔ b q < 0 := by
    unfold lK
    (repeat' split) <;> omega
  rw [e]
  constructor
  · intro z
    rcases Int.lt_or_le q n with y | y
    · have := c y; omega
    · omega
  · intro z
    have := a.2.2.2.2 z
    omega
/-- the next place is further on, but at the end -/
theorem lNx_lt {b : Int → Int} {n q : Int} (hb : bOk b n) (h0 : 0 ≤ q) (h1 : q ≤ n) (hk : ¬ lK b q = 0) : q < lNx b q ∧ lNx b q ≤ n := by
  have a := lNx_in hb h0 h1
  have e := lK_end hb h0 h1
  have d := lEd_in hb h0 h1
  refine ⟨a.2.2 (fun z => hk (e.2 (d.2.2.2.1 z))), a.2.1⟩
theorem lV_num {b : Int → Int} {n q : Int} (hb : bOk b n) (h0 : 0 ≤ q) (h1 : q ≤ n) (hk : lK b q = 2) : 0 ≤ lV b q ∧ lV b q ≤ 9999 := by
  have hd : isD (b q) ∧ nOk b q := by
    unfold lK at hk
    by_cases a : b q < 0
    · rw [if_pos a] at hk; omega
    · rw [if_neg a] at hk
      by_cases c : isL (b q)
      · rw [if_pos c] at hk
        split at hk <;> omega
      · rw [if_neg c] at hk
        by_cases d : isD (b q)
        · rw [if_pos d] at hk
          by_cases e : nOk b q
          · exact ⟨d, e⟩
          · rw [if_neg e] at hk; omega
        · rw [if_neg d] at hk
          split at hk <;> omega
  have ed := lEd_in hb h0 h1
  have e1 : lEd b q = rnI 48 57 b 1000 q := by
    unfold lEd
    rw [if_neg (by omega), if_neg (by omega), if_pos hd.1]
  have sp := rnI_sp (lo := 48) (hi := 57) (by omega) hb 1000 h1 (by have := hb.1; omega)
  rw [← e1] at sp
  have := nv_le (b := b) (q := q) (lEd b q - q).toNat (by have := hd.2.1; omega) (fun j a c => sp.1 j a (by omega))
  unfold lV
  rw [if_neg (by omega), if_pos hd.1]
  exact ⟨this.1, this.2.1⟩
/-! the class -/
def cT (b : Int → Int) (M : jM) (q : Int) : Prop := cTx M = b ∧ cTk b M ∧ M 71 3 = q ∧ 0 ≤ q ∧ q ≤ M 71 0
theorem cT_tok {b : Int → Int} {M : jM} {q : Int} (h : cT b M q) : M 71 3 = q ∧ M 71 2 = cK b q ∧ M 71 4 = lEd b q - q ∧ (lK b q = 2 → M 71 5 = lV b q) ∧ (0 ≤ q ∧ q ≤ M 71 0) ∧ cTx M = b := by
  obtain ⟨h1, h2, h3, h4, h5⟩ := h
  unfold cTk at h2
  rw [h3] at h2
  exact ⟨h3, h2.1, h2.2.1, fun z => h2.2.2 (cK_num.2 z), ⟨h4, h5⟩, h1⟩
theorem cT_bok {b : Int → Int} {M : jM} {q : Int} (h : cT b M q) (hn : 0 ≤ M 71 0 ∧ M 71 0 ≤ 900) : bOk b (M 71 0) := by
  have := cTx_ok (M := M) hn
  rw [h.1] at this
  exact this
theorem cT_step {b : Int → Int} {M N : jM} {q : Int} (h : cT b M q) (hs : stP b M N) : cT b N (lNx b q) := by
  have t := cT_tok h
  obtain ⟨⟨s1, s2, s3⟩, s4, s5, s6⟩ := hs
  have e : M 71 3 + M 71 4 = lEd b q := by omega
  rw [e] at s1
  refine ⟨?_, s4, s1, ?_, ?_⟩
  · rw [← h.1]
    exact cTx_cg (s6 0 (by decide) (by decide) (by decide) (by decide)) (s5 72 (by decide))
  · have := lEd_ge b q
    unfold lNx
    rw [← s1]
    omega
  · unfold lNx
    rw [← s1, s6 0 (by decide) (by decide) (by decide) (by decide)]
    exact s3
theorem cT_pre {b : Int → Int} {M : jM} {q : Int} (h : cT b M q) (hn : 0 ≤ M 71 0 ∧ M 71 0 ≤ 900) : 0 ≤ M 71 3 ∧ 0 ≤ M 71 4 ∧ M 71 3 + M 71 4 ≤ M 71 0 := by
  have t := cT_tok h
  have d := lEd_in (cT_bok h hn) t.2.2.2.2.1.1 t.2.2.2.2.1.2
  omega
theorem cT_cg {b : Int → Int} {M N : jM} {q : Int} (h : cT b M q) (h72 : N 72 = M 72) (h71 : ∀ k, k = 0 ∨ k = 2 ∨ k = 3 ∨ k = 4 ∨ k = 5 → N 71 k = M 71 k) : cT b N q := by
  obtain ⟨h1, h2, h3, h4, h5⟩ := h
  refine ⟨?_, ?_, by rw [h71 3 (by omega)]; exact h3, h4, by rw [h71 0 (by omega)]; exact h5⟩
  · rw [← h1]
    exact cTx_cg (h71 0 (by omega)) h72
  · unfold cTk at h2 ⊢
    rw [h71 2 (by omega), h71 3 (by omega), h71 4 (by omega), h71 5 (by omega)]
    exact h2
theorem cFr_rf (M : jM) : cFr M M := ⟨fun _ _ => rfl, fun _ _ _ _ _ => rfl⟩
theorem cFr_tr {M N O : jM} (h : cFr M N) (h' : cFr N O) : cFr M O := ⟨fun c a => (h'.1 c a).trans (h.1 c a), fun k a b c d => (h'.2 k a b c d).trans (h.2 k a b c d)⟩
/-! the reference -/
def rS (b : Int → Int) (M : jM) (s : Int) : Prop := (0 ≤ s ∧ s ≤ M 74 14 ∧ M 74 19 = -1 ∧ M 74 17 = s ∧ rTk b M) ∨ (s < 0 ∧ M 74 19 = -1 - s)
def rP (b : Int → Int) (M : jM) (s : Int) : Prop := rTx M = b ∧ rS b M s
def rF2 (M N : jM) : Prop := (∀ c, c ≠ 74 → N c = M c) ∧ ∀ k, k ≠ 15 → k ≠ 16 → k ≠ 17 → k ≠ 18 → k ≠ 19 → N 74 k = M 74 k
theorem rF2_rf (M : jM) : rF2 M M := ⟨fun _ _ => rfl, fun _ _ _ _ _ _ => rfl⟩
theorem rF2_tr {M N O : jM} (h : rF2 M N) (h' : rF2 N O) : rF2 M O := ⟨fun c a => (h'.1 c a).trans (h.1 c a), fun k a b c d e => (h'.2 k a b c d e).trans (h.2 k a b c d e)⟩
theorem rF2_of {M N : jM} (h : rFr M N) : rF2 M N := ⟨h.1, fun k a b c d _ => h.2 k a b c d⟩
theorem rF2_19 (M : jM) (v : Int) : rF2 M (jup M 74 19 v) := ⟨fun c a => jup_cell a, fun k _ _ _ _ a => jup_ne (fun z => a z.2)⟩
theorem rP_well {b : Int → Int} {M : jM} {s : Int} (h : rP b M s) (h0 : 0 ≤ s) : M 74 19 = -1 ∧ M 74 17 = s ∧ M 74 16 = lK b s ∧ (1 ≤ lK b s → lK b s ≤ 3 → M 74 18 = lV b s) ∧ M 74 15 = lEd b s ∧ s ≤ M 74 14 := by
  rcases h.2 with ⟨_, a, c, d, e⟩ | ⟨a, _⟩
  · unfold rTk at e
    rw [d] at e
    exact ⟨c, d, e.1, e.2.1, e.2.2, a⟩
  · omega
theorem rP_ill {b : Int → Int} {M : jM} {s : Int} (h : rP b M s) (h0 : s < 0) : M 74 19 = -1 - s := by
  rcases h.2 with ⟨a, _⟩ | ⟨_, a⟩
  · omega
  · exact a
theorem rP_19 {b : Int → Int} {M : jM} {s : Int} (h : rP b M s) : M 74 19 < 0 ↔ 0 ≤ s := by
  rcases Int.lt_or_le s 0 with z | z
  · have := rP_ill h z
    omega
  · have := (rP_well h z).1
    omega
theorem rP_bok {b : Int → Int} {M : jM} {s : Int} (h : rP b M s) (hn : 0 ≤ M 74 14 ∧ M 74 14 ≤ 900) (ht : ∀ i, 0 ≤ M 84 i ∧ M 84 i ≤ 255) : bOk b (M 74 14) := by
  have := rTx_ok hn ht
  rw [h.1] at this
  exact this
theorem rP_adv {b : Int → Int} {M N : jM} {s : Int} (h : rP b M s) (h0 : 0 ≤ s) (ha : adP b M N) : rP b N (lNx b s) := by
  have w := rP_well h h0
  obtain ⟨⟨a1, a2, a3⟩, a4, a5, a6⟩ := ha
  rw [w.2.2.2.2.1] at a1 a2
  have e14 := a6 14 (by decide) (by decide) (by decide) (by decide)
  have e19 := a6 19 (by decide) (by decide) (by decide) (by decide)
  refine ⟨?_, Or.inl ⟨?_, ?_, ?_, a1, a4⟩⟩
  · rw [← h.1]
    exact rTx_cg e14 (a5 84 (by decide))
  · rw [a1] at a2
    unfold lNx
    have := lEd_ge b s
    omega
  · rw [e14]
    unfold lNx
    rw [← a1]
    exact a3
  · rw [e19]; exact w.1
theorem rP_pre {b : Int → Int} {M : jM} {s : Int} (h : rP b M s) (h0 : 0 ≤ s) (hn : 0 ≤ M 74 14 ∧ M 74 14 ≤ 900) (ht : ∀ i, 0 ≤ M 84 i ∧ M 84 i ≤ 255) : 0 ≤ M 74 15 ∧ M 74 15 ≤ M 74 14 := by
  have w := rP_well h h0
  have d := lEd_in (rP_bok h hn ht) h0 w.2.2.2.2.2
  omega
theorem rP_fl {b : Int → Int} {M : jM} {s : Int} (h : rP b M s) : rP b (jup M 74 19 (if M 74 19 < 0 then M 74 17 else M 74 19)) (fl s) := by
  have e := rP_19 h
  refine ⟨by rw [rTx_jup (by decide)]; exact h.1, ?_⟩
  unfold fl
  rcases Int.lt_or_le s 0 with z | z
  · rw [if_pos z, if_neg (by omega)]
    refine Or.inr ⟨z, ?_⟩
    rw [jup_self]
    exact rP_ill h z
  · rw [if_neg (show ¬ s < 0 by omega), if_pos (show M 74 19 < 0 by omega)]
    refine Or.inr ⟨by omega, ?_⟩
    rw [jup_self]
    have := (rP_well h z).2.1
    omega
theorem rP_cg {b : Int → Int} {M N : jM} {s : Int} (h : rP b M s) (h84 : N 84 = M 84) (h74 : ∀ k, k = 14 ∨ k = 15 ∨ k = 16 ∨ k = 17 ∨ k = 18 ∨ k = 19 → N 74 k = M 74 k) : rP b N s := by
  refine ⟨by rw [← h.1]; exact rTx_cg (h74 14 (by omega)) h84, ?_⟩
  unfold rS rTk
  rw [h74 14 (by omega), h74 15 (by omega), h74 16 (by omega), h74 17 (by omega), h74 18 (by omega), h74 19 (by omega)]
  exact h.2
