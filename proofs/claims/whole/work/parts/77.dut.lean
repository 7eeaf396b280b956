/-! ===== DUTIES, read ===== -/
def dWd (k : Int) : Int := if k = 5 then 0 else if k = 6 then 1 else if k = 8 then 3 else if k = 9 then 4 else if k = 10 then 5 else if k = 11 then 6 else -9
def pDw (b : Int → Int) (s : Int) : Int := if lK b s = 1 then dWd (lV b s) else -9
def tUp (t : Int → Int) (k v : Int) : Int → Int := fun j => if j = k then v else t j
/-- behind a DUTY of sort w whose number begins at s -/
def pB3 (b : Int → Int) (w s : Int) : Int :=
  if w = 0 then tkN b 0 1440 s else if w = 1 then tkN b (nV b 0 1439 s + 1) 1439 (tkW b 7 (tkN b 0 1439 s)) else if w = 3 then tkN b 0 600 s else if w = 4 then tkN b 1 1440 s else s
def pBt (b : Int → Int) (w s : Int) (t : Int → Int) : Int → Int :=
  if w = 0 then tUp t 0 (nV b 0 1440 s) else if w = 1 then tUp (tUp t 1 (nV b 0 1439 s)) 2 (nV b (nV b 0 1439 s + 1) 1439 (tkW b 7 (tkN b 0 1439 s))) else if w = 3 then tUp t 3 (nV b 0 600 s) else if w = 4 then tUp t 4 (nV b 1 1440 s) else tUp t w 1
/-- one DUTY -/
def pD1 (b : Int → Int) (s : Int) (t : Int → Int) : Int := if pDw b s < 0 ∨ ¬ t (pDw b s) = -9 then fl s else pB3 b (pDw b s) (lNx b s)
/-- the row of DUTIES up to its ';' -/
def pDu (b : Int → Int) : Nat → Int → (Int → Int) → Nat → Int × (Int → Int) × Nat
  | 0, s, t, m => (fl s, t, m)
  | n + 1, s, t, m =>
    if pD1 b s t < 0 then (pD1 b s t, t, m)
    else if lK b (pD1 b s t) = 3 ∧ lV b (pD1 b s t) = 44 then pDu b n (lNx b (pD1 b s t)) (pBt b (pDw b s) (lNx b s) t) (m + 1)
    else (tkS b 59 (pD1 b s t), pBt b (pDw b s) (lNx b s) t, m + 1)
theorem pDw_in (b : Int → Int) (s : Int) : pDw b s = -9 ∨ ((0 ≤ pDw b s ∧ pDw b s ≤ 6) ∧ ¬ pDw b s = 2 ∧ lK b s = 1) := by
  unfold pDw dWd
  (repeat' split) <;> omega
theorem tkW_in {b : Int → Int} {n : Int} (hb : bOk b n) (k : Int) {s : Int} (h : s ≤ n) : s < 0 ∨ (0 ≤ s ∧ ((tkW b k s < 0 ∧ tkW b k s = -1 - s) ∨ (s < tkW b k s ∧ tkW b k s ≤ n ∧ lK b s = 1 ∧ lV b s = k))) := by
  rcases Int.lt_or_le s 0 with z | z
  · exact Or.inl z
  · refine Or.inr ⟨z, ?_⟩
    unfold tkW
    rw [if_neg (by omega)]
    by_cases c : lK b s = 1 ∧ lV b s = k
    · rw [if_pos c]
      have := lNx_lt hb z h (by omega)
      exact Or.inr ⟨this.1, this.2, c.1, c.2⟩
    · rw [if_neg c]
      exact Or.inl ⟨by omega, rfl⟩
theorem tkS_in {b : Int → Int} {n : Int} (hb : bOk b n) (k : Int) {s : Int} (h : s ≤ n) : s < 0 ∨ (0 ≤ s ∧ ((tkS b k s < 0 ∧ tkS b k s = -1 - s) ∨ (s < tkS b k s ∧ tkS b k s ≤ n ∧ lK b s = 3 ∧ lV b s = k))) := by
  rcases Int.lt_or_le s 0 with z | z
  · exact Or.inl z
  · refine Or.inr ⟨z, ?_⟩
    unfold tkS
    rw [if_neg (by omega)]
    by_cases c : lK b s = 3 ∧ lV b s = k
    · rw [if_pos c]
      have := lNx_lt hb z h (by omega)
      exact Or.inr ⟨this.1, this.2, c.1, c.2⟩
    · rw [if_neg c]
      exact Or.inl ⟨by omega, rfl⟩
theorem tkW_neg {b : Int → Int} {k s : Int} (h : s < 0) : tkW b k s = s := by unfold tkW; rw [if_pos h]
theorem tkS_neg {b : Int → Int} {k s : Int} (h : s < 0) : tkS b k s = s := by unfold tkS; rw [if_pos h]
theorem tkN_neg {b : Int → Int} {lo hi s : Int} (h : s < 0) : tkN b lo hi s = s := by unfold tkN; rw [if_pos h]
theorem nV_neg {b : Int → Int} {lo hi s : Int} (h : s < 0) : nV b lo hi s = 0 := by unfold nV; rw [if_neg (by omega)]
/-- told so far: -9 none, else 0 .. 1440; FROM and TO together -/
def tOk (t : Int → Int) : Prop := (∀ w, 0 ≤ w → w ≤ 6 → t w = -9 ∨ (0 ≤ t w ∧ t w ≤ 1440)) ∧ (t 1 = -9 ↔ t 2 = -9)
theorem tOk_0 : tOk (fun _ => -9) := ⟨fun _ _ _ => Or.inl rfl, Iff.rfl⟩
theorem pB3_in {b : Int → Int} {n : Int} (hb : bOk b n) {w s : Int} (h0 : 0 ≤ s) (h : s ≤ n) : pB3 b w s < 0 ∨ (s ≤ pB3 b w s ∧ pB3 b w s ≤ n) := by
  have g : ∀ lo hi, tkN b lo hi s < 0 ∨ (s ≤ tkN b lo hi s ∧ tkN b lo hi s ≤ n) := by
    intro lo hi
    rcases tkN_in hb lo hi h with z | ⟨_, z | z⟩
    · omega
    · exact Or.inl z.1
    · exact Or.inr ⟨by omega, z.2.1⟩
  unfold pB3
  split
  · exact g _ _
  · split
    · rcases tkN_in hb 0 1439 h with z | ⟨_, z | z⟩
      · omega
      · rw [tkW_neg (k := 7) z.1, tkN_neg z.1]
        exact Or.inl z.1
      · rcases tkW_in hb 7 (s := tkN b 0 1439 s) z.2.1 with y | ⟨_, y | y⟩
        · omega
        · rw [tkN_neg y.1]
          exact Or.inl y.1
        · rcases tkN_in hb (nV b 0 1439 s + 1) 1439 (s := tkW b 7 (tkN b 0 1439 s)) y.2.1 with x | ⟨_, x | x⟩
          · omega
          · exact Or.inl x.1
          · exact Or.inr ⟨by omega, x.2.1⟩
    · split
      · exact g _ _
      · split
        · exact g _ _
        · exact Or.inr ⟨by omega, h⟩
theorem pBt_ok {b : Int → Int} {n : Int} (hb : bOk b n) {w s : Int} {t : Int → Int} (h0 : 0 ≤ s) (h : s ≤ n) (hw : (0 ≤ w ∧ w ≤ 6) ∧ ¬ w = 2) (h3 : 0 ≤ pB3 b w s) (ht : tOk t) : tOk (pBt b w s t) := by
  have up : ∀ (k v : Int), ¬ k = 1 → ¬ k = 2 → 0 ≤ v → v ≤ 1440 → tOk (tUp t k v) := fun k v k1 k2 v0 v1 => by
    refine ⟨fun j j0 j1 => ?_, ?_⟩
    · unfold tUp
      split
      · exact Or.inr ⟨v0, v1⟩
      · exact ht.1 j j0 j1
    · unfold tUp
      rw [if_neg (by omega), if_neg (by omega)]
      exact ht.2
  have g : ∀ lo hi, 0 ≤ tkN b lo hi s → nV b lo hi s = lV b s ∧ lo ≤ lV b s ∧ lV b s ≤ hi := by
    intro lo hi z
    rcases tkN_in hb lo hi h with y | ⟨_, y | y⟩
    · omega
    · omega
    · exact ⟨y.2.2.1, y.2.2.2.2.1, y.2.2.2.2.2⟩
  unfold pB3 at h3
  unfold pBt
  split
  · rename_i c
    rw [if_pos c] at h3
    have := g _ _ h3
    exact up _ _ (by omega) (by omega) (by omega) (by omega)
  · rename_i c
    rw [if_neg c] at h3
    split
    · rename_i c1
      rw [if_pos c1] at h3
      have a1 : 0 ≤ tkW b 7 (tkN b 0 1439 s) := by
        rcases Int.lt_or_le (tkW b 7 (tkN b 0 1439 s)) 0 with z | z
        · rw [tkN_neg z] at h3; omega
        · exact z
      have a0 : 0 ≤ tkN b 0 1439 s := by
        rcases Int.lt_or_le (tkN b 0 1439 s) 0 with z | z
        · rw [tkW_neg z] at a1; omega
        · exact z
      have v0 := g _ _ a0
      have i0 : tkN b 0 1439 s ≤ n := by
        rcases tkN_in hb 0 1439 h with z | ⟨_, z | z⟩
        · omega
        · omega
        · exact z.2.1
      have i1 : tkW b 7 (tkN b 0 1439 s) ≤ n := by
        rcases tkW_in hb 7 i0 with z | ⟨_, z | z⟩
        · omega
        · omega
        · exact z.2.1
      have v1 : nV b (nV b 0 1439 s + 1) 1439 (tkW b 7 (tkN b 0 1439 s)) = lV b (tkW b 7 (tkN b 0 1439 s)) ∧ nV b 0 1439 s + 1 ≤ lV b (tkW b 7 (tkN b 0 1439 s)) ∧ lV b (tkW b 7 (tkN b 0 1439 s)) ≤ 1439 := by
        rcases tkN_in hb (nV b 0 1439 s + 1) 1439 i1 with z | ⟨_, z | z⟩
        · omega
        · omega
        · exact ⟨z.2.2.1, z.2.2.2.2.1, z.2.2.2.2.2⟩
      refine ⟨fun j j0 j1 => ?_, ?_⟩
      · unfold tUp
        split
        · exact Or.inr ⟨by omega, by omega⟩
        · split
          · exact Or.inr ⟨by omega, by omega⟩
          · exact ht.1 j j0 j1
      · unfold tUp
        rw [if_neg (by decide), if_pos rfl, if_pos rfl]
        omega
    · rename_i c1
      rw [if_neg c1] at h3
      split
      · rename_i c2
        rw [if_pos c2] at h3
        have := g _ _ h3
        exact up _ _ (by omega) (by omega) (by omega) (by omega)
      · rename_i c2
        rw [if_neg c2] at h3
        split
        · rename_i c3
          rw [if_pos c3] at h3
          have := g _ _ h3
          exact up _ _ (by omega) (by omega) (by omega) (by omega)
        · exact up _ _ (by omega) (by omega) (by omega) (by omega)
theorem pD1_in {b : Int → Int} {n : Int} (hb : bOk b n) {s : Int} {t : Int → Int} (h0 : 0 ≤ s) (h : s ≤ n) : pD1 b s t < 0 ∨ ((s < pD1 b s t ∧ pD1 b s t ≤ n) ∧ ((0 ≤ pDw b s ∧ pDw b s ≤ 6) ∧ ¬ pDw b s = 2) ∧ lK b s = 1 ∧ t (pDw b s) = -9 ∧ pD1 b s t = pB3 b (pDw b s) (lNx b s)) := by
  unfold pD1
  by_cases c : pDw b s < 0 ∨ ¬ t (pDw b s) = -9
  · rw [if_pos c]
    exact Or.inl (fl_neg h0)
  · rw [if_neg c]
    have w := pDw_in b s
    have a := lNx_lt hb h0 h (by omega)
    have ct : t (pDw b s) = -9 := Classical.byContradiction (fun z => c (Or.inr z))
    have cw : ¬ pDw b s < 0 := fun z => c (Or.inl z)
    rcases pB3_in hb (w := pDw b s) (s := lNx b s) (by omega) a.2 with z | z
    · exact Or.inl z
    · exact Or.inr ⟨⟨by omega, z.2⟩, by omega, by omega, ct, rfl⟩
theorem pDu_in {b : Int → Int} {n : Int} (hb : bOk b n) : ∀ (f : Nat) (s : Int) (t : Int → Int) (m : Nat), 0 ≤ s → s ≤ n → tOk t → (pDu b f s t m).1 < 0 ∨ ((s < (pDu b f s t m).1 ∧ (pDu b f s t m).1 ≤ n) ∧ tOk (pDu b f s t m).2.1 ∧ (pDu b f s t m).2.2 ≤ m + f)
  | 0, s, t, m, h0, _, _ => Or.inl (fl_neg h0)
  | f + 1, s, t, m, h0, h1, ht => by
    rw [pDu]
    rcases pD1_in hb (t := t) h0 h1 with z | ⟨z, hw, hk, htw, e⟩
    · rw [if_pos z]
      exact Or.inl z
    · rw [if_neg (by omega)]
      have a := lNx_lt hb h0 h1 (by omega)
      have ok := pBt_ok hb (by omega) a.2 hw (by omega) ht
      by_cases c : lK b (pD1 b s t) = 3 ∧ lV b (pD1 b s t) = 44
      · rw [if_pos c]
        have x := lNx_lt hb (by omega) z.2 (by omega)
        rcases pDu_in hb f (lNx b (pD1 b s t)) (pBt b (pDw b s) (lNx b s) t) (m + 1) (by omega) x.2 ok with y | ⟨y, y2, y3⟩
        · exact Or.inl y
        · exact Or.inr ⟨⟨by omega, y.2⟩, y2, by omega⟩
      · rw [if_neg c]
        rcases tkS_in hb 59 (s := pD1 b s t) z.2 with y | ⟨_, y | y⟩
        · omega
        · exact Or.inl y.1
        · exact Or.inr ⟨⟨by show s < tkS b 59 (pD1 b s t); omega, y.2.1⟩, ok, by show m + 1 ≤ m + (f + 1); omega⟩
/-! the class's row of what is told -/
def cTd (M : jM) (f : Int) (t : Int → Int) : Prop := ∀ w, 0 ≤ w → w ≤ 6 → (t w = -9 ∧ M (f + 6) ((M f 0 - 1) * 7 + w) = -1) ∨ (¬ t w = -9 ∧ M (f + 6) ((M f 0 - 1) * 7 + w) = t w)
def cDF (f : Int) (M N : jM) : Prop := (∀ c, c ≠ 71 → c ≠ f + 5 → c ≠ f + 6 → N c = M c) ∧ (∀ k, k ≠ 2 → k ≠ 3 → k ≠ 4 → k ≠ 5 → N 71 k = M 71 k) ∧ (∀ j, j < (M f 0 - 1) * 7 → N (f + 6) j = M (f + 6) j) ∧ ∀ j, j ≠ M f 0 - 1 → N (f + 5) j = M (f + 5) j
theorem cDF_rf (f : Int) (M : jM) : cDF f M M := ⟨fun _ _ _ _ => rfl, fun _ _ _ _ _ => rfl, fun _ _ => rfl, fun _ _ => rfl⟩
theorem cDF_tr {f : Int} {M N O : jM} (hf : f = 47 ∨ f = 59) (h : cDF f M N) (h' : cDF f N O) : cDF f M O := by
  have e := h.1 f (by omega) (by omega) (by omega)
  have h3 := h'.2.2.1
  have h4 := h'.2.2.2
  rw [e] at h3 h4
  exact ⟨fun c a1 a2 a3 => (h'.1 c a1 a2 a3).trans (h.1 c a1 a2 a3), fun k a1 a2 a3 a4 => (h'.2.1 k a1 a2 a3 a4).trans (h.2.1 k a1 a2 a3 a4), fun j a => (h3 j a).trans (h.2.2.1 j a), fun j a => (h4 j a).trans (h.2.2.2 j a)⟩
theorem cDF_fr {f : Int} {M N : jM} (hf : f = 47 ∨ f = 59) (h : cFr M N) : cDF f M N := ⟨fun c a _ _ => h.1 c a, h.2, fun j _ => by rw [h.1 (f + 6) (by omega)], fun j _ => by rw [h.1 (f + 5) (by omega)]⟩
theorem cTd_fr {f : Int} {M N : jM} {t : Int → Int} (hf : f = 47 ∨ f = 59) (h : cFr M N) (ht : cTd M f t) : cTd N f t := by
  unfold cTd at ht ⊢
  rw [h.1 (f + 6) (by omega), h.1 f (by omega)]
  exact ht
theorem cTd_up {f w n : Int} {M : jM} {t : Int → Int} (hf : f = 47 ∨ f = 59) (ht : cTd M f t) (hn : 0 ≤ n) : cTd (jup M (f + 6) ((M f 0 - 1) * 7 + w) n) f (tUp t w n) := by
  intro j j0 j1
  rw [jup_cellk (show f ≠ f + 6 by omega), jup_at]
  unfold tUp
  by_cases e : j = w
  · rw [if_pos e, if_pos (by omega)]
    exact Or.inr ⟨by omega, rfl⟩
  · rw [if_neg e, if_neg (by omega)]
    exact ht j j0 j1
theorem cDF_tell {f w n : Int} {M : jM} (hf : f = 47 ∨ f = 59) (hw : 0 ≤ w) : cDF f M (jup M (f + 6) ((M f 0 - 1) * 7 + w) n) := ⟨fun c _ _ a => jup_cell a, fun k _ _ _ _ => jup_cellk (by omega), fun j a => jup_ne (by omega), fun j _ => jup_cellk (by omega)⟩
theorem cDF_cnt {f n : Int} {M : jM} (hf : f = 47 ∨ f = 59) : cDF f M (jup M (f + 5) (M f 0 - 1) n) := ⟨fun c _ a _ => jup_cell a, fun k _ _ _ _ => jup_cellk (by omega), fun j a => jup_cellk (by omega), fun j a => jup_ne (by omega)⟩
theorem cTd_cnt {f n : Int} {M : jM} {t : Int → Int} (hf : f = 47 ∨ f = 59) (ht : cTd M f t) : cTd (jup M (f + 5) (M f 0 - 1) n) f t := by
  intro j j0 j1
  rw [jup_cellk (show f ≠ f + 5 by omega), jup_cellk (show f + 6 ≠ f + 5 by omega)]
  exact ht j j0 j1
def cDG (f : Int) (M N : jM) : Prop := cDF f M N ∧ N (f + 5) = M (f + 5)
theorem cDG_rf (f : Int) (M : jM) : cDG f M M := ⟨cDF_rf f M, rfl⟩
theorem cDG_tr {f : Int} {M N O : jM} (hf : f = 47 ∨ f = 59) (h : cDG f M N) (h' : cDG f N O) : cDG f M O := ⟨cDF_tr hf h.1 h'.1, h'.2.trans h.2⟩
theorem cDG_fr {f : Int} {M N : jM} (hf : f = 47 ∨ f = 59) (h : cFr M N) : cDG f M N := ⟨cDF_fr hf h, h.1 (f + 5) (by omega)⟩
theorem cDG_tell {f w n : Int} {M : jM} (hf : f = 47 ∨ f = 59) (hw : 0 ≤ w) : cDG f M (jup M (f + 6) ((M f 0 - 1) * 7 + w) n) := ⟨cDF_tell hf hw, jup_cell (by omega)⟩
def rdt (b : Int → Int) (f : Int) (M N : jM) (s : Int) (t : Int → Int) (r : Int) : Prop := ((r = 1 ∧ 0 ≤ s ∧ cT b N s ∧ cTd N f t) ∨ (r = 0 ∧ s < 0 ∧ N 71 3 = -1 - s)) ∧ cDG f M N
theorem rdt_yes {b : Int → Int} {f : Int} {M N : jM} {s : Int} {t : Int → Int} {r : Int} (h : rdt b f M N s t r) (hr : ¬ r = 0) : 0 ≤ s ∧ cT b N s ∧ cTd N f t := h.1.elim (fun z => z.2) (fun z => absurd z.1 hr)
theorem rdt_no {b : Int → Int} {f : Int} {M N : jM} {s : Int} {t : Int → Int} {r : Int} (h : rdt b f M N s t r) (hr : r = 0) : s < 0 ∧ N 71 3 = -1 - s := h.1.elim (fun z => by have := z.1; omega) (fun z => z.2)
theorem rdt_in {b : Int → Int} {f : Int} {M N : jM} {s : Int} {t : Int → Int} {r : Int} (h : rdt b f M N s t r) : r = 0 ∨ r = 1 := h.1.elim (fun z => Or.inr z.1) (fun z => Or.inl z.1)
theorem tkN_at {b : Int → Int} {lo hi q : Int} (h0 : 0 ≤ q) : ((lK b q = 2 ∧ lo ≤ lV b q ∧ lV b q ≤ hi) → tkN b lo hi q = lNx b q ∧ nV b lo hi q = lV b q) ∧ (¬ (lK b q = 2 ∧ lo ≤ lV b q ∧ lV b q ≤ hi) → tkN b lo hi q = -1 - q) := by
  unfold tkN nV
  rw [if_neg (by omega)]
  refine ⟨fun z => ⟨by rw [if_pos z], by rw [if_pos ⟨h0, z⟩]⟩, fun z => by rw [if_neg z]⟩
theorem tkW_at {b : Int → Int} {k q : Int} (h0 : 0 ≤ q) : ((lK b q = 1 ∧ lV b q = k) → tkW b k q = lNx b q) ∧ (¬ (lK b q = 1 ∧ lV b q = k) → tkW b k q = -1 - q) := by
  unfold tkW
  rw [if_neg (by omega)]
  exact ⟨fun z => by rw [if_pos z], fun z => by rw [if_neg z]⟩
theorem tkS_at {b : Int → Int} {k q : Int} (h0 : 0 ≤ q) : ((lK b q = 3 ∧ lV b q = k) → tkS b k q = lNx b q) ∧ (¬ (lK b q = 3 ∧ lV b q = k) → tkS b k q = -1 - q) := by
  unfold tkS
  rw [if_neg (by omega)]
  exact ⟨fun z => by rw [if_pos z], fun z => by rw [if_neg z]⟩
theorem pS_a {b : Int → Int} {q : Int} (h0 : 0 ≤ q) (h : ¬ (lK b q = 2 ∧ 0 ≤ lV b q ∧ lV b q ≤ 1439)) : pB3 b 1 q = -1 - q := by
  unfold pB3
  rw [if_neg (by decide), if_pos rfl, (tkN_at h0).2 h, tkW_neg (by omega), tkN_neg (by omega)]
theorem pS_b {b : Int → Int} {q : Int} (h0 : 0 ≤ q) (h : lK b q = 2 ∧ 0 ≤ lV b q ∧ lV b q ≤ 1439) (h1 : 0 ≤ lNx b q) (hw : ¬ (lK b (lNx b q) = 1 ∧ lV b (lNx b q) = 7)) : pB3 b 1 q = -1 - lNx b q := by
  unfold pB3
  rw [if_neg (by decide), if_pos rfl, ((tkN_at h0).1 h).1, (tkW_at h1).2 hw, tkN_neg (by omega)]
theorem pS_c {b : Int → Int} {q : Int} (h0 : 0 ≤ q) (h : lK b q = 2 ∧ 0 ≤ lV b q ∧ lV b q ≤ 1439) (h1 : 0 ≤ lNx b q) (hw : lK b (lNx b q) = 1 ∧ lV b (lNx b q) = 7) (h2 : 0 ≤ lNx b (lNx b q)) :
    ((lK b (lNx b (lNx b q)) = 2 ∧ lV b q + 1 ≤ lV b (lNx b (lNx b q)) ∧ lV b (lNx b (lNx b q)) ≤ 1439) → pB3 b 1 q = lNx b (lNx b (lNx b q)) ∧ ∀ t, pBt b 1 q t = tUp (tUp t 1 (lV b q)) 2 (lV b (lNx b (lNx b q)))) ∧
    (¬ (lK b (lNx b (lNx b q)) = 2 ∧ lV b q + 1 ≤ lV b (lNx b (lNx b q)) ∧ lV b (lNx b (lNx b q)) ≤ 1439) → pB3 b 1 q = -1 - lNx b (lNx b q)) := by
  have e1 := (tkN_at h0).1 h
  have e2 := (tkW_at h1).1 hw
  refine ⟨fun z => ⟨?_, fun t => ?_⟩, fun z => ?_⟩
  · unfold pB3
    rw [if_neg (by decide), if_pos rfl, e1.1, e1.2, e2, ((tkN_at h2).1 z).1]
  · unfold pBt
    rw [if_neg (by decide), if_pos rfl, e1.1, e1.2, e2, ((tkN_at h2).1 z).2]
  · unfold pB3
    rw [if_neg (by decide), if_pos rfl, e1.1, e1.2, e2, (tkN_at h2).2 z]
theorem rdt_mv {b : Int → Int} {f : Int} {M M1 N : jM} {s s' : Int} {t t' : Int → Int} {r : Int} (hf : f = 47 ∨ f = 59) (h : rdt b f M1 N s t r) (hd : cDG f M M1) (es : s = s') (et : t = t') : rdt b f M N s' t' r := by
  subst es
  subst et
  exact ⟨h.1, cDG_tr hf hd h.2⟩
theorem pD1_yes {b : Int → Int} {q : Int} {t : Int → Int} (hw : ¬ pDw b q < 0) (ht : t (pDw b q) = -9) : pD1 b q t = pB3 b (pDw b q) (lNx b q) := by
  unfold pD1
  rw [if_neg (fun z => z.elim hw (fun y => y ht))]
theorem pD1_no {b : Int → Int} {q : Int} {t : Int → Int} (h0 : 0 ≤ q) (h : pDw b q < 0 ∨ ¬ t (pDw b q) = -9) : pD1 b q t = -1 - q := by
  unfold pD1 fl
  rw [if_pos h, if_neg (by omega)]
/-- is it told yet? -/
theorem cTd_at {M : jM} {f w : Int} {t : Int → Int} (ht : cTd M f t) (ho : tOk t) (h0 : 0 ≤ w) (h1 : w ≤ 6) : M (f + 6) ((M f 0 - 1) * 7 + w) = -1 ↔ t w = -9 := by
  rcases ht w h0 h1 with ⟨a, c⟩ | ⟨a, c⟩
  · exact ⟨fun _ => a, fun _ => c⟩
  · have := ho.1 w h0 h1
    omega
def duI (b : Int → Int) (f : Int) (M N : jM) (R : Int × (Int → Int) × Nat) (v1 : Int) : Prop := ∃ (s : Int) (t : Int → Int) (m : Nat), (v1 = (m : Int) ∧ m ≤ 4) ∧ pDu b (4 - m) s t m = R ∧ cT b N s ∧ cTd N f t ∧ tOk t ∧ N (f + 5) (M f 0 - 1) = (m : Int) ∧ cDF f M N
def dsP (b : Int → Int) (f : Int) (M N : jM) (R : Int × (Int → Int) × Nat) (r : Int) : Prop := ((r = 1 ∧ 0 ≤ R.1 ∧ cT b N R.1 ∧ cTd N f R.2.1 ∧ N (f + 5) (M f 0 - 1) = (R.2.2 : Int)) ∨ (r = 0 ∧ R.1 < 0 ∧ N 71 3 = -1 - R.1)) ∧ cDF f M N
theorem pD1_inR {b : Int → Int} {n : Int} (hb : bOk b n) {s : Int} {t : Int → Int} (h0 : 0 ≤ s) (h : s ≤ n) : (pD1 b s t < 0 ∨ (s < pD1 b s t ∧ pD1 b s t ≤ n)) ∧ (0 ≤ pD1 b s t → (0 ≤ pDw b s ∧ pDw b s ≤ 6) ∧ ¬ pDw b s = 2) ∧ (0 ≤ pD1 b s t → 0 ≤ pB3 b (pDw b s) (lNx b s) ∧ s < lNx b s ∧ lNx b s ≤ n) := by
  rcases pD1_in hb (t := t) h0 h with z | ⟨z1, z2, z3, z4, z5⟩
  · exact ⟨Or.inl z, fun y => by omega, fun y => by omega⟩
  · have := lNx_lt hb h0 h (by omega)
    exact ⟨Or.inr z1, fun _ => z2, fun _ => ⟨by omega, this.1, this.2⟩⟩
