/-! ===== a COND, read ===== -/
abbrev isTW (k : Int) : Prop := k = 12 ∨ k = 13 ∨ k = 14 ∨ k = 15 ∨ k = 10
/-- behind the sign of a test whose word is k -/
def pT2 (b : Int → Int) (k s : Int) : Int := if k = 12 then (if lK b s = 3 ∧ (lV b s = 60 ∨ lV b s = 62 ∨ lV b s = 61) then lNx b s else fl s) else tkS b 61 s
def pTo (b : Int → Int) (k s : Int) : Int := if k = 12 then (if lK b s = 3 ∧ lV b s = 60 then 0 else if lK b s = 3 ∧ lV b s = 62 then 1 else 2) else if k = 13 then 3 else if k = 14 then 4 else if k = 15 then 5 else 6
def pT3 (b : Int → Int) (s : Int) : Int := if lV b s = 10 then lNx b s else tkN b 0 9999 (pT2 b (lV b s) (lNx b s))
def pTn (b : Int → Int) (s : Int) : Int := if lV b s = 10 then 0 else nV b 0 9999 (pT2 b (lV b s) (lNx b s))
def p33 : List (Int × Int) → List (Int × Int)
  | [] => [(33, 0)]
  | t :: r => if t.1 = 33 then r else (33, 0) :: t :: r
def pCd (b : Int → Int) : Nat → Int → List (Int × Int) → Bool → Nat → Nat → Int × List (Int × Int)
  | 0, s, r, _, _, _ => (fl s, r)
  | f + 1, s, r, w, o, p =>
    if w = true then
      (if lK b s = 3 ∧ lV b s = 33 then pCd b f (lNx b s) (p33 r) true o p
      else if lK b s = 3 ∧ lV b s = 40 ∧ o < 10 then pCd b f (lNx b s) ((40, 0) :: r) true (o + 1) p
      else if lK b s = 1 ∧ isTW (lV b s) ∧ p < 30 then (if pT3 b s < 0 then (pT3 b s, r) else pCd b f (pT3 b s) ((pTo b (lV b s) (lNx b s), pTn b s) :: r) false o (p + 1))
      else (fl s, r))
    else if lK b s = 3 ∧ (lV b s = 38 ∨ lV b s = 124) then pCd b f (lNx b s) ((lV b s, 0) :: r) true o p
    else if lK b s = 3 ∧ lV b s = 41 ∧ 0 < o then pCd b f (lNx b s) ((41, 0) :: r) false (o - 1) p
    else if 0 < o then (fl s, r) else (s, r)
theorem pTo_in (b : Int → Int) (k s : Int) : 0 ≤ pTo b k s ∧ pTo b k s ≤ 6 := by
  unfold pTo
  (repeat' split) <;> omega
theorem tkN_in {b : Int → Int} {n : Int} (hb : bOk b n) (lo hi : Int) {s : Int} (h : s ≤ n) : s < 0 ∨ (0 ≤ s ∧ ((tkN b lo hi s < 0 ∧ tkN b lo hi s = -1 - s) ∨ (s < tkN b lo hi s ∧ tkN b lo hi s ≤ n ∧ nV b lo hi s = lV b s ∧ lK b s = 2 ∧ lo ≤ lV b s ∧ lV b s ≤ hi))) := by
  rcases Int.lt_or_le s 0 with z | z
  · exact Or.inl z
  · refine Or.inr ⟨z, ?_⟩
    unfold tkN nV
    rw [if_neg (by omega)]
    by_cases c : lK b s = 2 ∧ lo ≤ lV b s ∧ lV b s ≤ hi
    · rw [if_pos c, if_pos ⟨z, c⟩]
      have := lNx_lt hb z h (by omega)
      exact Or.inr ⟨this.1, this.2, rfl, c.1, c.2.1, c.2.2⟩
    · rw [if_neg c]
      exact Or.inl ⟨by omega, rfl⟩
theorem pT2_in {b : Int → Int} {n : Int} (hb : bOk b n) (k : Int) {s : Int} (h0 : 0 ≤ s) (h : s ≤ n) : pT2 b k s < 0 ∨ (s < pT2 b k s ∧ pT2 b k s ≤ n) := by
  have g : ∀ c : Prop, ¬ lK b s = 0 → s < lNx b s ∧ lNx b s ≤ n := fun _ z => lNx_lt hb h0 h z
  unfold pT2 tkS fl
  by_cases k12 : k = 12
  · rw [if_pos k12]
    by_cases c : lK b s = 3 ∧ (lV b s = 60 ∨ lV b s = 62 ∨ lV b s = 61)
    · rw [if_pos c]
      exact Or.inr (g True (by omega))
    · rw [if_neg c, if_neg (by omega)]
      exact Or.inl (by omega)
  · rw [if_neg k12, if_neg (by omega)]
    by_cases c : lK b s = 3 ∧ lV b s = 61
    · rw [if_pos c]
      exact Or.inr (g True (by omega))
    · rw [if_neg c]
      exact Or.inl (by omega)
theorem pT3_in {b : Int → Int} {n : Int} (hb : bOk b n) {s : Int} (h0 : 0 ≤ s) (h : s ≤ n) (hk : lK b s = 1) : pT3 b s < 0 ∨ ((s < pT3 b s ∧ pT3 b s ≤ n) ∧ 0 ≤ pTn b s ∧ pTn b s ≤ 9999) := by
  have a := lNx_lt hb h0 h (by omega)
  unfold pT3 pTn
  by_cases c : lV b s = 10
  · rw [if_pos c, if_pos c]
    exact Or.inr ⟨a, by omega, by omega⟩
  · rw [if_neg c, if_neg c]
    have p2 := pT2_in hb (lV b s) (s := lNx b s) (by omega) a.2
    rcases p2 with z | z
    · have e : tkN b 0 9999 (pT2 b (lV b s) (lNx b s)) = pT2 b (lV b s) (lNx b s) := by unfold tkN; rw [if_pos z]
      rw [e]
      exact Or.inl z
    · rcases tkN_in hb 0 9999 (s := pT2 b (lV b s) (lNx b s)) z.2 with y | ⟨y, w | w⟩
      · omega
      · exact Or.inl w.1
      · exact Or.inr ⟨⟨by omega, w.2.1⟩, by omega, by omega⟩
theorem p33_wf {r : List (Int × Int)} {o p : Nat} (h : gWf r true o p) : gWf (p33 r) true o p ∧ (p33 r).length ≤ r.length + 1 := by
  cases r with
  | nil => exact ⟨Or.inl ⟨rfl, rfl, h, by simp⟩, Nat.le_refl _⟩
  | cons t r =>
    rw [show p33 (t :: r) = if t.1 = 33 then r else (33, 0) :: t :: r from rfl]
    by_cases c : t.1 = 33
    · rw [if_pos c]
      rcases h with ⟨_, _, h, _⟩ | ⟨c2, _⟩ | ⟨c2, _⟩ | ⟨c2, _⟩ | ⟨c2, _⟩
      · exact ⟨h, by simp only [List.length_cons]; omega⟩
      · omega
      · omega
      · omega
      · omega
    · rw [if_neg c]
      refine ⟨Or.inl ⟨rfl, rfl, h, ?_⟩, Nat.le_refl _⟩
      simp
      exact c
theorem gWf_op {r : List (Int × Int)} {o p : Nat} (h : o < 10) (hg : gWf r true o p) : gWf ((40, 0) :: r) true (o + 1) p := Or.inr (Or.inl ⟨rfl, rfl, by omega, by omega, by rw [Nat.add_sub_cancel]; exact hg⟩)
theorem gWf_ts {r : List (Int × Int)} {o p : Nat} {c n : Int} (h : p < 30) (hc : 0 ≤ c ∧ c ≤ 6) (hn : 0 ≤ n ∧ n ≤ 9999) (hg : gWf r true o p) : gWf ((c, n) :: r) false o (p + 1) := Or.inr (Or.inr (Or.inr (Or.inr ⟨hc, hn, rfl, by omega, by omega, by rw [Nat.add_sub_cancel]; exact hg⟩)))
theorem gWf_sg {r : List (Int × Int)} {o p : Nat} {c : Int} (h : c = 38 ∨ c = 124) (hg : gWf r false o p) : gWf ((c, 0) :: r) true o p := Or.inr (Or.inr (Or.inl ⟨h, rfl, hg⟩))
theorem gWf_cl {r : List (Int × Int)} {o p : Nat} (h : 0 < o) (hg : gWf r false o p) : gWf ((41, 0) :: r) false (o - 1) p := Or.inr (Or.inr (Or.inr (Or.inl ⟨rfl, rfl, by rw [Nat.sub_add_cancel (by omega)]; exact hg⟩)))
theorem pCd_in {b : Int → Int} {n : Int} (hb : bOk b n) : ∀ (f : Nat) (s : Int) (r : List (Int × Int)) (w : Bool) (o p : Nat), 0 ≤ s → s ≤ n → gWf r w o p → (pCd b f s r w o p).1 < 0 ∨ (s ≤ (pCd b f s r w o p).1 ∧ (pCd b f s r w o p).1 ≤ n ∧ ((pCd b f s r w o p).2.length : Int) - r.length ≤ (pCd b f s r w o p).1 - s ∧ ∃ p', gWf (pCd b f s r w o p).2 false 0 p')
  | 0, s, r, w, o, p, h0, h1, hg => by
    left
    unfold pCd fl
    rw [if_neg (by omega)]
    show -1 - s < 0
    omega
  | f + 1, s, r, w, o, p, h0, h1, hg => by
    have nx : ¬ lK b s = 0 → s < lNx b s ∧ lNx b s ≤ n := fun z => lNx_lt hb h0 h1 z
    have go : ∀ (s' : Int) (r' : List (Int × Int)) (w' : Bool) (o' p' : Nat), s < s' ∧ s' ≤ n → gWf r' w' o' p' → r'.length ≤ r.length + 1 → (pCd b f s' r' w' o' p').1 < 0 ∨ (s ≤ (pCd b f s' r' w' o' p').1 ∧ (pCd b f s' r' w' o' p').1 ≤ n ∧ ((pCd b f s' r' w' o' p').2.length : Int) - r.length ≤ (pCd b f s' r' w' o' p').1 - s ∧ ∃ pp, gWf (pCd b f s' r' w' o' p').2 false 0 pp) := by
      intro s' r' w' o' p' hs hg' hl
      rcases pCd_in hb f s' r' w' o' p' (by omega) hs.2 hg' with z | ⟨z1, z2, z3, z4⟩
      · exact Or.inl z
      · exact Or.inr ⟨by omega, z2, by omega, z4⟩
    have hop := gWf_o _ _ _ _ hg
    unfold pCd
    by_cases hw : w = true
    · subst hw
      rw [if_pos rfl]
      by_cases c1 : lK b s = 3 ∧ lV b s = 33
      · rw [if_pos c1]
        have := p33_wf hg
        exact go _ _ _ _ _ (nx (by omega)) this.1 this.2
      · rw [if_neg c1]
        by_cases c2 : lK b s = 3 ∧ lV b s = 40 ∧ o < 10
        · rw [if_pos c2]
          exact go _ _ _ _ _ (nx (by omega)) (gWf_op c2.2.2 hg) (Nat.le_refl _)
        · rw [if_neg c2]
          by_cases c3 : lK b s = 1 ∧ isTW (lV b s) ∧ p < 30
          · rw [if_pos c3]
            rcases pT3_in hb h0 h1 c3.1 with z | ⟨z, z2⟩
            · rw [if_pos z]
              exact Or.inl z
            · rw [if_neg (by omega)]
              have := pTo_in b (lV b s) (lNx b s)
              exact go _ _ _ _ _ z (gWf_ts c3.2.2 this z2 hg) (Nat.le_refl _)
          · rw [if_neg c3]
            left
            unfold fl
            rw [if_neg (by omega)]
            show -1 - s < 0
            omega
    · have hw' : w = false := by cases w <;> simp at hw ⊢
      subst hw'
      rw [if_neg hw]
      by_cases c1 : lK b s = 3 ∧ (lV b s = 38 ∨ lV b s = 124)
      · rw [if_pos c1]
        exact go _ _ _ _ _ (nx (by omega)) (gWf_sg c1.2 hg) (Nat.le_refl _)
      · rw [if_neg c1]
        by_cases c2 : lK b s = 3 ∧ lV b s = 41 ∧ 0 < o
        · rw [if_pos c2]
          exact go _ _ _ _ _ (nx (by omega)) (gWf_cl c2.2.2 hg) (Nat.le_refl _)
        · rw [if_neg c2]
          by_cases c3 : 0 < o
          · rw [if_pos c3]
            left
            unfold fl
            rw [if_neg (by omega)]
            show -1 - s < 0
            omega
          · rw [if_neg c3]
            have : o = 0 := by omega
            subst this
            exact Or.inr ⟨Int.le_refl _, h1, by show (r.length : Int) - r.length ≤ s - s; omega, p, hg⟩
/-! tokens in the reference's row -/
def rTks (g : Int → Int) (a : Int) : List (Int × Int) → Prop
  | [] => True
  | t :: r => (g (a + 2 * r.length) = t.1 ∧ (t.1 ≤ 6 → g (a + 2 * r.length + 1) = t.2)) ∧ rTks g a r
theorem rTks_cg {g g' : Int → Int} {a : Int} : ∀ (r : List (Int × Int)), rTks g a r → (∀ j, a ≤ j → j < a + 2 * r.length → g' j = g j) → rTks g' a r
  | [], _, _ => trivial
  | t :: r, h, hg => by
    simp only [List.length_cons] at hg
    refine ⟨⟨by rw [hg _ (by omega) (by omega)]; exact h.1.1, fun z => by rw [hg _ (by omega) (by omega)]; exact h.1.2 z⟩, rTks_cg r h.2 (fun j x y => hg j x (by omega))⟩
/-- two rows of tokens that say the same -/
def tEq : List (Int × Int) → List (Int × Int) → Prop
  | [], [] => True
  | t :: r, u :: q => (t.1 = u.1 ∧ (t.1 ≤ 6 → t.2 = u.2)) ∧ tEq r q
  | _, _ => False
theorem tEq_wf : ∀ {r q : List (Int × Int)} {w : Bool} {o p : Nat}, tEq r q → gWf q w o p → gWf r w o p
  | [], [], _, _, _, _, h => h
  | [], _ :: _, _, _, _, h, _ => h.elim
  | _ :: _, [], _, _, _, h, _ => h.elim
  | t :: r, u :: q, w, o, p, h, hg => by
    have e1 := h.1.1
    have hh : r.head?.map Prod.fst = q.head?.map Prod.fst := by
      cases r <;> cases q
      · rfl
      · exact h.2.elim
      · exact h.2.elim
      · simp only [List.head?_cons, Option.map_some]
        rw [h.2.1.1]
    rcases hg with ⟨c, c2, g, c3⟩ | ⟨c, c2, c3, c4, g⟩ | ⟨c, c2, g⟩ | ⟨c, c2, g⟩ | ⟨c, c2, c3, c4, c5, g⟩
    · exact Or.inl ⟨by omega, c2, tEq_wf h.2 g, by rw [hh]; exact c3⟩
    · exact Or.inr (Or.inl ⟨by omega, c2, c3, c4, tEq_wf h.2 g⟩)
    · exact Or.inr (Or.inr (Or.inl ⟨by omega, c2, tEq_wf h.2 g⟩))
    · exact Or.inr (Or.inr (Or.inr (Or.inl ⟨by omega, c2, tEq_wf h.2 g⟩)))
    · have e2 := h.1.2 (by omega)
      exact Or.inr (Or.inr (Or.inr (Or.inr ⟨by omega, by omega, c3, c4, c5, tEq_wf h.2 g⟩)))
theorem tEq_all : ∀ {r q : List (Int × Int)} {w : Bool} {o p : Nat}, tEq r q → gWf q w o p → cAllT r.reverse = cAllT q.reverse
  | [], [], _, _, _, _, _ => rfl
  | [], _ :: _, _, _, _, h, _ => h.elim
  | _ :: _, [], _, _, _, h, _ => h.elim
  | t :: r, u :: q, w, o, p, h, hg => by
    obtain ⟨_, _, _, g2⟩ := gWf_tl hg
    rw [cAllT_s, cAllT_s, tEq_all h.2 g2]
    have e1 := h.1.1
    unfold cTok
    rw [e1]
    by_cases c : u.1 ≤ 6
    · rw [h.1.2 (by omega)]
    · rcases hg with ⟨c, _⟩ | ⟨c, _⟩ | ⟨c, _⟩ | ⟨c, _⟩ | ⟨c, _⟩
      · rw [if_pos c, if_pos c]
      · rw [if_neg (by omega), if_pos c, if_neg (by omega), if_pos c]
      · rcases c with c | c
        · rw [if_neg (by omega), if_neg (by omega), if_pos c, if_neg (by omega), if_neg (by omega), if_pos c]
        · rw [if_neg (by omega), if_neg (by omega), if_neg (by omega), if_pos c, if_neg (by omega), if_neg (by omega), if_neg (by omega), if_pos c]
      · rw [if_neg (by omega), if_neg (by omega), if_neg (by omega), if_neg (by omega), if_pos c, if_neg (by omega), if_neg (by omega), if_neg (by omega), if_neg (by omega), if_pos c]
      · omega
theorem rTks_tEq {M : jM} {i a : Int} (ha : a = 2 * M 85 (20 * i + 13)) : ∀ (r : List (Int × Int)), rTks (M 86) a r → tEq (tPre M i r.length).reverse r
  | [], _ => trivial
  | t :: r, h => by
    rw [List.length_cons, tPre_rev]
    refine ⟨⟨?_, fun z => ?_⟩, rTks_tEq ha r h.2⟩
    · show M 86 (2 * (M 85 (20 * i + 13) + (r.length : Nat))) = t.1
      rw [← h.1.1, ha]
      congr 1
      omega
    · have z' : t.1 ≤ 6 := by
        have : M 86 (2 * (M 85 (20 * i + 13) + (r.length : Nat))) = t.1 := by
          rw [← h.1.1, ha]
          congr 1
          omega
        rw [← this]
        exact z
      show M 86 (2 * (M 85 (20 * i + 13) + (r.length : Nat)) + 1) = t.2
      rw [← h.1.2 z', ha]
      congr 1
      omega
