/-! ===== a COND, on the reference's side ===== -/
def rdF (a : Int) (M N : jM) : Prop := (∀ c, c ≠ 74 → c ≠ 86 → N c = M c) ∧ (∀ k, k ≠ 15 → k ≠ 16 → k ≠ 17 → k ≠ 18 → k ≠ 19 → N 74 k = M 74 k) ∧ ∀ j, j < a → N 86 j = M 86 j
theorem rdF_rf (a : Int) (M : jM) : rdF a M M := ⟨fun _ _ _ => rfl, fun _ _ _ _ _ _ => rfl, fun _ _ => rfl⟩
theorem rdF_tr {a : Int} {M N O : jM} (h : rdF a M N) (h' : rdF a N O) : rdF a M O := ⟨fun c x y => (h'.1 c x y).trans (h.1 c x y), fun k x1 x2 x3 x4 x5 => (h'.2.1 k x1 x2 x3 x4 x5).trans (h.2.1 k x1 x2 x3 x4 x5), fun j x => (h'.2.2 j x).trans (h.2.2 j x)⟩
theorem rdF_2 {a : Int} {M N : jM} (h : rF2 M N) : rdF a M N := ⟨fun c x _ => h.1 c x, h.2, fun j _ => by rw [h.1 86 (by decide)]⟩
theorem rdF_86 {a k v : Int} {M : jM} (h : a ≤ k) : rdF a M (jup M 86 k v) := ⟨fun c _ x => jup_cell x, fun k' _ _ _ _ _ => jup_cellk (by decide), fun j x => jup_ne (by omega)⟩
theorem rP_86 {b : Int → Int} {M : jM} {s k v : Int} (h : rP b M s) : rP b (jup M 86 k v) s := rP_cg h (jup_cell (by decide)) (fun j _ => jup_cellk (by decide))
theorem rTks_2 {M N : jM} {a : Int} {r : List (Int × Int)} (h : rTks (M 86) a r) (hf : rF2 M N) : rTks (N 86) a r := by rw [hf.1 86 (by decide)]; exact h
/-- a token is put behind the row -/
theorem rTks_put {g g' : Int → Int} {a : Int} {t : Int × Int} {r : List (Int × Int)} (h : rTks g a r) (h1 : g' (a + 2 * r.length) = t.1) (h2 : t.1 ≤ 6 → g' (a + 2 * r.length + 1) = t.2) (hg : ∀ j, a ≤ j → j < a + 2 * r.length → g' j = g j) : rTks g' a (t :: r) := ⟨⟨h1, h2⟩, rTks_cg r h hg⟩
/-- what waits() does to the row -/
theorem wt_33 {N N' : jM} {a m m' : Int} {r : List (Int × Int)} (h : rTks (N 86) a r) (hm : m = r.length) (hw : ((33 = (33 : Int) ∧ 0 < m ∧ N 86 (a + 2 * m - 2) = 33) ∧ m' = m - 1 ∧ N' = N) ∨ (¬ (33 = (33 : Int) ∧ 0 < m ∧ N 86 (a + 2 * m - 2) = 33) ∧ m' = m + 1 ∧ N' = jup N 86 (a + 2 * m) 33)) : rTks (N' 86) a (p33 r) ∧ m' = (p33 r).length := by
  cases r with
  | nil =>
    simp only [List.length_nil] at hm
    rcases hw with ⟨⟨_, z, _⟩, _⟩ | ⟨_, e, rfl⟩
    · omega
    · refine ⟨rTks_put h ?_ (fun z => by have : (33 : Int) ≤ 6 := z; omega) (fun j x y => by simp only [List.length_nil] at y; omega), by show m' = 1; omega⟩
      rw [hm]
      show jup N 86 (a + 2 * _) 33 86 (a + 2 * _) = 33
      rw [jup_at]
      exact if_pos rfl
  | cons t r =>
    simp only [List.length_cons] at hm
    have e0 : N 86 (a + 2 * m - 2) = t.1 := by
      rw [← h.1.1]
      congr 1
      omega
    rw [show p33 (t :: r) = if t.1 = 33 then r else (33, 0) :: t :: r from rfl]
    rcases hw with ⟨⟨_, z, e⟩, e2, rfl⟩ | ⟨z, e2, rfl⟩
    · rw [if_pos (by omega)]
      exact ⟨h.2, by omega⟩
    · have hn : ¬ t.1 = 33 := fun y => z ⟨rfl, by omega, by omega⟩
      rw [if_neg hn]
      refine ⟨rTks_put h ?_ (fun y => by have : (33 : Int) ≤ 6 := y; omega) (fun j x y => by simp only [List.length_cons] at y; rw [jup_at, if_neg (by omega)]), by show m' = ((r.length + 1 + 1 : Nat) : Int); omega⟩
      rw [hm, jup_at]
      exact if_pos (by simp only [List.length_cons])
theorem wt_c {N N' : jM} {a m m' c : Int} {r : List (Int × Int)} (hc : 7 ≤ c) (hc3 : ¬ c = 33) (h : rTks (N 86) a r) (hm : m = r.length) (hw : ((c = 33 ∧ 0 < m ∧ N 86 (a + 2 * m - 2) = 33) ∧ m' = m - 1 ∧ N' = N) ∨ (¬ (c = 33 ∧ 0 < m ∧ N 86 (a + 2 * m - 2) = 33) ∧ m' = m + 1 ∧ N' = jup N 86 (a + 2 * m) c)) : rTks (N' 86) a ((c, 0) :: r) ∧ m' = ((c, 0) :: r).length := by
  rcases hw with ⟨⟨z, _⟩, _⟩ | ⟨_, e, rfl⟩
  · exact absurd z hc3
  · refine ⟨rTks_put h ?_ (fun z => by have : c ≤ 6 := z; omega) (fun j x y => by rw [jup_at, if_neg (by omega)]), by simp only [List.length_cons]; omega⟩
    rw [hm, jup_at]
    exact if_pos rfl
/-- in the loop -/
def rdA (b : Int → Int) (q a : Int) (M N : jM) (R : Int × List (Int × Int)) (v3 v4 v5 v6 v7 : Int) (s : Int) (r : List (Int × Int)) (w : Bool) (o p f : Nat) : Prop :=
  (v3 = (r.length : Int) ∧ v4 = (o : Int) ∧ v5 = (p : Int)) ∧ ((w = true ∧ v6 = 1) ∨ (w = false ∧ v6 = 0)) ∧ v7 = 1 ∧ pCd b f s r w o p = R ∧ gWf r w o p ∧ (0 ≤ s ∧ 901 + q ≤ (f : Int) + s ∧ (r.length : Int) ≤ s - q) ∧ rP b N s ∧ rTks (N 86) a r
def rdE (b : Int → Int) (a : Int) (N : jM) (R : Int × List (Int × Int)) (v3 v7 : Int) : Prop := (v7 = 0 ∨ R.1 < 0) ∧ (0 ≤ v3 ∧ v3 ≤ 901) ∧ rP b N R.1 ∧ (0 ≤ R.1 → rTks (N 86) a R.2 ∧ v3 = (R.2.length : Int))
def rdI (b : Int → Int) (q a : Int) (M N : jM) (R : Int × List (Int × Int)) (v3 v4 v5 v6 v7 : Int) : Prop := ((∃ s r w o p f, rdA b q a M N R v3 v4 v5 v6 v7 s r w o p f) ∨ rdE b a N R v3 v7) ∧ rdF a M N
theorem rdI_act {b : Int → Int} {q a : Int} {M N : jM} {R : Int × List (Int × Int)} {v3 v4 v5 v6 v7 : Int} (h : rdI b q a M N R v3 v4 v5 v6 v7) (h7 : ¬ v7 = 0) (h19 : N 74 19 < 0) : ∃ s r w o p f, rdA b q a M N R v3 v4 v5 v6 v7 s r w o p f := by
  rcases h.1 with z | ⟨z1, _, z2, _⟩
  · exact z
  · have := (rP_19 z2).1 h19
    omega
theorem rdI_end {b : Int → Int} {q a : Int} {M N : jM} {R : Int × List (Int × Int)} {v3 v4 v5 v6 v7 : Int} (h : rdI b q a M N R v3 v4 v5 v6 v7) (h7 : v7 = 0 ∨ ¬ N 74 19 < 0) : rdE b a N R v3 v7 := by
  rcases h.1 with ⟨s, r, w, o, p, f, z⟩ | z
  · obtain ⟨_, _, z7, _, _, z0, zp, _⟩ := z
    rcases h7 with y | y
    · omega
    · exact absurd ((rP_19 zp).2 z0.1) y
  · exact z
/-- what cond() leaves -/
def rdP (b : Int → Int) (i : Int) (M N : jM) (R : Int × List (Int × Int)) : Prop :=
  rP b N R.1 ∧ (0 ≤ R.1 → rTks (N 86) (2000 + 2 * M 74 24) R.2 ∧ N 85 (320 + 20 * i + 4) = (R.2.length : Int) ∧ N 85 (320 + 20 * i + 13) = M 74 24 ∧ N 74 24 = M 74 24 + (R.2.length : Int)) ∧
  (∀ c, c ≠ 74 → c ≠ 85 → c ≠ 86 → N c = M c) ∧ (∀ k, k ≠ 15 → k ≠ 16 → k ≠ 17 → k ≠ 18 → k ≠ 19 → k ≠ 24 → N 74 k = M 74 k) ∧ (∀ j, j < 2000 + 2 * M 74 24 → N 86 j = M 86 j) ∧ (∀ j, j ≠ 320 + 20 * i + 4 → j ≠ 320 + 20 * i + 13 → N 85 j = M 85 j)
theorem rdP_of {b : Int → Int} {i v3 v7 : Int} {M N : jM} {R : Int × List (Int × Int)} (h : rdE b (2000 + 2 * M 74 24) N R v3 v7) (hf : rdF (2000 + 2 * M 74 24) M N) : rdP b i M (jup (jup (jup N 85 (320 + 20 * i + 4) v3) 85 (320 + 20 * i + 13) (M 74 24)) 74 24 (M 74 24 + v3)) R := by
  obtain ⟨h1, h2, h3, h4⟩ := h
  refine ⟨?_, fun z => ⟨?_, ?_, ?_, ?_⟩, fun c a1 a2 a3 => ?_, fun k a1 a2 a3 a4 a5 a6 => ?_, fun j a => ?_, fun j a1 a2 => ?_⟩
  · exact rP_cg h3 (by rw [jup_cell (by decide), jup_cell (by decide), jup_cell (by decide)]) (fun k hk => by rw [jup_ne (by omega), jup_cellk (by decide), jup_cellk (by decide)])
  · rw [jup_cell (by decide), jup_cell (by decide), jup_cell (by decide)]; exact (h4 z).1
  · rw [jup_cellk (by decide), jup_ne (by omega), jup_self]; exact (h4 z).2
  · rw [jup_cellk (by decide), jup_self]
  · rw [jup_self, (h4 z).2]
  · rw [jup_cell a1, jup_cell a2, jup_cell a2]; exact hf.1 c a1 a3
  · rw [jup_ne (by omega), jup_cellk (by decide), jup_cellk (by decide)]; exact hf.2.1 k a1 a2 a3 a4 a5
  · rw [jup_cellk (by decide), jup_cellk (by decide), jup_cellk (by decide)]; exact hf.2.2 j a
  · rw [jup_cellk (by decide), jup_ne (by omega), jup_ne (by omega), hf.1 85 (by decide) (by decide)]
theorem rP_pre2 {b : Int → Int} {M : jM} {s n : Int} (h : rP b M s) (h0 : 0 ≤ s) (hb : bOk b n) (hn : M 74 14 = n) : 0 ≤ M 74 15 ∧ M 74 15 ≤ M 74 14 := by
  have w := rP_well h h0
  have d := lEd_in hb h0 (by omega)
  omega
theorem wt_fr {N N' : jM} {c a m m' : Int} {P : Prop} (h : (P ∧ m' = m - 1 ∧ N' = N) ∨ (¬ P ∧ m' = m + 1 ∧ N' = jup N 86 a c)) : (∀ x, x ≠ 86 → N' x = N x) ∧ (∀ j, j < a → N' 86 j = N 86 j) ∧ (m' = m - 1 ∨ m' = m + 1) := by
  rcases h with ⟨_, e, rfl⟩ | ⟨_, e, rfl⟩
  · exact ⟨fun _ _ => rfl, fun _ _ => rfl, Or.inl e⟩
  · exact ⟨fun x z => jup_cell z, fun j z => jup_ne (by omega), Or.inr e⟩
theorem rP_fr86 {b : Int → Int} {M N : jM} {s : Int} (h : rP b M s) (hf : ∀ x, x ≠ 86 → N x = M x) : rP b N s := rP_cg h (hf 84 (by decide)) (fun k _ => by rw [hf 74 (by decide)])
theorem rdF_fr86 {a a' : Int} {M N : jM} (hf : ∀ x, x ≠ 86 → N x = M x) (hj : ∀ j, j < a' → N 86 j = M 86 j) (h : a ≤ a') : rdF a M N := ⟨fun c _ z => hf c z, fun k _ _ _ _ _ => by rw [hf 74 (by decide)], fun j z => hj j (by omega)⟩
theorem rdI_A {b : Int → Int} {q a : Int} {M N : jM} {R : Int × List (Int × Int)} {v3 v4 v5 v6 v7 : Int} (s : Int) (r : List (Int × Int)) (w : Bool) (o p f : Nat) (h : rdA b q a M N R v3 v4 v5 v6 v7 s r w o p f) (hf : rdF a M N) : rdI b q a M N R v3 v4 v5 v6 v7 := ⟨Or.inl ⟨s, r, w, o, p, f, h⟩, hf⟩
theorem rdI_E {b : Int → Int} {q a : Int} {M N : jM} {R : Int × List (Int × Int)} {v3 v4 v5 v6 v7 : Int} (h : rdE b a N R v3 v7) (hf : rdF a M N) : rdI b q a M N R v3 v4 v5 v6 v7 := ⟨Or.inr h, hf⟩
/-- a FAULT ends it -/
theorem rdE_fl {b : Int → Int} {a s : Int} {N : jM} {r : List (Int × Int)} {v3 v7 : Int} (h0 : 0 ≤ s) (hv : 0 ≤ v3 ∧ v3 ≤ 901) (hp : rP b N (fl s)) : rdE b a N (fl s, r) v3 v7 := by
  have e : fl s < 0 := by unfold fl; rw [if_neg (by omega)]; omega
  exact ⟨Or.inr e, hv, hp, fun z => by have : 0 ≤ fl s := z; omega⟩
def rdMs (N : jM) (v7 : Int) : Int := if v7 = 0 ∨ ¬ N 74 19 < 0 then 0 else 902 - N 74 17
theorem rdMs_at {b : Int → Int} {N : jM} {s v7 : Int} (hp : rP b N s) (h0 : 0 ≤ s) (h7 : v7 = 1) : rdMs N v7 = 902 - s := by
  have w := rP_well hp h0
  unfold rdMs
  rw [if_neg (by omega), w.2.1]
theorem rdMs_lt {b : Int → Int} {N N' : jM} {s s' v7 v7' : Int} {n : Nat} (hm : (rdMs N v7).toNat < n + 1) (hp : rP b N s) (h0 : 0 ≤ s) (hs : s ≤ 900) (h7 : v7 = 1) (hp' : rP b N' s') (h : s' < 0 ∨ s < s') : (rdMs N' v7').toNat < n := by
  rw [rdMs_at hp h0 h7] at hm
  unfold rdMs
  split
  · show 0 < n
    omega
  · rename_i z
    have w := (rP_19 hp').1 (by omega)
    rw [(rP_well hp' w).2.1]
    omega
theorem rdMs_0 {b : Int → Int} {N N' : jM} {s v7 : Int} {n : Nat} (hm : (rdMs N v7).toNat < n + 1) (hp : rP b N s) (h0 : 0 ≤ s) (hs : s ≤ 900) (h7 : v7 = 1) : (rdMs N' 0).toNat < n := by
  rw [rdMs_at hp h0 h7] at hm
  unfold rdMs
  rw [if_pos (Or.inl rfl)]
  show 0 < n
  omega
theorem fl_neg {s : Int} (h : 0 ≤ s) : fl s < 0 := by unfold fl; rw [if_neg (by omega)]; omega
