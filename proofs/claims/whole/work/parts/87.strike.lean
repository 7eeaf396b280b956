/-! ===== a strike ===== -/
def pK2 (b : Int → Int) (s : Int) : Int := tkW b 1 (lNx b s)
def pK3 (b : Int → Int) (s : Int) : Int := tkN b 0 359 (pK2 b s)
def pKd (b : Int → Int) (s : Int) : Int := nV b 0 359 (pK2 b s)
def pK4 (b : Int → Int) (s : Int) : Int := tkS b 59 (pK3 b s)
theorem pKb_3 {b : Int → Int} {s y : Int} (h : zBd (pK3 b s) y) : zBd (pK4 b s) y := by
  have e : pK4 b s = pK3 b s := tkS_neg h.1
  rw [e]; exact h
theorem pKb_2 {b : Int → Int} {s y : Int} (h : zBd (pK2 b s) y) : zBd (pK4 b s) y := by
  have e : pK3 b s = pK2 b s := tkN_neg h.1
  exact pKb_3 (by rw [e]; exact h)
/-- the first RULE of that number -/
def zF1 (b : Int → Int) (f : Int) (M : jM) (s r : Int) : Prop := lK b s = 2 ∧ (0 ≤ r ∧ r < M f 0) ∧ M (f + 1) r = lV b s ∧ ∀ j, 0 ≤ j → j < r → ¬ M (f + 1) j = lV b s
def zFd (b : Int → Int) (f : Int) (M : jM) (s r : Int) : Prop := (r = -9 ∧ ¬ hDup b f M s) ∨ (¬ r = -9 ∧ zF1 b f M s r)
theorem zFd_k {b : Int → Int} {f s : Int} {M : jM} (h : ¬ lK b s = 2) : zFd b f M s (-9) := Or.inl ⟨rfl, hD_k h⟩
theorem zFd_of {b : Int → Int} {f s r n x : Int} {M N : jM} (hf : f = 47 ∨ f = 59) (hr : cFr M N) (hn : n = M f 0) (hx : x = lV b s) (hk : lK b s = 2)
    (h : (r = -9 ∧ ∀ j, 0 ≤ j → j < n → ¬ N (f + 1) j = x) ∨ ((0 ≤ r ∧ r < n) ∧ N (f + 1) r = x ∧ ∀ j, 0 ≤ j → j < r → ¬ N (f + 1) j = x)) : zFd b f M s r := by
  by_cases z : r = -9
  · exact Or.inl ⟨z, hD_no hf hr hn hx h z⟩
  · have e : N (f + 1) = M (f + 1) := hr.1 (f + 1) (by omega)
    rcases h with ⟨h, _⟩ | ⟨h, d, g⟩
    · exact absurd h z
    · rw [e] at d g
      rw [hx] at d g
      exact Or.inr ⟨z, hk, by omega, d, g⟩
theorem zFd_y {b : Int → Int} {f s r : Int} {M : jM} (h : zFd b f M s r) (z : ¬ r = -9) : zF1 b f M s r := h.elim (fun y => absurd y.1 z) (fun y => y.2)
theorem zFd_n {b : Int → Int} {f s r : Int} {M : jM} (h : zFd b f M s r) (z : r = -9) : ¬ hDup b f M s := h.elim (fun y => y.2) (fun y => absurd z y.1)
def skF (f : Int) (M N : jM) : Prop := (∀ c, c ≠ 71 → c ≠ f + 4 → N c = M c) ∧ ∀ k, k ≠ 2 → k ≠ 3 → k ≠ 4 → k ≠ 5 → N 71 k = M 71 k
theorem skF_fr {f : Int} {M N : jM} (h : cFr M N) : skF f M N := ⟨fun c a _ => h.1 c a, h.2⟩
def skQ (f : Int) (M N : jM) (r d : Int) : Prop := ((M (f + 4) r = -9 ∨ d < M (f + 4) r) ∧ N = jup M (f + 4) r d) ∨ (¬ (M (f + 4) r = -9 ∨ d < M (f + 4) r) ∧ N = M)
theorem skC {f r d : Int} {M N : jM} (h : skQ f M N r d) : ∀ c, c ≠ f + 4 → N c = M c := by
  intro c z
  rcases h with ⟨_, h⟩ | ⟨_, h⟩
  · rw [h, jup_cell z]
  · rw [h]
theorem skT {b : Int → Int} {f r d q : Int} {M N : jM} (hf : f = 47 ∨ f = 59) (h : skQ f M N r d) (ht : cT b M q) : cT b N q :=
  cT_cg ht (skC h 72 (by omega)) (fun k _ => by rw [skC h 71 (by omega)])
theorem skE {f r d : Int} {M N : jM} (h : skQ f M N r d) (k : Int) : N (f + 4) k = if k = r ∧ (M (f + 4) r = -9 ∨ d < M (f + 4) r) then d else M (f + 4) k := by
  rcases h with ⟨g, h⟩ | ⟨g, h⟩
  · rw [h, jup_at]
    by_cases z : k = r
    · rw [if_pos z, if_pos ⟨z, g⟩]
    · rw [if_neg z, if_neg (fun y => z y.1)]
  · rw [h, if_neg (fun y => g y.2)]
def skP (b : Int → Int) (f : Int) (M N : jM) (s r : Int) : Prop := (¬ hDup b f M s ∧ r = 0 ∧ N 71 3 = s ∧ cFr M N) ∨ ∃ j, zF1 b f M s j ∧ skF f M N ∧
  ((r = 0 ∧ zBd (pK4 b s) (N 71 3)) ∨ (r = 1 ∧ 0 ≤ pK4 b s ∧ cT b N (pK4 b s) ∧ ∀ k, N (f + 4) k = if k = j ∧ (M (f + 4) j = -9 ∨ pKd b s < M (f + 4) j) then pKd b s else M (f + 4) k))
theorem skP_end {b : Int → Int} {f s r v d : Int} {M K K2 N : jM} (hf : f = 47 ∨ f = 59) (hy : zF1 b f M s v) (hr : cFr M K) (hk : skQ f K K2 v d) (hd : d = pKd b s) (h0 : 0 ≤ pK3 b s)
    (ht : (r = 1 ∧ (lK b (pK3 b s) = 3 ∧ lV b (pK3 b s) = 59) ∧ cT b N (lNx b (pK3 b s))) ∨ (r = 0 ∧ ¬ (lK b (pK3 b s) = 3 ∧ lV b (pK3 b s) = 59) ∧ cT b N (pK3 b s))) (hc : cFr K2 N) : skP b f M N s r := by
  have y := zS h0 ht
  have e4 : K (f + 4) = M (f + 4) := hr.1 (f + 4) (by omega)
  have hF : skF f M N := ⟨fun c a a4 => by rw [hc.1 c a, skC hk c a4, hr.1 c a], fun k a c d e => by rw [hc.2 k a c d e, skC hk 71 (by omega), hr.2 k a c d e]⟩
  refine Or.inr ⟨v, hy, hF, ?_⟩
  by_cases z : r = 0
  · exact Or.inl ⟨z, y.2 z⟩
  · have t := y.1 z
    refine Or.inr ⟨?_, cT_0 t, t, fun k => ?_⟩
    · rcases ht with q | q
      · exact q.1
      · exact absurd q.1 z
    · rw [hc.1 (f + 4) (by omega), skE hk k, e4, hd]
