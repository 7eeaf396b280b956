/-! ===== two new objects ===== -/
abbrev zL0 : List Int := [1, 2, 3, 4, 5, 6, 7, 8, 9, 10, 11, 12, 13, 14, 15, 16, 17, 18, 19, 20, 21, 36, 37, 39, 40, 41, 42, 43, 47, 59, 72, 76, 77, 78, 79, 80, 81, 82, 83, 84, 85, 86, 87, 88, 89, 90, 91, 92, 93, 94, 95, 96, 99, 101, 102, 103, 104, 105, 107, 108, 109, 110]
theorem zero_at {M : jM} (z1 : ∀ c k, 1 ≤ c → c < 74 → c ≠ 71 → M c k = z0 c k) (zr : ∀ c k, 75 < c → c < 111 → c ≠ 97 → c ≠ 98 → c ≠ 100 → c ≠ 106 → M c k = 0) : ∀ c ∈ zL0, ∀ k, M c k = 0 := by
  intro c hc k
  have h : (1 ≤ c ∧ c < 74 ∧ c ≠ 71 ∧ c ≠ 29 ∧ c ≠ 30 ∧ c ≠ 38 ∧ c ≠ 45) ∨ (75 < c ∧ c < 111 ∧ c ≠ 97 ∧ c ≠ 98 ∧ c ≠ 100 ∧ c ≠ 106) := (by decide +kernel : ∀ c ∈ zL0, (1 ≤ c ∧ c < 74 ∧ c ≠ 71 ∧ c ≠ 29 ∧ c ≠ 30 ∧ c ≠ 38 ∧ c ≠ 45) ∨ (75 < c ∧ c < 111 ∧ c ≠ 97 ∧ c ≠ 98 ∧ c ≠ 100 ∧ c ≠ 106)) c hc
  rcases h with ⟨a, b, d, e1, e2, e3, e4⟩ | ⟨a, b, e1, e2, e3, e4⟩
  · rw [z1 c k a b d, z0_0 e1 e2 e3 e4]
  · exact zr c k a b e1 e2 e3 e4
theorem rdV_in (k : Int) : 0 ≤ rdV k ∧ rdV k ≤ 30 := by unfold rdV; split <;> omega
set_option maxRecDepth 20000 in
theorem jIn_0 {M : jM} (z1 : ∀ c k, 1 ≤ c → c < 74 → c ≠ 71 → M c k = z0 c k) (z7 : ∀ k, k ≠ 6 → M 71 k = 0) (z8 : M 0 7 = 47 ∧ M 0 8 = 59 ∧ M 0 9 = 0) (z4 : ∀ k, M 74 k = 0) (z5 : ∀ k, 0 ≤ k → k < 16 → M 75 k = wVal k) (z97 : ∀ k, M 97 k = if 0 ≤ k ∧ k < 6 then 90 else 0) (z98 : ∀ k, M 98 k = if 0 ≤ k ∧ k < 6 then 1 else 0) (z100 : ∀ k, M 100 k = if 0 ≤ k ∧ k < 6 then 20 * k + 20 else 0) (z106 : ∀ k, M 106 k = if 0 ≤ k ∧ k < 81 then rdV k else 0)
    (zr : ∀ c k, 75 < c → c < 111 → c ≠ 97 → c ≠ 98 → c ≠ 100 → c ≠ 106 → M c k = 0) : jIn 47 59 (0, 0, pR0) M := by
  have hz := zero_at z1 zr
  have z29 : ∀ k, M 29 k = if 0 ≤ k ∧ k < 6 then 90 else 0 := fun k => (z1 29 k (by decide) (by decide) (by decide)).trans rfl
  have z30 : ∀ k, M 30 k = if 0 ≤ k ∧ k < 6 then 1 else 0 := fun k => (z1 30 k (by decide) (by decide) (by decide)).trans rfl
  have z38 : ∀ k, M 38 k = if 0 ≤ k ∧ k < 6 then 20 * k + 20 else 0 := fun k => (z1 38 k (by decide) (by decide) (by decide)).trans rfl
  have z45 : ∀ k, M 45 k = if 0 ≤ k ∧ k < 81 then rdV k else 0 := fun k => (z1 45 k (by decide) (by decide) (by decide)).trans rfl
  have h1 : gM M := ⟨⟨(by rw [hz 1 (by decide) 0]; decide), (fun i => by rw [hz 2 (by decide)]; decide), (fun i => by rw [hz 3 (by decide)]; decide), (fun i => by rw [hz 4 (by decide)]; decide), (fun i => by rw [hz 5 (by decide)]; decide), (fun i => by rw [hz 6 (by decide)]; decide), (fun i => by rw [hz 7 (by decide)]; decide), (fun i => by rw [hz 8 (by decide)]; decide)⟩, (by rw [hz 1 (by decide) 0, z4 3]), (funext fun k => by rw [hz 2 (by decide) k, hz 76 (by decide) k]), (funext fun k => by rw [hz 3 (by decide) k, hz 77 (by decide) k]), (funext fun k => by rw [hz 4 (by decide) k, hz 78 (by decide) k]), (funext fun k => by rw [hz 5 (by decide) k, hz 79 (by decide) k]), (funext fun k => by rw [hz 6 (by decide) k, hz 94 (by decide) k]), (funext fun k => by rw [hz 7 (by decide) k, hz 95 (by decide) k]), (funext fun k => by rw [hz 8 (by decide) k, hz 96 (by decide) k])⟩
  have h2 : gH M := ⟨⟨(by rw [hz 9 (by decide) 0]; decide), (fun i => by rw [hz 10 (by decide)]; decide), (fun i => by rw [hz 11 (by decide)]; decide), (fun i => by rw [hz 15 (by decide)]; decide), (fun i => by rw [hz 12 (by decide)]; decide), (fun i => by rw [hz 13 (by decide)]; decide), (fun i => by rw [hz 14 (by decide)]; decide)⟩, ⟨(by rw [hz 9 (by decide) 0, z4 8]), (funext fun k => by rw [hz 10 (by decide) k, hz 80 (by decide) k]), (funext fun k => by rw [hz 15 (by decide) k, hz 81 (by decide) k]), (funext fun k => by rw [hz 11 (by decide) k, hz 82 (by decide) k])⟩, (fun i => by rw [hz 83 (by decide), hz 83 (by decide), hz 83 (by decide)]; exact ⟨by decide, by decide, Or.inl rfl⟩), (fun h h0 h1 => by rw [hz 9 (by decide)] at h1; omega), (fun h _ => ⟨hz 14 (by decide) h, hz 82 (by decide) h⟩)⟩
  have h3 : gL M := ⟨⟨(by rw [hz 16 (by decide) 0]; decide), (fun i => by rw [hz 17 (by decide)]; decide), (fun i => by rw [hz 18 (by decide)]; decide), (fun i => by rw [hz 19 (by decide)]; decide), (fun i => by rw [hz 20 (by decide)]; decide), (fun i => by rw [hz 21 (by decide)]; decide), (fun i => by rw [hz 20 (by decide), hz 21 (by decide)]; decide), (fun i i0 i1 => by rw [hz 16 (by decide)] at i1; omega)⟩, (by rw [hz 16 (by decide) 0, z4 27]), (funext fun k => by rw [hz 17 (by decide) k, hz 89 (by decide) k]), (funext fun k => by rw [hz 18 (by decide) k, hz 90 (by decide) k]), (funext fun k => by rw [hz 19 (by decide) k, hz 91 (by decide) k]), (funext fun k => by rw [hz 20 (by decide) k, hz 92 (by decide) k]), (funext fun k => by rw [hz 21 (by decide) k, hz 93 (by decide) k])⟩
  have h4 : gT M := ⟨⟨(fun i => by rw [z29]; split <;> omega), (fun i => by rw [z30]; split <;> omega)⟩, (funext fun k => by rw [z29 k, z97 k]), (funext fun k => by rw [z30 k, z98 k])⟩
  have h5 : gC M := ⟨⟨(by rw [hz 36 (by decide) 0]; decide), (by rw [hz 36 (by decide) 3]; decide), (fun i => by rw [hz 37 (by decide)]; decide), (fun i => by rw [z38]; split <;> omega), (fun i => by rw [hz 39 (by decide)]; decide), (fun i => by rw [hz 40 (by decide)]; decide), (fun i => by rw [hz 41 (by decide)]; decide), (fun i => by rw [hz 42 (by decide)]; decide), (fun i => by rw [hz 43 (by decide)]; decide)⟩, (by rw [hz 36 (by decide) 0, z4 38]), (by rw [hz 36 (by decide) 3, z4 41]), (funext fun k => by rw [hz 37 (by decide) k, hz 99 (by decide) k]), (funext fun k => by rw [z38 k, z100 k]), (funext fun k => by rw [hz 39 (by decide) k, hz 104 (by decide) k]), (funext fun k => by rw [hz 40 (by decide) k, hz 101 (by decide) k]), (funext fun k => by rw [hz 41 (by decide) k, hz 103 (by decide) k]), (funext fun k => by rw [hz 42 (by decide) k, hz 105 (by decide) k]), (funext fun k => by rw [hz 43 (by decide) k, hz 102 (by decide) k])⟩
  have h6 : gR M := ⟨(fun i => by rw [z45]; split; exact rdV_in i; decide), (funext fun k => by rw [z45 k, z106 k])⟩
  have h7 : gX M := ⟨(by rw [z7 0 (by decide)]; decide), (fun i => by rw [hz 72 (by decide)]; decide), (fun i => by rw [hz 84 (by decide)]; decide), (by rw [z7 0 (by decide), z4 14]), (fun i => by rw [hz 72 (by decide), hz 84 (by decide)]; rfl)⟩
  have h9 : gA 47 59 (0, 0, pR0) M := ⟨⟨Or.inl rfl, Or.inr rfl, by decide⟩, ⟨z8.1, z8.2.1⟩, ⟨by decide, by decide, fun j a b => absurd (Int.lt_of_le_of_lt a b) (by decide)⟩, ⟨hz 47 (by decide) 0, ⟨by rw [hz 47 (by decide)]; decide, by rw [hz 47 (by decide)]; decide⟩, fun j a b => absurd (Int.lt_of_le_of_lt a b) (by decide)⟩, ⟨z4 20, fun j a b => absurd (Int.lt_of_le_of_lt a b) (by decide)⟩⟩
  have h10 : gZ M := (by unfold gZ; rw [z8.2.2, z4 1])
  exact ⟨h1, h2, h3, h4, h5, h6, h7, z5, h9, h10⟩
/-! ===== the shape with its moving fields ===== -/
abbrev shY : List jS := (shX_27 ++ [.inr (9, [0, 1, 85, 0, 86, 87, 88, 89, 0, 90, 91, 92, 93, 94, 0, 0, 0, 0, 0, 0, 0, 0, 95, 96, 0, 97, 98, 0, 99, 100, 101, 102, 103, 104, 105, 106, 107, 108, 0, 109, 110, 0, 111, 112, 113, 114, 115, 116, 117, 118, 119, 120]), .inl (1, 16), .inl (0, 6), .inl (0, 6), .inl (0, 6), .inl (0, 6), .inl (0, 24), .inl (0, 24), .inl (0, 24), .inl (0, 216), .inl (0, 900), .inl (0, 640), .inl (0, 4000), .inl (0, 1000), .inl (0, 64), .inl (0, 60), .inl (0, 60), .inl (0, 60), .inl (0, 60), .inl (0, 60), .inl (0, 6), .inl (0, 24), .inl (0, 24), .inl (0, 6), .inl (0, 6), .inl (0, 5), .inl (0, 6), .inl (0, 20), .inl (0, 20), .inl (0, 20), .inl (0, 20), .inl (4, 20), .inl (0, 81), .inl (0, 60), .inl (0, 384), .inl (1, 140), .inl (1, 140)])
set_option maxRecDepth 20000 in
theorem shJ_eq : shJ = (shY.set 0 (.inr (8, [11, 19, 81, 26, 38, 46, 54, 2, 2, 1]))).set 71 (.inr (5, [0, 82, 0, 0, 0, 0, 2, 0, 83, 0])) := rfl
set_option maxRecDepth 20000 in
theorem shY_0 : shY[0]? = some (.inr (8, [11, 19, 81, 26, 38, 46, 54, 57, 69, 1])) := rfl
set_option maxRecDepth 20000 in
theorem shY_71 : shY[71]? = some (.inr (5, [0, 82, 0, 0, 0, 0, 69, 0, 83, 0])) := rfl
set_option maxRecDepth 20000 in
theorem shJ_0 : shJ[0]? = some (.inr (8, [11, 19, 81, 26, 38, 46, 54, 2, 2, 1])) := rfl
set_option maxRecDepth 20000 in
theorem shJ_71 : shJ[71]? = some (.inr (5, [0, 82, 0, 0, 0, 0, 2, 0, 83, 0])) := rfl
theorem shJY {j : Nat} (h0 : j ≠ 0) (h1 : j ≠ 71) : shJ[j]? = shY[j]? := by rw [shJ_eq, List.getElem?_set_ne (fun z => h1 z.symm), List.getElem?_set_ne (fun z => h0 z.symm)]
theorem jfv_const {ad : Int → Nat} {k : Nat} (x y : Int) (h : 10 ≤ k) : jfv ad k x = jfv ad k y := by
  unfold jfv
  rw [if_neg (by omega), if_neg (by omega)]
  match k, h with
  | k + 10, _ => rfl
theorem jfv_mv {ad : Int → Nat} {k : Nat} {x y : Int} (h : 10 ≤ k) (hy : y = (k : Int) - 10) : jfv ad k x = jfv ad 2 y := by
  unfold jfv
  rw [if_neg (by omega), if_neg (by omega), hy]
  match k, h with
  | k + 10, _ => rfl
/-- the memory with the places of the moving fields -/
def jmv (M : jM) : jM := jup (jup (jup M 0 7 47) 0 8 59) 71 6 59
theorem jmv_c {M : jM} {c : Int} (h0 : c ≠ 0) (h1 : c ≠ 71) : jmv M c = M c := by unfold jmv; rw [jup_cell h1, jup_cell h0, jup_cell h0]
theorem jmv_0 {M : jM} {k : Int} (h7 : k ≠ 7) (h8 : k ≠ 8) : jmv M 0 k = M 0 k := by unfold jmv; rw [jup_cellk (by decide), jup_ne (fun z => h8 z.2), jup_ne (fun z => h7 z.2)]
theorem jmv_7 (M : jM) : jmv M 0 7 = 47 := by unfold jmv; rw [jup_cellk (by decide), jup_ne (by decide), jup_self]
theorem jmv_8 (M : jM) : jmv M 0 8 = 59 := by unfold jmv; rw [jup_cellk (by decide), jup_self]
theorem jmv_71 {M : jM} {k : Int} (h : k ≠ 6) : jmv M 71 k = M 71 k := by unfold jmv; rw [jup_ne (fun z => h z.2), jup_cellk (by decide), jup_cellk (by decide)]
theorem jmv_716 (M : jM) : jmv M 71 6 = 59 := by unfold jmv; rw [jup_self]
theorem jcv_0 (ad : Int → Nat) (cy : Nat → ClassId) (M : jM) : jcell ad cy M ((0 : Nat) : Int) (.inr (8, [11, 19, 81, 26, 38, 46, 54, 57, 69, 1])) = jcell ad cy (jmv M) ((0 : Nat) : Int) (.inr (8, [11, 19, 81, 26, 38, 46, 54, 2, 2, 1])) := by
  simp only [jcell]
  congr 2
theorem jcv_71 (ad : Int → Nat) (cy : Nat → ClassId) (M : jM) : jcell ad cy M ((71 : Nat) : Int) (.inr (5, [0, 82, 0, 0, 0, 0, 69, 0, 83, 0])) = jcell ad cy (jmv M) ((71 : Nat) : Int) (.inr (5, [0, 82, 0, 0, 0, 0, 2, 0, 83, 0])) := by
  simp only [jcell]
  congr 2
theorem jW_cv (ad : Int → Nat) (cy : Nat → ClassId) (M : jM) : jW ad cy M shY = jW ad cy (jmv M) shJ := by
  apply List.ext_getElem?
  intro j
  by_cases z : j = 0
  · rw [z, jW_get shY_0, jW_get shJ_0, jcv_0]
  · by_cases y : j = 71
    · rw [y, jW_get shY_71, jW_get shJ_71, jcv_71]
    · have e := shJY z y
      cases hs : shY[j]? with
      | none =>
        rw [hs] at e
        rw [List.getElem?_eq_none (by rw [jW_len]; exact List.getElem?_eq_none_iff.mp hs), List.getElem?_eq_none (by rw [jW_len]; exact List.getElem?_eq_none_iff.mp e)]
      | some t =>
        rw [hs] at e
        rw [jW_get hs, jW_get e, jcell_congr (M := M) (N := jmv M) (fun k => by rw [jmv_c (by omega) (by omega)])]
theorem jl_0 (n : Nat) (h : ([11, 19, 81, 26, 38, 46, 54, 57, 69, 1][n]? == some 1) = true) : ([11, 19, 81, 26, 38, 46, 54, 2, 2, 1][n]? == some 1) = true := by
  match n, h with
  | 0, h => exact absurd h (by decide)
  | 1, h => exact absurd h (by decide)
  | 2, h => exact absurd h (by decide)
  | 3, h => exact absurd h (by decide)
  | 4, h => exact absurd h (by decide)
  | 5, h => exact absurd h (by decide)
  | 6, h => exact absurd h (by decide)
  | 7, h => exact absurd h (by decide)
  | 8, h => exact absurd h (by decide)
  | 9, _ => rfl
  | n + 10, h => exact absurd h (by simp)
theorem jl_71 (n : Nat) (h : ([0, 82, 0, 0, 0, 0, 69, 0, 83, 0][n]? == some 1) = true) : ([0, 82, 0, 0, 0, 0, 2, 0, 83, 0][n]? == some 1) = true := by
  match n, h with
  | 0, h => exact absurd h (by decide)
  | 1, h => exact absurd h (by decide)
  | 2, h => exact absurd h (by decide)
  | 3, h => exact absurd h (by decide)
  | 4, h => exact absurd h (by decide)
  | 5, h => exact absurd h (by decide)
  | 6, h => exact absurd h (by decide)
  | 7, h => exact absurd h (by decide)
  | 8, h => exact absurd h (by decide)
  | 9, h => exact absurd h (by decide)
  | n + 10, h => exact absurd h (by simp)
theorem jlong_cv {c k : Int} (h : jlong shY c k = true) : jlong shJ c k = true := by
  unfold jlong at h ⊢
  by_cases z : c.toNat = 0
  · rw [z, shY_0] at h
    rw [z, shJ_0]
    exact jl_0 _ h
  · by_cases y : c.toNat = 71
    · rw [y, shY_71] at h
      rw [y, shJ_71]
      exact jl_71 _ h
    · rw [shJY z y]
      exact h
theorem jokM_cv {M : jM} (h : jokM shY M) : jokM shJ (jmv M) := by
  intro c k
  by_cases z : c = 0 ∧ (k = 7 ∨ k = 8)
  · right
    rcases z with ⟨rfl, rfl | rfl⟩
    · rw [jmv_7]; decide
    · rw [jmv_8]; decide
  · by_cases y : c = 71 ∧ k = 6
    · right
      rcases y with ⟨rfl, rfl⟩
      rw [jmv_716]; decide
    · have e : jmv M c k = M c k := by
        by_cases x : c = 0
        · subst x; exact jmv_0 (by omega) (by omega)
        · by_cases x2 : c = 71
          · subst x2; exact jmv_71 (by omega)
          · rw [jmv_c x x2]
      rw [e]
      rcases h c k with q | q
      · exact Or.inl (jlong_cv q)
      · exact Or.inr q
theorem j_cvY {d : jD} {X : jX} {F : jF} {kc ks : Nat} {Q : Option jV → jM → Prop} {pc : Nat} {ls : List (Nat × jV)} {st : List jV} {M : jM} (kk : jG d X F shJ kc ks Q pc ls st (jmv M)) : jG d X F shY kc ks Q pc ls st M := by
  intro p l e s m args below meth cc Z cy ad0 ad A H locs lsA hE hw hst hls hh
  obtain ⟨w1, w2, w3, w4, w5, w6, w7, w8⟩ := hw
  exact kk p l e s m args below meth cc Z cy ad0 ad A H locs lsA hE ⟨w1, w2, w3, by rw [← jW_cv]; exact w4, by rw [← jW_cv]; exact w5, w6, w7, jokM_cv w8⟩ hst hls hh
