/-! ===== rows of steps in an array ===== -/
def sPre (g : Int → Int) (a : Int) (n : Nat) : List Int := (List.range n).map (fun k : Nat => g (a + (k : Int)))
theorem sPre_s (g : Int → Int) (a : Int) (n : Nat) : sPre g a (n + 1) = sPre g a n ++ [g (a + n)] := by
  unfold sPre
  rw [List.range_succ, List.map_append]
  rfl
theorem rpn_pre (E : Int → Int → Int) (g : Int → Int) {a k : Int} (h : a ≤ k) : rpn E (sPre g a (k + 1 - a).toNat) = rpS E (rpn E (sPre g a (k - a).toNat)) (g k) := by
  rw [show (k + 1 - a).toNat = (k - a).toNat + 1 by omega, sPre_s, rpn_snoc, show a + ((k - a).toNat : Int) = k by omega]
theorem aSt_rp3 {E : Int → Int → Int} {g g' : Int → Int} {n s : Int} {V : List Int} (h : aSt g n V) (hs : s / 10000 = 3) (hn : 0 < n) (h0 : g' (n - 1) = 2 - g (n - 1)) (hg : ∀ j, 0 ≤ j → j < n - 1 → g' j = g j) : aSt g' n (rpS E V s) := by
  cases V with
  | nil => have : n = 0 := h
           omega
  | cons a V =>
    unfold rpS
    rw [if_pos hs]
    exact ⟨by rw [h0, h.1], aSt_cg V h.2 hg⟩
theorem aSt_rp2 {E : Int → Int → Int} {g g' : Int → Int} {n s : Int} {V : List Int} (h : aSt g n V) (hs : s / 10000 = 2) (hn : 1 < n) (h0 : g' (n - 2) = min (g (n - 2)) (g (n - 1))) (hg : ∀ j, 0 ≤ j → j < n - 2 → g' j = g j) : aSt g' (n - 1) (rpS E V s) := by
  match V, h with
  | [], h => have : n = 0 := h
             omega
  | [a], h => have : n - 1 = 0 := h.2
              omega
  | b :: a :: V, h =>
    unfold rpS
    rw [if_neg (by omega), if_pos hs]
    have e : g (n - 2) = a := by have := h.2.1; rw [show n - 1 - 1 = n - 2 by omega] at this; exact this
    refine ⟨by rw [show n - 1 - 1 = n - 2 by omega, h0, e, h.1], ?_⟩
    rw [show n - 1 - 1 = n - 2 by omega]
    have h3 := h.2.2
    rw [show n - 1 - 1 = n - 2 by omega] at h3
    exact aSt_cg V h3 hg
theorem aSt_rp1 {E : Int → Int → Int} {g g' : Int → Int} {n s : Int} {V : List Int} (h : aSt g n V) (hs : s / 10000 = 1) (hn : 1 < n) (h0 : g' (n - 2) = max (g (n - 2)) (g (n - 1))) (hg : ∀ j, 0 ≤ j → j < n - 2 → g' j = g j) : aSt g' (n - 1) (rpS E V s) := by
  match V, h with
  | [], h => have : n = 0 := h
             omega
  | [a], h => have : n - 1 = 0 := h.2
              omega
  | b :: a :: V, h =>
    unfold rpS
    rw [if_neg (by omega), if_neg (by omega), if_pos hs]
    have e : g (n - 2) = a := by have := h.2.1; rw [show n - 1 - 1 = n - 2 by omega] at this; exact this
    refine ⟨by rw [show n - 1 - 1 = n - 2 by omega, h0, e, h.1], ?_⟩
    rw [show n - 1 - 1 = n - 2 by omega]
    have h3 := h.2.2
    rw [show n - 1 - 1 = n - 2 by omega] at h3
    exact aSt_cg V h3 hg
theorem aSt_rp4 {E : Int → Int → Int} {g g' : Int → Int} {n s : Int} {V : List Int} (h : aSt g n V) (hs : 3 < s / 10000) (hn : n < 64) (h0 : g' n = E (s / 10000 - 4) (s % 10000)) (hg : ∀ j, 0 ≤ j → j < n → g' j = g j) : aSt g' (n + 1) (rpS E V s) := by
  have hl := aSt_len V h
  unfold rpS
  rw [if_neg (by omega), if_neg (by omega), if_neg (by omega), if_pos hs, if_pos (by omega)]
  exact aSt_push h h0 hg
theorem aSt_rp0 {E : Int → Int → Int} {g : Int → Int} {n s : Int} {V : List Int} (h : aSt g n V) (h3 : s / 10000 = 3 → n ≤ 0) (h2 : s / 10000 = 2 → n ≤ 1) (h1 : s / 10000 = 1 → n ≤ 1) (h4 : 3 < s / 10000 → 64 ≤ n) : aSt g n (rpS E V s) := by
  have hl := aSt_len V h
  have e : rpS E V s = V := by
    unfold rpS
    by_cases c3 : s / 10000 = 3
    · rw [if_pos c3]
      have := h3 c3
      match V, hl with
      | [], _ => rfl
      | a :: V, hl => simp only [List.length_cons] at hl; omega
    · rw [if_neg c3]
      by_cases c2 : s / 10000 = 2
      · rw [if_pos c2]
        have := h2 c2
        match V, hl with
        | [], _ => rfl
        | [a], _ => rfl
        | b :: a :: V, hl => simp only [List.length_cons] at hl; omega
      · rw [if_neg c2]
        by_cases c1 : s / 10000 = 1
        · rw [if_pos c1]
          have := h1 c1
          match V, hl with
          | [], _ => rfl
          | [a], _ => rfl
          | b :: a :: V, hl => simp only [List.length_cons] at hl; omega
        · rw [if_neg c1]
          by_cases c4 : 3 < s / 10000
          · rw [if_pos c4, if_neg (by have := h4 c4; omega)]
          · rw [if_neg c4]
  rw [e]
  exact h
def vIn (V : List Int) : Prop := ∀ x, x ∈ V → 0 ≤ x ∧ x ≤ 2
theorem aSt_in {g : Int → Int} : ∀ (V : List Int) {n : Int}, aSt g n V → vIn V → ∀ j, 0 ≤ j → j < n → 0 ≤ g j ∧ g j ≤ 2
  | [], n, h, _, j, j0, j1 => by have : n = 0 := h
                                 omega
  | a :: V, n, h, hv, j, j0, j1 => by
    by_cases e : j = n - 1
    · rw [e, h.1]; exact hv a (by simp)
    · exact aSt_in V h.2 (fun x hx => hv x (by simp [hx])) j j0 (by omega)
theorem rpS_in {E : Int → Int → Int} (hE : ∀ c n, 0 ≤ E c n ∧ E c n ≤ 2) {V : List Int} (h : vIn V ∧ V.length ≤ 64) (s : Int) : vIn (rpS E V s) ∧ (rpS E V s).length ≤ 64 := by
  obtain ⟨hv, hl⟩ := h
  unfold rpS
  split
  · match V, hv, hl with
    | [], hv, hl => exact ⟨hv, hl⟩
    | a :: V, hv, hl =>
      refine ⟨fun x hx => ?_, by simpa using hl⟩
      have ha := hv a (by simp)
      rcases List.mem_cons.1 hx with z | z
      · omega
      · exact hv x (by simp [z])
  · split
    · match V, hv, hl with
      | [], hv, hl => exact ⟨hv, hl⟩
      | [a], hv, hl => exact ⟨hv, hl⟩
      | b :: a :: V, hv, hl =>
        refine ⟨fun x hx => ?_, by simp only [List.length_cons] at hl ⊢; omega⟩
        have ha := hv a (by simp)
        have hb := hv b (by simp)
        rcases List.mem_cons.1 hx with z | z
        · omega
        · exact hv x (by simp [z])
    · split
      · match V, hv, hl with
        | [], hv, hl => exact ⟨hv, hl⟩
        | [a], hv, hl => exact ⟨hv, hl⟩
        | b :: a :: V, hv, hl =>
          refine ⟨fun x hx => ?_, by simp only [List.length_cons] at hl ⊢; omega⟩
          have ha := hv a (by simp)
          have hb := hv b (by simp)
          rcases List.mem_cons.1 hx with z | z
          · omega
          · exact hv x (by simp [z])
      · split
        · split
          · refine ⟨fun x hx => ?_, by simp only [List.length_cons]; omega⟩
            rcases List.mem_cons.1 hx with z | z
            · rw [z]; exact hE _ _
            · exact hv x z
          · exact ⟨hv, hl⟩
        · exact ⟨hv, hl⟩
theorem rpn_in {E : Int → Int → Int} (hE : ∀ c n, 0 ≤ E c n ∧ E c n ≤ 2) (g : Int → Int) (a : Int) : ∀ n : Nat, vIn (rpn E (sPre g a n)) ∧ (rpn E (sPre g a n)).length ≤ 64
  | 0 => ⟨fun x hx => by simp [rpn, sPre] at hx, by simp [rpn, sPre]⟩
  | n + 1 => by
    rw [sPre_s, rpn_snoc]
    exact rpS_in hE (rpn_in hE g a n) _
def vBot (V : List Int) : Int := V.getLastD 2
theorem aSt_bot {g : Int → Int} : ∀ (V : List Int) {n : Int}, aSt g n V → 0 < n → g 0 = vBot V
  | [], n, h, hn => by have : n = 0 := h
                       omega
  | [a], n, h, hn => by
    have h2 : n - 1 = 0 := h.2
    have := h.1
    rw [h2] at this
    exact this
  | a :: b :: V, n, h, hn => by
    have hl := aSt_len (b :: V) h.2
    simp only [List.length_cons] at hl
    have := aSt_bot (b :: V) h.2 (by omega)
    rw [this]
    unfold vBot
    simp
