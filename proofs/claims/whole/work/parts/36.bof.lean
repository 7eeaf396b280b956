/-! ===== tokens in the reference's array ===== -/
def tAt (M : jM) (i : Int) (k : Int) : Int × Int := (M 86 (2 * (M 85 (20 * i + 13) + k)), M 86 (2 * (M 85 (20 * i + 13) + k) + 1))
def tPre (M : jM) (i : Int) (n : Nat) : List (Int × Int) := (List.range n).map (fun k : Nat => tAt M i k)
theorem tPre_s (M : jM) (i : Int) (n : Nat) : tPre M i (n + 1) = tPre M i n ++ [tAt M i n] := by
  unfold tPre
  rw [List.range_succ, List.map_append]
  rfl
theorem tPre_rev (M : jM) (i : Int) (n : Nat) : (tPre M i (n + 1)).reverse = tAt M i n :: (tPre M i n).reverse := by
  rw [tPre_s, List.reverse_append]
  rfl
theorem gWf_tl {t : Int × Int} {r : List (Int × Int)} {w : Bool} {o p : Nat} (h : gWf (t :: r) w o p) : ∃ w o p, gWf r w o p := by
  rcases h with ⟨_, _, h, _⟩ | ⟨_, _, _, _, h⟩ | ⟨_, _, h⟩ | ⟨_, _, h⟩ | ⟨_, _, _, _, _, h⟩ <;> exact ⟨_, _, _, h⟩
def gAll (M : jM) (i : Int) (len : Int) : Prop := (0 ≤ len ∧ len ≤ 900) ∧ (0 < len → 0 ≤ M 85 (20 * i + 13) ∧ M 85 (20 * i + 13) ≤ 1000) ∧ (len = 0 ∨ ∃ p, gWf (tPre M i len.toNat).reverse false 0 p)
theorem gWf_pre {M : jM} {i : Int} : ∀ (d n : Nat) {w : Bool} {o p : Nat}, gWf (tPre M i (n + d)).reverse w o p → ∃ w o p, gWf (tPre M i n).reverse w o p
  | 0, n, _, _, _, h => ⟨_, _, _, h⟩
  | d + 1, n, _, _, _, h => by
    rw [show n + (d + 1) = (n + d) + 1 by omega, tPre_rev] at h
    obtain ⟨_, _, _, h2⟩ := gWf_tl h
    exact gWf_pre d n h2
theorem gAll_at {M : jM} {i len k : Int} (h : gAll M i len) (k0 : 0 ≤ k) (k1 : k < len) : ∃ w o p, gWf (tAt M i k :: (tPre M i k.toNat).reverse) w o p := by
  rcases h.2.2 with z | ⟨p, z⟩
  · omega
  · have := gWf_pre (M := M) (i := i) (len.toNat - (k.toNat + 1)) (k.toNat + 1) (by rw [show k.toNat + 1 + (len.toNat - (k.toNat + 1)) = len.toNat by omega]; exact z)
    rw [tPre_rev, toNat_c k0] at this
    exact this
theorem cAllT_p (M : jM) (i : Int) {k : Int} (k0 : 0 ≤ k) : cAllT (tPre M i (k + 1).toNat) = cTok (cAllT (tPre M i k.toNat)) (tAt M i k) := by
  have := cAllT_s (tPre M i k.toNat).reverse (tAt M i k)
  rw [List.reverse_cons, List.reverse_reverse] at this
  rw [toNat_s k0, tPre_s, toNat_c k0]
  exact this
theorem rpn_vin {E : Int → Int → Int} (hE : ∀ c n, 0 ≤ E c n ∧ E c n ≤ 2) (O : List Int) : vIn (rpn E O) ∧ (rpn E O).length ≤ 64 := by
  unfold rpn
  have : ∀ (O V : List Int), (vIn V ∧ V.length ≤ 64) → vIn (O.foldl (rpS E) V) ∧ (O.foldl (rpS E) V).length ≤ 64 := by
    intro O
    induction O with
    | nil => intro V h; exact h
    | cons s O ih => intro V h; exact ih _ (rpS_in hE h s)
  exact this O [] ⟨fun x hx => by simp at hx, by simp⟩
/-- a binary sign is taken down, on arrays -/
theorem pop_bin {E : Int → Int → Int} {g g' : Int → Int} {n x : Int} {O : List Int} (h : aSt g n (rpn E O)) (hx : x = 1 ∨ x = 2) (hn : 1 < n) (h0 : g' (n - 2) = (if sgn x = 38 then min (g (n - 2)) (g (n - 1)) else max (g (n - 2)) (g (n - 1)))) (hg : ∀ j, 0 ≤ j → j < n - 2 → g' j = g j) : aSt g' (n - 1) (rpn E (O ++ [x * 10000])) := by
  rw [rpn_snoc]
  rcases hx with rfl | rfl
  · exact aSt_rp1 h (by omega) hn (by rw [h0]; rfl) hg
  · exact aSt_rp2 h (by omega) hn (by rw [h0]; rfl) hg
theorem pop_not {E : Int → Int → Int} {g g' : Int → Int} {n : Int} {O : List Int} (h : aSt g n (rpn E O)) (hn : 0 < n) (h0 : g' (n - 1) = 2 - g (n - 1)) (hg : ∀ j, 0 ≤ j → j < n - 1 → g' j = g j) : aSt g' n (rpn E (O ++ [3 * 10000])) := by
  rw [rpn_snoc]
  exact aSt_rp3 h (by omega) hn h0 hg
/-- the top of the signs that wait -/
theorem aSt_top {g : Int → Int} {n : Int} {W : List Int} (h : aSt g n (W.map sgn)) (hn : 0 < n) : ∃ x W', W = x :: W' ∧ g (n - 1) = sgn x ∧ aSt g (n - 1) (W'.map sgn) := by
  cases W with
  | nil => have : n = 0 := h
           omega
  | cons x W => exact ⟨x, W, rfl, h.1, h.2⟩
