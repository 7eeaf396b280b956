/-! ===== what holds between two calls ===== -/
def up (t : Int → Int) (k v : Int) : Int → Int := fun j => if j = k then v else t j
theorem jup_c (M : jM) (c k v c' : Int) : jup M c k v c' = if c' = c then up (M c') k v else M c' := by
  by_cases h : c' = c
  · rw [if_pos h, h]; funext j; rw [jup_at]; rfl
  · rw [if_neg h, jup_cell h]
theorem up_in {t : Int → Int} {k v lo hi : Int} (h : ∀ i, lo ≤ t i ∧ t i ≤ hi) (hv : lo ≤ v ∧ v ≤ hi) : ∀ i, lo ≤ up t k v i ∧ up t k v i ≤ hi := by
  intro i
  unfold up
  split
  · exact hv
  · exact h i
theorem up_self (t : Int → Int) (k v : Int) : up t k v k = v := by unfold up; rw [if_pos rfl]
theorem up_ne {t : Int → Int} {k v j : Int} (h : j ≠ k) : up t k v j = t j := by unfold up; rw [if_neg h]
theorem nin_of {l ch : List Int} {c : Int} (h : c ∈ l) (hd : ∀ x ∈ l, x ∉ ch) : c ∉ ch := hd c h
def bnT (M : jM) (h : Int) : Prop := (M 14 h = 0 ∧ M 12 h = bFrom (M 83) h (M 82 h).toNat ∧ M 13 h = bTo (M 83) h (M 82 h).toNat ∧ bFrom (M 83) h (M 82 h).toNat ≤ bTo (M 83) h (M 82 h).toNat) ∨ (M 14 h = 1 ∧ M 12 h = 0 ∧ M 13 h = 10799 ∧ bTo (M 83) h (M 82 h).toNat < bFrom (M 83) h (M 82 h).toNat)
def gM (M : jM) : Prop := ((0 ≤ M 1 0 ∧ M 1 0 ≤ 6) ∧ (∀ i, 0 ≤ M 2 i ∧ M 2 i ≤ 3) ∧ (∀ i, 0 ≤ M 3 i ∧ M 3 i ≤ 9) ∧ (∀ i, 0 ≤ M 4 i ∧ M 4 i ≤ 8) ∧ (∀ i, 0 ≤ M 5 i ∧ M 5 i ≤ 99) ∧ (∀ i, 0 ≤ M 6 i ∧ M 6 i ≤ 4) ∧ (∀ i, 0 ≤ M 7 i ∧ M 7 i ≤ 1439) ∧ (∀ i, -90 ≤ M 8 i ∧ M 8 i ≤ 90)) ∧
  M 1 0 = M 74 3 ∧ M 2 = M 76 ∧ M 3 = M 77 ∧ M 4 = M 78 ∧ M 5 = M 79 ∧ M 6 = M 94 ∧ M 7 = M 95 ∧ M 8 = M 96
def gH (M : jM) : Prop := ((0 ≤ M 9 0 ∧ M 9 0 ≤ 24) ∧ (∀ i, 0 ≤ M 10 i ∧ M 10 i ≤ 5) ∧ (∀ i, 0 ≤ M 11 i ∧ M 11 i ≤ 3) ∧ (∀ i, 0 ≤ M 15 i ∧ M 15 i ≤ 3) ∧ (∀ i, 0 ≤ M 12 i ∧ M 12 i ≤ 99999) ∧ (∀ i, 0 ≤ M 13 i ∧ M 13 i ≤ 10799) ∧ (∀ i, 0 ≤ M 14 i ∧ M 14 i ≤ 1)) ∧
  (M 9 0 = M 74 8 ∧ M 10 = M 80 ∧ M 15 = M 81 ∧ M 11 = M 82) ∧ pOk (M 83) ∧ (∀ h, 0 ≤ h → h < M 9 0 → bnT M h) ∧ ∀ h, M 9 0 ≤ h → M 14 h = 0 ∧ M 82 h = 0
def gL (M : jM) : Prop := ((0 ≤ M 16 0 ∧ M 16 0 ≤ 60) ∧ (∀ i, 0 ≤ M 17 i ∧ M 17 i ≤ 23) ∧ (∀ i, 0 ≤ M 18 i ∧ M 18 i ≤ 359) ∧ (∀ i, M 19 i = -9 ∨ (0 ≤ M 19 i ∧ M 19 i < 6)) ∧ (∀ i, 0 ≤ M 20 i ∧ M 20 i ≤ 1439) ∧ (∀ i, 0 ≤ M 21 i ∧ M 21 i ≤ 1440) ∧ (∀ i, M 20 i ≤ M 21 i) ∧ ∀ i, 0 ≤ i → i < M 16 0 → M 19 i = -9 ∨ (0 ≤ M 19 i ∧ M 19 i < M 1 0)) ∧
  M 16 0 = M 74 27 ∧ M 17 = M 89 ∧ M 18 = M 90 ∧ M 19 = M 91 ∧ M 20 = M 92 ∧ M 21 = M 93
def gT (M : jM) : Prop := ((∀ i, 0 ≤ M 29 i ∧ M 29 i ≤ 300) ∧ ∀ i, 0 ≤ M 30 i ∧ M 30 i ≤ 3) ∧ M 29 = M 97 ∧ M 30 = M 98
def gC (M : jM) : Prop := ((0 ≤ M 36 0 ∧ M 36 0 ≤ 5) ∧ (0 ≤ M 36 3 ∧ M 36 3 ≤ 20) ∧ (∀ i, 0 ≤ M 37 i ∧ M 37 i ≤ 1023) ∧ (∀ i, 0 ≤ M 38 i ∧ M 38 i ≤ 500) ∧ (∀ i, 0 ≤ M 39 i ∧ M 39 i ≤ 4) ∧ (∀ i, 0 ≤ M 40 i ∧ M 40 i ≤ 5) ∧ (∀ i, 0 ≤ M 41 i ∧ M 41 i ≤ 5) ∧ (∀ i, 0 ≤ M 42 i ∧ M 42 i ≤ 1) ∧ (∀ i, 0 ≤ M 43 i ∧ M 43 i ≤ 23)) ∧
  M 36 0 = M 74 38 ∧ M 36 3 = M 74 41 ∧ M 37 = M 99 ∧ M 38 = M 100 ∧ M 39 = M 104 ∧ M 40 = M 101 ∧ M 41 = M 103 ∧ M 42 = M 105 ∧ M 43 = M 102
def gR (M : jM) : Prop := (∀ i, 0 ≤ M 45 i ∧ M 45 i ≤ 30) ∧ M 45 = M 106
def gX (M : jM) : Prop := (0 ≤ M 71 0 ∧ M 71 0 ≤ 900) ∧ (∀ i, -128 ≤ M 72 i ∧ M 72 i ≤ 127) ∧ (∀ i, 0 ≤ M 84 i ∧ M 84 i ≤ 255) ∧ M 71 0 = M 74 14 ∧ ∀ i, M 72 i % 256 = M 84 i
def gW (M : jM) : Prop := ∀ k, 0 ≤ k → k < 16 → M 75 k = wVal k
def gA (f g : Int) (Z : pSt) (M : jM) : Prop := (jA f ∧ jA g ∧ f ≠ g) ∧ (M 0 7 = f ∧ M 0 8 = g) ∧ tzOk Z ∧ cAr f M Z ∧ rIn M Z
def gZ (M : jM) : Prop := M 0 9 = M 74 1
def jIn (f g : Int) (Z : pSt) (M : jM) : Prop := gM M ∧ gH M ∧ gL M ∧ gT M ∧ gC M ∧ gR M ∧ gX M ∧ gW M ∧ gA f g Z M ∧ gZ M
/-! frames: a group hangs on its cells -/
abbrev lM : List Int := [2, 3, 4, 5, 6, 7, 8, 76, 77, 78, 79, 94, 95, 96]
abbrev lH : List Int := [10, 11, 12, 13, 14, 15, 80, 81, 82, 83]
abbrev lL : List Int := [17, 18, 19, 20, 21, 89, 90, 91, 92, 93]
abbrev lT : List Int := [29, 30, 97, 98]
abbrev lC : List Int := [37, 38, 39, 40, 41, 42, 43, 99, 100, 101, 102, 103, 104, 105]
abbrev lR : List Int := [45, 106]
theorem gM_f {M O : jM} (h : ∀ c ∈ lM, O c = M c) (e1 : O 1 0 = M 1 0) (e2 : O 74 3 = M 74 3) (I : gM M) : gM O := by
  unfold gM at I ⊢
  rw [e1, e2, h 2 (by decide), h 3 (by decide), h 4 (by decide), h 5 (by decide), h 6 (by decide), h 7 (by decide), h 8 (by decide), h 76 (by decide), h 77 (by decide), h 78 (by decide), h 79 (by decide), h 94 (by decide), h 95 (by decide), h 96 (by decide)]
  exact I
theorem gH_f {M O : jM} (h : ∀ c ∈ lH, O c = M c) (e1 : O 9 0 = M 9 0) (e2 : O 74 8 = M 74 8) (I : gH M) : gH O := by
  unfold gH bnT at I ⊢
  rw [e1, e2, h 10 (by decide), h 11 (by decide), h 12 (by decide), h 13 (by decide), h 14 (by decide), h 15 (by decide), h 80 (by decide), h 81 (by decide), h 82 (by decide), h 83 (by decide)]
  exact I
theorem gL_f {M O : jM} (h : ∀ c ∈ lL, O c = M c) (e1 : O 16 0 = M 16 0) (e2 : O 74 27 = M 74 27) (e3 : O 1 0 = M 1 0) (I : gL M) : gL O := by
  unfold gL at I ⊢
  rw [e1, e2, e3, h 17 (by decide), h 18 (by decide), h 19 (by decide), h 20 (by decide), h 21 (by decide), h 89 (by decide), h 90 (by decide), h 91 (by decide), h 92 (by decide), h 93 (by decide)]
  exact I
theorem gL_f1 {M O : jM} (h : ∀ c ∈ lL, O c = M c) (e1 : O 16 0 = M 16 0) (e2 : O 74 27 = M 74 27) (e3 : M 1 0 ≤ O 1 0) (I : gL M) : gL O := by
  unfold gL at I ⊢
  rw [e1, e2, h 17 (by decide), h 18 (by decide), h 19 (by decide), h 20 (by decide), h 21 (by decide), h 89 (by decide), h 90 (by decide), h 91 (by decide), h 92 (by decide), h 93 (by decide)]
  obtain ⟨⟨a1, a2, a3, a4, a5, a6, a7, a8⟩, b⟩ := I
  exact ⟨⟨a1, a2, a3, a4, a5, a6, a7, fun i x y => by have := a8 i x y; omega⟩, b⟩
theorem gT_f {M O : jM} (h : ∀ c ∈ lT, O c = M c) (I : gT M) : gT O := by
  unfold gT at I ⊢
  rw [h 29 (by decide), h 30 (by decide), h 97 (by decide), h 98 (by decide)]
  exact I
theorem gC_f {M O : jM} (h : ∀ c ∈ lC, O c = M c) (e1 : O 36 0 = M 36 0) (e2 : O 36 3 = M 36 3) (e3 : O 74 38 = M 74 38) (e4 : O 74 41 = M 74 41) (I : gC M) : gC O := by
  unfold gC at I ⊢
  rw [e1, e2, e3, e4, h 37 (by decide), h 38 (by decide), h 39 (by decide), h 40 (by decide), h 41 (by decide), h 42 (by decide), h 43 (by decide), h 99 (by decide), h 100 (by decide), h 101 (by decide), h 102 (by decide), h 103 (by decide), h 104 (by decide), h 105 (by decide)]
  exact I
theorem gR_f {M O : jM} (h : ∀ c ∈ lR, O c = M c) (I : gR M) : gR O := by
  unfold gR at I ⊢
  rw [h 45 (by decide), h 106 (by decide)]
  exact I
theorem gX_f {M O : jM} (h1 : O 72 = M 72) (h2 : O 84 = M 84) (e1 : O 71 0 = M 71 0) (e2 : O 74 14 = M 74 14) (I : gX M) : gX O := by
  unfold gX at I ⊢
  rw [h1, h2, e1, e2]
  exact I
theorem gW_f {M O : jM} (h : O 75 = M 75) (I : gW M) : gW O := by unfold gW at I ⊢; rw [h]; exact I
theorem cAr_fr {f : Int} {M O : jM} {Z : pSt} (h : ∀ c, f + 1 ≤ c → c ≤ f + 9 → O c = M c) (e0 : O f 0 = M f 0) (e9 : O f 9 = M f 9) (I : cAr f M Z) : cAr f O Z := by
  unfold cAr cRw cTw at I ⊢
  rw [e0, e9, h (f + 1) (by omega) (by omega), h (f + 2) (by omega) (by omega), h (f + 3) (by omega) (by omega), h (f + 4) (by omega) (by omega), h (f + 5) (by omega) (by omega), h (f + 6) (by omega) (by omega), h (f + 7) (by omega) (by omega), h (f + 8) (by omega) (by omega), h (f + 9) (by omega) (by omega)]
  exact I
theorem rIr_fr {M O : jM} {j : Int} {x : pRw} (hj : 0 ≤ j ∧ j < 16) (h85 : ∀ i, i < 320 → O 85 i = M 85 i) (h86 : ∀ i, i < 2000 → O 86 i = M 86 i) (I : rIr M j x) : rIr O j x := by
  obtain ⟨h1, h2, h3⟩ := I
  refine ⟨?_, fun w w0 w1 => by rw [h85 _ (by omega)]; exact h2 w w0 w1, ?_⟩
  · rw [h85 _ (by omega), h85 _ (by omega), h85 _ (by omega), h85 _ (by omega), h85 _ (by omega), h85 _ (by omega)]; exact h1
  · rw [h85 _ (by omega)]
    rcases h3 with z | ⟨z1, z2, z3⟩
    · exact Or.inl z
    · exact Or.inr ⟨z1, z2, rTks_cg _ z3 (fun i _ i1 => h86 i (by omega))⟩
theorem rIn_fr {M O : jM} {Z : pSt} (hz : tzOk Z) (h85 : ∀ i, i < 320 → O 85 i = M 85 i) (h86 : ∀ i, i < 2000 → O 86 i = M 86 i) (e : O 74 20 = M 74 20) (I : rIn M Z) : rIn O Z := by
  have z1 := hz.2.1
  exact ⟨by rw [e]; exact I.1, fun j j0 j1 => rIr_fr ⟨j0, by omega⟩ h85 h86 (I.2 j j0 j1)⟩
theorem gA_f {f g : Int} {Z : pSt} {M O : jM} (h : ∀ c, f + 1 ≤ c → c ≤ f + 9 → O c = M c) (e0 : O f 0 = M f 0) (e9 : O f 9 = M f 9) (e7 : O 0 7 = M 0 7) (e8 : O 0 8 = M 0 8) (h85 : ∀ i, i < 320 → O 85 i = M 85 i) (h86 : ∀ i, i < 2000 → O 86 i = M 86 i) (e20 : O 74 20 = M 74 20) (I : gA f g Z M) : gA f g Z O := by
  obtain ⟨a, b, c, d, r⟩ := I
  exact ⟨a, by rw [e7, e8]; exact b, c, cAr_fr h e0 e9 d, rIn_fr c h85 h86 e20 r⟩
/-- nothing that counts has changed -/
theorem jIn_same {f g : Int} {Z : pSt} {M O : jM} (hc : ∀ c ∈ lM ++ (lH ++ (lL ++ (lT ++ (lC ++ (lR ++ [72, 75, 84, 85, 86]))))), O c = M c) (h1 : O 1 0 = M 1 0) (h9 : O 9 0 = M 9 0) (h16 : O 16 0 = M 16 0) (h36 : O 36 0 = M 36 0) (h363 : O 36 3 = M 36 3) (h71 : O 71 0 = M 71 0) (h0 : ∀ k, 7 ≤ k → k ≤ 9 → O 0 k = M 0 k)
    (h74 : ∀ k, k ∈ ([1, 3, 8, 14, 20, 27, 38, 41] : List Int) → O 74 k = M 74 k) (hf : ∀ c, f + 1 ≤ c → c ≤ f + 9 → O c = M c) (e0 : O f 0 = M f 0) (e9 : O f 9 = M f 9) (I : jIn f g Z M) : jIn f g Z O := by
  obtain ⟨i1, i2, i3, i4, i5, i6, i7, i8, i9, i10⟩ := I
  have c85 := hc 85 (by decide)
  have c86 := hc 86 (by decide)
  refine ⟨gM_f (fun c q => hc c (List.mem_append_left _ q)) h1 (h74 3 (by decide)) i1, gH_f (fun c q => hc c (List.mem_append_right _ (List.mem_append_left _ q))) h9 (h74 8 (by decide)) i2, gL_f (fun c q => hc c (List.mem_append_right _ (List.mem_append_right _ (List.mem_append_left _ q)))) h16 (h74 27 (by decide)) h1 i3,
    gT_f (fun c q => hc c (List.mem_append_right _ (List.mem_append_right _ (List.mem_append_right _ (List.mem_append_left _ q))))) i4, gC_f (fun c q => hc c (List.mem_append_right _ (List.mem_append_right _ (List.mem_append_right _ (List.mem_append_right _ (List.mem_append_left _ q)))))) h36 h363 (h74 38 (by decide)) (h74 41 (by decide)) i5, gR_f (fun c q => hc c (List.mem_append_right _ (List.mem_append_right _ (List.mem_append_right _ (List.mem_append_right _ (List.mem_append_right _ (List.mem_append_left _ q))))))) i6,
    gX_f (hc 72 (by decide)) (hc 84 (by decide)) h71 (h74 14 (by decide)) i7, gW_f (hc 75 (by decide)) i8, gA_f hf e0 e9 (h0 7 (by decide) (by decide)) (h0 8 (by decide) (by decide)) (fun i _ => by rw [c85]) (fun i _ => by rw [c86]) (h74 20 (by decide)) i9, ?_⟩
  unfold gZ at i10 ⊢
  rw [h0 9 (by decide) (by decide), h74 1 (by decide)]
  exact i10
theorem bn_f {M : jM} {h : Int} (hb : bnT M h) : (M 12 h = fBorn (M 83) (M 82) h 0 ∧ M 13 h = fBorn (M 83) (M 82) h 1) ∧ M 14 h = fBorn (M 83) (M 82) h 2 := by
  unfold fBorn
  simp only [Int.reduceEq, ↓reduceIte]
  rcases hb with ⟨a, b, c, d⟩ | ⟨a, b, c, d⟩
  · rw [if_neg (by omega), if_neg (by omega), if_neg (by omega)]
    exact ⟨⟨b, c⟩, a⟩
  · rw [if_pos d, if_pos d, if_pos d]
    exact ⟨⟨b, c⟩, a⟩
theorem jIn_tzH {f g : Int} {Z : pSt} {M : jM} {h : Int} (I : jIn f g Z M) (h0 : 0 ≤ h) (h1 : h < M 9 0) : tzH M h := by
  obtain ⟨i1, i2, _⟩ := I
  exact ⟨(bn_f (i2.2.2.2.1 h h0 h1)).1, i2.2.1.2.1, i1.2.2.1, i2.2.1.2.2.2, i2.2.1.2.2.1⟩
theorem jIn_tzL {f g : Int} {Z : pSt} {M : jM} (I : jIn f g Z M) : tzL M := by
  obtain ⟨i1, _, i3, _⟩ := I
  exact ⟨i3.2.1, i3.2.2.1, i3.2.2.2.1, i3.2.2.2.2.1, i3.2.2.2.2.2.1, i3.2.2.2.2.2.2, i1.2.2.2.2.2.2.1, i1.2.2.2.2.2.2.2.1, i1.2.2.2.2.2.2.2.2⟩
theorem jA_or {f : Int} (h : jA f) : f = 47 ∨ f = 59 := h
theorem gX_tx {M : jM} (I : gX M) : cTx M = rTx M := by
  obtain ⟨a, b, c, d, e⟩ := I
  funext k
  unfold cTx rTx
  rw [d, e k]
