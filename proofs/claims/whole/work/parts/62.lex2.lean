/-! ===== a token as each side holds it ===== -/
def cTkv (b : Int → Int) (q tk sz v : Int) : Prop := tk = cK b q ∧ sz = lEd b q - q ∧ (cK b q = -2 → v = lV b q)
def cTk (b : Int → Int) (M : jM) : Prop := cTkv b (M 71 3) (M 71 2) (M 71 4) (M 71 5)
def cFr (M N : jM) : Prop := (∀ c, c ≠ 71 → N c = M c) ∧ ∀ k, k ≠ 2 → k ≠ 3 → k ≠ 4 → k ≠ 5 → N 71 k = M 71 k
theorem cTx_at {M : jM} {b : Int → Int} (hb : cTx M = b) {k : Int} (h0 : 0 ≤ k) (h1 : k < M 71 0) : b k = M 72 k % 256 := by
  rw [← hb]
  show (if _ then _ else _) = _
  rw [if_pos ⟨h0, h1⟩]
theorem cTx_out {M : jM} {b : Int → Int} (hb : cTx M = b) {k : Int} (h1 : M 71 0 ≤ k) : b k = -1 := by
  rw [← hb]
  show (if _ then _ else _) = _
  rw [if_neg (by omega)]
theorem cTx_ok {M : jM} (h : 0 ≤ M 71 0 ∧ M 71 0 ≤ 900) : bOk (cTx M) (M 71 0) := by
  refine ⟨h, fun k a b => ?_, fun k a => cTx_out rfl a⟩
  rw [cTx_at rfl a b]
  omega
theorem cTx_cg {M N : jM} (h0 : N 71 0 = M 71 0) (h1 : N 72 = M 72) : cTx N = cTx M := by
  unfold cTx
  rw [h0, h1]
theorem jand255 : ∀ n : Nat, n < 256 → jand ((n : Int) - 128) 255 = ((n : Int) - 128) % 256 := by decide +kernel
theorem jand_255 {x : Int} (h : -128 ≤ x ∧ x ≤ 127) : jand x 255 = x % 256 := by
  have := jand255 (x + 128).toNat (by omega)
  rw [show (((x + 128).toNat : Nat) : Int) - 128 = x by omega] at this
  exact this
theorem cTkv_end {b : Int → Int} {q v : Int} (h : b q = -1) : cTkv b q (-3) 0 v := by
  have e : cK b q = -3 := by unfold cK; rw [if_pos (by omega)]
  refine ⟨e.symm, ?_, fun z => by omega⟩
  unfold lEd
  rw [if_pos (by omega)]
  omega
theorem cTkv_word {b : Int → Int} {q sz v : Int} (h1 : 1 ≤ sz) (h2 : sz < 1000) (hr : ∀ j, q ≤ j → j < q + sz → 97 ≤ b j ∧ b j ≤ 122) (hs : ¬ (97 ≤ b (q + sz) ∧ b (q + sz) ≤ 122)) : cTkv b q (-1) sz v := by
  have h0 := hr q (by omega) (by omega)
  have e : cK b q = -1 := by unfold cK; rw [if_neg (by omega), if_pos h0]
  refine ⟨e.symm, ?_, fun z => by omega⟩
  unfold lEd
  rw [if_neg (by omega), if_pos h0, rnI_of 1000 (q := q + sz) (by omega) (by omega) hr hs]
  omega
theorem lEd_num {b : Int → Int} {q sz : Int} (h1 : 1 ≤ sz) (h2 : sz < 1000) (hr : ∀ j, q ≤ j → j < q + sz → 48 ≤ b j ∧ b j ≤ 57) (hs : ¬ (48 ≤ b (q + sz) ∧ b (q + sz) ≤ 57)) : lEd b q = q + sz := by
  have h0 := hr q (by omega) (by omega)
  unfold lEd
  rw [if_neg (by omega), if_neg (by omega), if_pos h0, rnI_of 1000 (q := q + sz) (by omega) (by omega) hr hs]
theorem cTkv_num {b : Int → Int} {q sz v tk : Int} (h1 : 1 ≤ sz) (h2 : sz < 1000) (hr : ∀ j, q ≤ j → j < q + sz → 48 ≤ b j ∧ b j ≤ 57) (hs : ¬ (48 ≤ b (q + sz) ∧ b (q + sz) ≤ 57)) (hv : v = min 10000 (nvB b q sz.toNat)) (ht : ((9999 < v ∨ (b q = 48 ∧ 1 < sz)) ∧ tk = -4) ∨ (¬ (9999 < v ∨ (b q = 48 ∧ 1 < sz)) ∧ tk = -2)) : cTkv b q tk sz v := by
  have h0 := hr q (by omega) (by omega)
  have ed := lEd_num h1 h2 hr hs
  have hr' : ∀ j, q ≤ j → j < q + (sz.toNat : Nat) → 48 ≤ b j ∧ b j ≤ 57 := fun j a c => hr j a (by omega)
  have hok : nOk b q ↔ ¬ (9999 < v ∨ (b q = 48 ∧ 1 < sz)) := by
    unfold nOk
    rw [ed]
    by_cases h4 : sz ≤ 4
    · have := nv_le (b := b) (q := q) sz.toNat (by omega) hr'
      omega
    · by_cases h48 : b q = 48
      · omega
      · have := (nv_ge h48 sz.toNat hr').2.2.2.2 (by omega)
        omega
  have e : cK b q = if nOk b q then -2 else -4 := by unfold cK; rw [if_neg (by omega), if_neg (by omega), if_pos h0]
  refine ⟨?_, by omega, fun z => ?_⟩
  · rw [e]
    by_cases hn : nOk b q
    · rw [if_pos hn]
      have := hok.1 hn
      omega
    · rw [if_neg hn]
      have : (9999 < v ∨ (b q = 48 ∧ 1 < sz)) := Classical.byContradiction (fun y => hn (hok.2 y))
      omega
  · rw [e] at z
    by_cases hn : nOk b q
    · have hn2 := hok.1 hn
      unfold lV
      rw [if_neg (by omega), if_pos h0, ed, show q + sz - q = sz by omega]
      omega
    · rw [if_neg hn] at z
      omega
theorem cTkv_oth {b : Int → Int} {q v : Int} (h0 : 0 ≤ b q) (h1 : ¬ isL (b q)) (h2 : ¬ isD (b q)) : cTkv b q (b q) 1 v := by
  have e : cK b q = b q := by unfold cK; rw [if_neg (by omega), if_neg h1, if_neg h2]
  refine ⟨e.symm, ?_, fun z => by omega⟩
  unfold lEd
  rw [if_neg (by omega), if_neg h1, if_neg h2]
  omega
def stP (b : Int → Int) (M N : jM) : Prop := (N 71 3 = lSk b (M 71 3 + M 71 4) ∧ M 71 3 + M 71 4 ≤ N 71 3 ∧ N 71 3 ≤ M 71 0) ∧ cTk b N ∧ cFr M N
theorem stP_of {M N : jM} {b : Int → Int} {q tk sz v : Int} (h3 : N 71 3 = q) (h2 : N 71 2 = tk) (h4 : N 71 4 = sz) (h5 : N 71 5 = v) (hsk : lSk b (M 71 3 + M 71 4) = q) (hin : M 71 3 + M 71 4 ≤ q ∧ q ≤ M 71 0) (ht : cTkv b q tk sz v) (hk : ∀ c, c ≠ 71 → N c = M c) (hf : ∀ k, k ≠ 2 → k ≠ 3 → k ≠ 4 → k ≠ 5 → N 71 k = M 71 k) : stP b M N := by
  refine ⟨⟨by rw [h3, hsk], by omega, by omega⟩, ?_, hk, hf⟩
  unfold cTk
  rw [h3, h2, h4, h5]
  exact ht
/-! the reference's -/
def rTkv (b : Int → Int) (q tk v nx : Int) : Prop := tk = lK b q ∧ (1 ≤ lK b q → lK b q ≤ 3 → v = lV b q) ∧ nx = lEd b q
def rTk (b : Int → Int) (M : jM) : Prop := rTkv b (M 74 17) (M 74 16) (M 74 18) (M 74 15)
def rFr (M N : jM) : Prop := (∀ c, c ≠ 74 → N c = M c) ∧ ∀ k, k ≠ 15 → k ≠ 16 → k ≠ 17 → k ≠ 18 → N 74 k = M 74 k
theorem rTx_at {M : jM} {b : Int → Int} (hb : rTx M = b) {k : Int} (h0 : 0 ≤ k) (h1 : k < M 74 14) : b k = M 84 k := by
  rw [← hb]
  show (if _ then _ else _) = _
  rw [if_pos ⟨h0, h1⟩]
theorem rTx_out {M : jM} {b : Int → Int} (hb : rTx M = b) {k : Int} (h1 : M 74 14 ≤ k) : b k = -1 := by
  rw [← hb]
  show (if _ then _ else _) = _
  rw [if_neg (by omega)]
theorem rTx_cg {M N : jM} (h0 : N 74 14 = M 74 14) (h1 : N 84 = M 84) : rTx N = rTx M := by
  unfold rTx
  rw [h0, h1]
theorem rTx_ok {M : jM} (h : 0 ≤ M 74 14 ∧ M 74 14 ≤ 900) (ht : ∀ i, 0 ≤ M 84 i ∧ M 84 i ≤ 255) : bOk (rTx M) (M 74 14) := by
  refine ⟨h, fun k a b => ?_, fun k a => rTx_out rfl a⟩
  rw [rTx_at rfl a b]
  exact ht k
theorem rTkv_end {b : Int → Int} {q v : Int} (h : b q = -1) : rTkv b q 0 v q := by
  have e : lK b q = 0 := by unfold lK; rw [if_pos (by omega)]
  refine ⟨e.symm, fun z => by omega, ?_⟩
  unfold lEd
  rw [if_pos (by omega)]
theorem rTkv_word {b : Int → Int} {q e v tk : Int} (h1 : q < e) (h2 : e - q < 1000) (hr : ∀ j, q ≤ j → j < e → 97 ≤ b j ∧ b j ≤ 122) (hs : ¬ (97 ≤ b e ∧ b e ≤ 122)) (ht : (e - q ≤ 6 ∧ 0 ≤ wIdx (nmB b q (e - q).toNat) ∧ tk = 1 ∧ v = wIdx (nmB b q (e - q).toNat)) ∨ (¬ (e - q ≤ 6 ∧ 0 ≤ wIdx (nmB b q (e - q).toNat)) ∧ tk = 4)) : rTkv b q tk v e := by
  have h0 := hr q (by omega) (by omega)
  have ed : lEd b q = e := by
    unfold lEd
    rw [if_neg (by omega), if_pos h0, rnI_of 1000 (q := e) (by omega) (by omega) hr hs]
  have eW : lW b q = if e - q ≤ 6 then wIdx (nmB b q (e - q).toNat) else -1 := by unfold lW; rw [ed]
  have eK : lK b q = if 0 ≤ lW b q then 1 else 4 := by unfold lK; rw [if_neg (by omega), if_pos h0]
  have eV : lV b q = lW b q := by unfold lV; rw [if_pos h0]
  refine ⟨?_, fun z z2 => ?_, ed.symm⟩
  · rw [eK, eW]
    rcases ht with ⟨a, c, d, _⟩ | ⟨a, d⟩
    · rw [if_pos a, if_pos c, d]
    · by_cases h6 : e - q ≤ 6
      · rw [if_pos h6, if_neg (fun y => a ⟨h6, y⟩), d]
      · rw [if_neg h6, if_neg (by omega), d]
  · rw [eK] at z z2
    rw [eV, eW]
    rcases ht with ⟨a, c, d, g⟩ | ⟨a, d⟩
    · rw [if_pos a, g]
    · rw [eW] at z2
      by_cases h6 : e - q ≤ 6
      · rw [if_pos h6, if_neg (fun y => a ⟨h6, y⟩)] at z2
        omega
      · rw [if_neg h6, if_neg (by omega)] at z2
        omega
theorem rTkv_num {b : Int → Int} {q sz v tk e : Int} (he : e = q + sz) (h1 : 1 ≤ sz) (h2 : sz < 1000) (hr : ∀ j, q ≤ j → j < q + sz → 48 ≤ b j ∧ b j ≤ 57) (hs : ¬ (48 ≤ b (q + sz) ∧ b (q + sz) ≤ 57)) (hv : v = if sz ≤ 4 then nvB b q sz.toNat else 10000) (ht : ((9999 < v ∨ (b q = 48 ∧ 1 < sz)) ∧ tk = 4) ∨ (¬ (9999 < v ∨ (b q = 48 ∧ 1 < sz)) ∧ tk = 2)) : rTkv b q tk v e := by
  have h0 := hr q (by omega) (by omega)
  have ed := lEd_num h1 h2 hr hs
  have hr' : ∀ j, q ≤ j → j < q + (sz.toNat : Nat) → 48 ≤ b j ∧ b j ≤ 57 := fun j a c => hr j a (by omega)
  have hok : nOk b q ↔ ¬ (9999 < v ∨ (b q = 48 ∧ 1 < sz)) := by
    unfold nOk
    rw [ed]
    by_cases h4 : sz ≤ 4
    · have := nv_le (b := b) (q := q) sz.toNat (by omega) hr'
      rw [if_pos h4] at hv
      omega
    · rw [if_neg h4] at hv
      omega
  have eK : lK b q = if nOk b q then 2 else 4 := by unfold lK; rw [if_neg (by omega), if_neg (by omega), if_pos h0]
  refine ⟨?_, fun z z2 => ?_, by omega⟩
  · rw [eK]
    by_cases hn : nOk b q
    · rw [if_pos hn]
      have := hok.1 hn
      omega
    · rw [if_neg hn]
      have : (9999 < v ∨ (b q = 48 ∧ 1 < sz)) := Classical.byContradiction (fun y => hn (hok.2 y))
      omega
  · rw [eK] at z2
    by_cases hn : nOk b q
    · have h4 : sz ≤ 4 := by have := hn.1; omega
      rw [if_pos h4] at hv
      unfold lV
      rw [if_neg (by omega), if_pos h0, ed, show q + sz - q = sz by omega]
      exact hv
    · rw [if_neg hn] at z2
      omega
theorem rTkv_oth {b : Int → Int} {q tk : Int} (h0 : 0 ≤ b q) (h1 : ¬ isL (b q)) (h2 : ¬ isD (b q)) (ht : (isSg (b q) ∧ tk = 3) ∨ (¬ isSg (b q) ∧ tk = 4)) : rTkv b q tk (b q) (q + 1) := by
  have eK : lK b q = if isSg (b q) then 3 else 4 := by unfold lK; rw [if_neg (by omega), if_neg h1, if_neg h2]
  refine ⟨?_, fun z z2 => ?_, ?_⟩
  · rw [eK]
    rcases ht with ⟨a, c⟩ | ⟨a, c⟩
    · rw [if_pos a, c]
    · rw [if_neg a, c]
  · unfold lV
    rw [if_neg h1, if_neg h2]
  · unfold lEd
    rw [if_neg (by omega), if_neg h1, if_neg h2]
def adP (b : Int → Int) (M N : jM) : Prop := (N 74 17 = lSk b (M 74 15) ∧ M 74 15 ≤ N 74 17 ∧ N 74 17 ≤ M 74 14) ∧ rTk b N ∧ rFr M N
theorem adP_of {M N : jM} {b : Int → Int} {q tk v nx : Int} (h17 : N 74 17 = q) (h16 : N 74 16 = tk) (h18 : N 74 18 = v) (h15 : N 74 15 = nx) (hsk : lSk b (M 74 15) = q) (hin : M 74 15 ≤ q ∧ q ≤ M 74 14) (ht : rTkv b q tk v nx) (hk : ∀ c, c ≠ 74 → N c = M c) (hf : ∀ k, k ≠ 15 → k ≠ 16 → k ≠ 17 → k ≠ 18 → N 74 k = M 74 k) : adP b M N := by
  refine ⟨⟨by rw [h17, hsk], by omega, by omega⟩, ?_, hk, hf⟩
  unfold rTk
  rw [h17, h16, h18, h15]
  exact ht
