/-! ===== a FAULT lies in the text ===== -/
def bIv (n x : Int) : Prop := -1 - n ≤ x ∧ x ≤ n
theorem iv_nx {b : Int → Int} {n s : Int} (hb : bOk b n) (h0 : 0 ≤ s) (h : bIv n s) : bIv n (lNx b s) := by
  have := lNx_in hb h0 h.2
  have := hb.1
  exact ⟨by omega, by omega⟩
theorem iv_fl {n s : Int} (h : bIv n s) : bIv n (fl s) := by
  unfold fl bIv at *
  split <;> omega
theorem iv_W {b : Int → Int} {n s : Int} (hb : bOk b n) (k : Int) (h : bIv n s) : bIv n (tkW b k s) := by
  unfold tkW
  split
  · exact h
  · split
    · exact iv_nx hb (by omega) h
    · unfold bIv at *; omega
theorem iv_S {b : Int → Int} {n s : Int} (hb : bOk b n) (k : Int) (h : bIv n s) : bIv n (tkS b k s) := by
  unfold tkS
  split
  · exact h
  · split
    · exact iv_nx hb (by omega) h
    · unfold bIv at *; omega
theorem iv_N {b : Int → Int} {n s : Int} (hb : bOk b n) (lo hi : Int) (h : bIv n s) : bIv n (tkN b lo hi s) := by
  unfold tkN
  split
  · exact h
  · split
    · exact iv_nx hb (by omega) h
    · unfold bIv at *; omega
theorem iv_T2 {b : Int → Int} {n s : Int} (hb : bOk b n) (k : Int) (h0 : 0 ≤ s) (h : bIv n s) : bIv n (pT2 b k s) := by
  unfold pT2
  split
  · split
    · exact iv_nx hb h0 h
    · exact iv_fl h
  · exact iv_S hb _ h
theorem iv_T3 {b : Int → Int} {n s : Int} (hb : bOk b n) (h0 : 0 ≤ s) (h : bIv n s) : bIv n (pT3 b s) := by
  have nx := lNx_in hb h0 h.2
  unfold pT3
  split
  · exact iv_nx hb h0 h
  · exact iv_N hb _ _ (iv_T2 hb _ (by omega) (iv_nx hb h0 h))
theorem iv_Cd {b : Int → Int} {n : Int} (hb : bOk b n) : ∀ (f : Nat) (s : Int) (r : List (Int × Int)) (w : Bool) (o p : Nat), 0 ≤ s → bIv n s → bIv n (pCd b f s r w o p).1
  | 0, s, r, w, o, p, h0, h => iv_fl h
  | f + 1, s, r, w, o, p, h0, h => by
    have nx := lNx_in hb h0 h.2
    have go : ∀ r' w' o' p', bIv n (pCd b f (lNx b s) r' w' o' p').1 := fun r' w' o' p' => iv_Cd hb f _ r' w' o' p' (by omega) (iv_nx hb h0 h)
    unfold pCd
    by_cases c0 : w = true
    · rw [if_pos c0]
      by_cases c1 : lK b s = 3 ∧ lV b s = 33
      · rw [if_pos c1]; exact go _ _ _ _
      · rw [if_neg c1]
        by_cases c2 : lK b s = 3 ∧ lV b s = 40 ∧ o < 10
        · rw [if_pos c2]; exact go _ _ _ _
        · rw [if_neg c2]
          by_cases c3 : lK b s = 1 ∧ isTW (lV b s) ∧ p < 30
          · rw [if_pos c3]
            by_cases c4 : pT3 b s < 0
            · rw [if_pos c4]; exact iv_T3 hb h0 h
            · rw [if_neg c4]; exact iv_Cd hb f _ _ _ _ _ (by omega) (iv_T3 hb h0 h)
          · rw [if_neg c3]; exact iv_fl h
    · rw [if_neg c0]
      by_cases c1 : lK b s = 3 ∧ (lV b s = 38 ∨ lV b s = 124)
      · rw [if_pos c1]; exact go _ _ _ _
      · rw [if_neg c1]
        by_cases c2 : lK b s = 3 ∧ lV b s = 41 ∧ 0 < o
        · rw [if_pos c2]; exact go _ _ _ _
        · rw [if_neg c2]
          by_cases c3 : 0 < o
          · rw [if_pos c3]; exact iv_fl h
          · rw [if_neg c3]; exact h
theorem iv_If {b : Int → Int} {n s : Int} (hb : bOk b n) (h0 : 0 ≤ s) (h : bIv n s) : bIv n (pIf b s).1 := by
  have nx := lNx_in hb h0 h.2
  unfold pIf
  split
  · exact iv_W hb _ (iv_Cd hb _ _ _ _ _ _ (by omega) (iv_nx hb h0 h))
  · exact h
theorem iv_B3 {b : Int → Int} {n s : Int} (hb : bOk b n) (w : Int) (h : bIv n s) : bIv n (pB3 b w s) := by
  unfold pB3
  split
  · exact iv_N hb _ _ h
  · split
    · exact iv_N hb _ _ (iv_W hb _ (iv_N hb _ _ h))
    · split
      · exact iv_N hb _ _ h
      · split
        · exact iv_N hb _ _ h
        · exact h
theorem iv_D1 {b : Int → Int} {n s : Int} (hb : bOk b n) (t : Int → Int) (h0 : 0 ≤ s) (h : bIv n s) : bIv n (pD1 b s t) := by
  unfold pD1
  split
  · exact iv_fl h
  · exact iv_B3 hb _ (iv_nx hb h0 h)
theorem iv_Du {b : Int → Int} {n : Int} (hb : bOk b n) : ∀ (f : Nat) (s : Int) (t : Int → Int) (m : Nat), 0 ≤ s → bIv n s → bIv n (pDu b f s t m).1
  | 0, s, t, m, h0, h => iv_fl h
  | f + 1, s, t, m, h0, h => by
    have d := iv_D1 hb t h0 h
    unfold pDu
    by_cases c1 : pD1 b s t < 0
    · rw [if_pos c1]; exact d
    · rw [if_neg c1]
      by_cases c2 : lK b (pD1 b s t) = 3 ∧ lV b (pD1 b s t) = 44
      · rw [if_pos c2]
        have nx := lNx_in hb (show 0 ≤ pD1 b s t by omega) d.2
        exact iv_Du hb f _ _ _ (by omega) (iv_nx hb (by omega) d)
      · rw [if_neg c2]; exact iv_S hb _ d
theorem iv_H6 {b : Int → Int} {n s : Int} (hb : bOk b n) (h : bIv n s) : bIv n (pH6 b s) := iv_S hb _ (iv_N hb _ _ (iv_S hb _ (iv_N hb _ _ (iv_W hb _ (iv_N hb _ _ h)))))
theorem iv_K4 {b : Int → Int} {n s : Int} (hb : bOk b n) (h0 : 0 ≤ s) (h : bIv n s) : bIv n (pK4 b s) := iv_S hb _ (iv_N hb _ _ (iv_W hb _ (iv_nx hb h0 h)))
theorem iv_stp {b : Int → Int} {n : Int} {A : pSt} (hb : bOk b n) (h0 : 0 ≤ A.1) (h : bIv n A.1) : bIv n (pStp b A).1 := by
  have nx := lNx_in hb h0 h.2
  have q := iv_nx hb h0 h
  unfold pStp
  by_cases c1 : lK b A.1 = 1 ∧ lV b A.1 = 0
  · rw [if_pos c1]
    unfold pRl
    by_cases c2 : A.2.1 = 16
    · rw [if_pos c2]; exact iv_fl h
    · rw [if_neg c2]
      by_cases c3 : 0 ≤ pFd b A.2.2 A.2.1 (lNx b A.1)
      · rw [if_pos c3]; exact iv_fl q
      · rw [if_neg c3]
        by_cases c4 : pH6 b (lNx b A.1) < 0
        · rw [if_pos c4]; exact iv_H6 hb q
        · rw [if_neg c4]
          have i := iv_If hb (show 0 ≤ pH6 b (lNx b A.1) by omega) (iv_H6 hb q)
          by_cases c5 : (pIq b (lNx b A.1)).1 < 0
          · rw [if_pos c5]; exact i
          · rw [if_neg c5]
            have c5' : ¬ (pIf b (pH6 b (lNx b A.1))).1 < 0 := c5
            have d := iv_Du hb 4 (pIf b (pH6 b (lNx b A.1))).1 (fun _ => -9) 0 (by omega) i
            by_cases c6 : (pDq b (lNx b A.1)).1 < 0
            · rw [if_pos c6]; exact d
            · rw [if_neg c6]; exact d
  · rw [if_neg c1]
    by_cases c2 : lK b A.1 = 1 ∧ lV b A.1 = 4
    · rw [if_pos c2]
      have k := iv_K4 hb (show 0 ≤ lNx b A.1 by omega) q
      unfold pSk
      by_cases c3 : pFd b A.2.2 A.2.1 (lNx b A.1) < 0
      · rw [if_pos c3]; exact iv_fl q
      · rw [if_neg c3]
        by_cases c4 : pK4 b (lNx b A.1) < 0
        · rw [if_pos c4]; exact k
        · rw [if_neg c4]; exact k
    · rw [if_neg c2]; exact iv_fl h
theorem iv_run {b : Int → Int} {n : Int} (hb : bOk b n) : ∀ (k : Nat) (A : pSt), bIv n A.1 → bIv n (pRun b k A).1
  | 0, A, h => h
  | k + 1, A, h => by
    rw [pRun]
    by_cases c : A.1 < 0 ∨ lK b A.1 = 0
    · rw [if_pos c]; exact h
    · rw [if_neg c]; exact iv_run hb k _ (iv_stp hb (by omega) h)
theorem iv_txt {b : Int → Int} {n : Int} (hb : bOk b n) : bIv n (pTxt b).1 := by
  have g : 0 ≤ lSk b 0 ∧ lSk b 0 ≤ n := skp_in hb 1000 hb.1.1
  have := hb.1
  exact iv_run hb _ _ ⟨by show -1 - n ≤ lSk b 0; omega, g.2⟩
theorem ciP_in {b : Int → Int} {f r n : Int} {M N : jM} (hb : bOk b n) (h : ciP f M N (pTxt b) r) : -9 ≤ r ∧ r ≤ 900 := by
  have i := iv_txt hb
  have := hb.1
  unfold bIv at i
  rcases h.1 with z | z <;> omega
