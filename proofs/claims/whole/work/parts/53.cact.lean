/-! ===== the same by the class's arrays ===== -/
def cB (M : jM) (f k h m d : Int) : Int :=
  if (d < M (f + 2) k ∨ M (f + 3) k < d ∨ (¬ M (f + 4) k = -9 ∧ M (f + 4) k ≤ d)) then 0
  else vBot (rpn (eTest ((M 12 h + d) / 360) ((M 13 h + d) / 360) (M 10 h) (M 2 m) (M 11 h) m) (sPre (M (f + 9)) (M (f + 7) k) (M (f + 8) k - M (f + 7) k).toNat))
def cRow0 (M : jM) (f i : Int) : Prop := (0 ≤ M (f + 7) i ∧ M (f + 7) i ≤ M (f + 8) i ∧ M (f + 8) i ≤ 900) ∧ ∀ k, M (f + 7) i ≤ k → k < M (f + 8) i → 0 ≤ M (f + 9) k ∧ M (f + 9) k < 110000
def cAct (M : jM) (f : Int) : Prop := (0 ≤ M f 0 ∧ M f 0 ≤ 16) ∧ (∀ i, 0 ≤ i → i < M f 0 → cRow0 M f i) ∧ ∀ i, 0 ≤ i → i < M f 0 → 0 ≤ M (f + 1) i ∧ M (f + 1) i ≤ 99
def kA (f : Int) (M N : jM) : Prop := (∀ c, c ≠ f → c ≠ f + 10 → c ≠ f + 11 → N c = M c) ∧ ∀ k, k ≠ 13 → N f k = M f k
theorem kA_rf (f : Int) (M : jM) : kA f M M := ⟨fun _ _ _ _ => rfl, fun _ _ => rfl⟩
theorem kA_tr {f : Int} {M N O : jM} (h : kA f M N) (h' : kA f N O) : kA f M O :=
  ⟨fun c a b e => (h'.1 c a b e).trans (h.1 c a b e), fun k a => (h'.2 k a).trans (h.2 k a)⟩
def cD (M : jM) (f h m d w l : Int) (n : Nat) : Int :=
  eFold (decide (w = 0 ∨ w = 2 ∨ w = 4)) (fun k => decide (l ≤ cB M f k h m d ∧ ¬ M (f + 6) (k * 7 + w) = -1)) (fun k => M (f + 6) (k * 7 + w)) (if w = 0 then fCustom (M 10 h) (M 15 h) (M 11 h) else if w = 2 ∨ w = 4 then 1440 else 0) n
def cW (M : jM) (f h m d w l v : Int) (n : Nat) : Int :=
  eWhy (fun k => decide (l ≤ cB M f k h m d ∧ ¬ M (f + 6) (k * 7 + w) = -1)) (fun k => M (f + 6) (k * 7 + w)) (M (f + 1)) v n
theorem cD_of {M N : jM} {f h m d : Int} (hf : f = 47 ∨ f = 59) (hr : 0 ≤ M f 0) (e1 : N f 13 = fCustom (M 10 h) (M 15 h) (M 11 h)) (e2 : ∀ k, 0 ≤ k → k < M f 0 → N (f + 11) k = cB M f k h m d) (hk : kA f M N) (w l : Int) :
    eFold (decide (w = 0 ∨ w = 2 ∨ w = 4)) (fun k => decide (l ≤ N (f + 11) k ∧ ¬ N (f + 6) (k * 7 + w) = -1)) (fun k => N (f + 6) (k * 7 + w)) (if w = 0 then N f 13 else if w = 2 ∨ w = 4 then 1440 else 0) (N f 0).toNat = cD M f h m d w l (M f 0).toNat := by
  rw [hk.1 (f + 6) (by omega) (by omega) (by omega), hk.2 0 (by decide), e1]
  unfold cD
  refine eFold_cg rfl _ (fun k a b => ⟨?_, fun _ => rfl⟩)
  show decide (l ≤ N (f + 11) k ∧ _) = decide (l ≤ cB M f k h m d ∧ _)
  rw [e2 k a (by omega)]
theorem cW_of {M N : jM} {f h m d : Int} (hf : f = 47 ∨ f = 59) (hr : 0 ≤ M f 0) (e2 : ∀ k, 0 ≤ k → k < M f 0 → N (f + 11) k = cB M f k h m d) (hk : kA f M N) (w l v v' : Int) (hv : v = v') :
    eWhy (fun k => decide (l ≤ N (f + 11) k ∧ ¬ N (f + 6) (k * 7 + w) = -1)) (fun k => N (f + 6) (k * 7 + w)) (N (f + 1)) v (N f 0).toNat = cW M f h m d w l v' (M f 0).toNat := by
  rw [hk.1 (f + 6) (by omega) (by omega) (by omega), hk.1 (f + 1) (by omega) (by omega) (by omega), hk.2 0 (by decide), hv]
  unfold cW
  refine eWhy_cg rfl _ (fun k a b => ⟨?_, rfl⟩)
  show (decide (l ≤ N (f + 11) k ∧ _) = true ∧ _) ↔ (decide (l ≤ cB M f k h m d ∧ _) = true ∧ _)
  rw [e2 k a (by omega)]
def cQ1 (M : jM) (f h m d a b : Int) : Prop := (2 ≤ cB M f a h m d ∧ ¬ M (f + 6) (a * 7 + 1) = -1) ∧ (2 ≤ cB M f b h m d ∧ ¬ M (f + 6) (b * 7 + 2) = -1) ∧ M (f + 6) (b * 7 + 2) ≤ M (f + 6) (a * 7 + 1)
def cQ (M : jM) (f h m d a b : Int) : Prop := cQ1 M f h m d a b ∨ cQ1 M f h m d b a
theorem qF_cg {Q Q' : Int → Int → Prop} {nb nb' : Int → Int} {n r : Int} (hQ : ∀ a b, 0 ≤ a → a < b → b < n → (Q a b ↔ Q' a b)) (hn : ∀ a, 0 ≤ a → a < n → nb a = nb' a) (h : qF Q nb n r) : qF Q' nb' n r := by
  rcases h with ⟨h1, h2⟩ | ⟨a, b, h1, h2, h3, h4⟩
  · exact Or.inl ⟨h1, fun a b a0 ab bn q => h2 a b a0 ab bn ((hQ a b a0 ab bn).2 q)⟩
  · refine Or.inr ⟨a, b, h1, (hQ a b h1.1 h1.2.1 h1.2.2).1 h2, ?_, fun a' b' a0 ab bn q => h4 a' b' a0 ab bn ((hQ a' b' a0 ab bn).2 q)⟩
    rw [h3, hn a h1.1 (by omega), hn b (by omega) h1.2.2]
