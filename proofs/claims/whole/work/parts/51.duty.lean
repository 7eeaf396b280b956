/-! ===== the ACT in the reference's arrays; what a duty, a reason, a quarrel are by them ===== -/
def rRow (M : jM) (i : Int) : Prop := gAll M i (M 85 (20 * i + 4)) ∧ (1 ≤ M 85 (20 * i) ∧ M 85 (20 * i) ≤ 99) ∧ ∀ w, 0 ≤ w → w ≤ 6 → (M 85 (20 * i + 6 + w) = -9 ∨ (0 ≤ M 85 (20 * i + 6 + w) ∧ M 85 (20 * i + 6 + w) ≤ 1440))
def rAct (M : jM) : Prop := (0 ≤ M 74 20 ∧ M 74 20 ≤ 16) ∧ ∀ i, 0 ≤ i → i < M 74 20 → rRow M i
def nK (M N : jM) : Prop := (∀ c, c ≠ 74 → c ≠ 87 → c ≠ 88 → N c = M c) ∧ ∀ k, k ≠ 0 → N 74 k = M 74 k
theorem nK_jup (M : jM) : nK M (jup M 74 0 0) := ⟨fun c h _ _ => jup_cell h, fun k h => jup_ne (fun z => h z.2)⟩
theorem nK_tr {M N O : jM} (h : nK M N) (h' : ∀ c, c ≠ 87 → c ≠ 88 → O c = N c) : nK M O :=
  ⟨fun c a b e => by rw [h' c b e]; exact h.1 c a b e, fun k a => by rw [h' 74 (by decide) (by decide)]; exact h.2 k a⟩
theorem nK_fr {M N : jM} (h' : ∀ c, c ≠ 87 → c ≠ 88 → N c = M c) : nK M N := ⟨fun c _ b e => h' c b e, fun k _ => by rw [h' 74 (by decide) (by decide)]⟩
theorem rRow_cg {M N : jM} (h1 : N 85 = M 85) (h2 : N 86 = M 86) {i : Int} (h : rRow M i) : rRow N i := by
  unfold rRow at h ⊢
  rw [h1]
  exact ⟨gAll_cg h1 h2 h.1, h.2⟩
theorem rAct_cg {M N : jM} (h : nK M N) (hA : rAct M) : rAct N := by
  unfold rAct at hA ⊢
  rw [h.2 20 (by decide)]
  exact ⟨hA.1, fun i a b => rRow_cg (h.1 85 (by decide) (by decide) (by decide)) (h.1 86 (by decide) (by decide) (by decide)) (hA.2 i a b)⟩
theorem rB_nK {M N : jM} (h : nK M N) (i hh m d : Int) : rB N i hh m d = rB M i hh m d := by
  unfold rB
  rw [tPre_cg (h.1 85 (by decide) (by decide) (by decide)) (h.1 86 (by decide) (by decide) (by decide)), h.1 85 (by decide) (by decide) (by decide), h.1 83 (by decide) (by decide) (by decide), h.1 82 (by decide) (by decide) (by decide), h.1 80 (by decide) (by decide) (by decide), h.1 76 (by decide) (by decide) (by decide)]
def rD (M : jM) (h m d w s : Int) (n : Nat) : Int :=
  eFold (decide (w = 0 ∨ w = 2 ∨ w = 4)) (fun k => decide (s < rB M k h m d ∧ ¬ M 85 (20 * k + 6 + w) = -9)) (fun k => M 85 (20 * k + 6 + w)) (if w = 0 then fCustom (M 80 h) (M 81 h) (M 82 h) else if w = 2 ∨ w = 4 then 1440 else 0) n
theorem rD_nK {M N : jM} (h : nK M N) (hh m d w s : Int) (n : Nat) : rD N hh m d w s n = rD M hh m d w s n := by
  unfold rD
  rw [h.1 85 (by decide) (by decide) (by decide), h.1 82 (by decide) (by decide) (by decide), h.1 81 (by decide) (by decide) (by decide), h.1 80 (by decide) (by decide) (by decide), show (fun k => decide (s < rB N k hh m d ∧ ¬ M 85 (20 * k + 6 + w) = -9)) = (fun k => decide (s < rB M k hh m d ∧ ¬ M 85 (20 * k + 6 + w) = -9)) from funext (fun k => by rw [rB_nK h])]
def rWhy (M : jM) (h m d w s v : Int) (n : Nat) : Int :=
  eWhy (fun k => decide (s < rB M k h m d)) (fun k => M 85 (20 * k + 6 + w)) (fun k => M 85 (20 * k)) v n
def rQ (M : jM) (h m d a b : Int) : Prop :=
  ¬ M 85 (20 * a + 7) = -9 ∧ ¬ M 85 (20 * b + 7) = -9 ∧ (M 85 (20 * b + 8) ≤ M 85 (20 * a + 7) ∨ M 85 (20 * a + 8) ≤ M 85 (20 * b + 7)) ∧ rB M a h m d = 2 ∧ rB M b h m d = 2
