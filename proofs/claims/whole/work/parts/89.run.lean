/-! ===== a text, read: RULES and strikes ===== -/
abbrev pRw := Int × Int × Int × Int × (Int → Int) × Nat × List (Int × Int)
abbrev pSt := Int × Int × (Int → pRw)
/-- the first j < n with g j = v -/
def pFi (g : Int → Int) (v : Int) : Nat → Int
  | 0 => -9
  | n + 1 => if 0 ≤ pFi g v n then pFi g v n else if g n = v then n else -9
theorem pFi_sp (g : Int → Int) (v : Int) : ∀ n : Nat, (pFi g v n = -9 ∧ ∀ j : Int, 0 ≤ j → j < n → ¬ g j = v) ∨ ((0 ≤ pFi g v n ∧ pFi g v n < n) ∧ g (pFi g v n) = v ∧ ∀ j : Int, 0 ≤ j → j < pFi g v n → ¬ g j = v)
  | 0 => Or.inl ⟨rfl, fun j a c => by omega⟩
  | n + 1 => by
    rcases pFi_sp g v n with ⟨h1, h2⟩ | ⟨h1, h2, h3⟩
    · by_cases z : g n = v
      · have e : pFi g v (n + 1) = n := by rw [pFi, if_neg (by omega), if_pos z]
        rw [e]
        exact Or.inr ⟨⟨by omega, by omega⟩, z, h2⟩
      · have e : pFi g v (n + 1) = -9 := by rw [pFi, if_neg (by omega), if_neg z]
        rw [e]
        refine Or.inl ⟨rfl, fun j a c => ?_⟩
        by_cases y : j = n
        · rw [y]; exact z
        · exact h2 j a (by omega)
    · have e : pFi g v (n + 1) = pFi g v n := by rw [pFi, if_pos h1.1]
      rw [e]
      exact Or.inr ⟨⟨h1.1, by omega⟩, h2, h3⟩
def pFd (b : Int → Int) (R : Int → pRw) (n q : Int) : Int := if lK b q = 2 then pFi (fun j => (R j).1) (lV b q) n.toNat else -9
theorem pFd_sp (b : Int → Int) (R : Int → pRw) {n : Int} (q : Int) (hn : 0 ≤ n) : (pFd b R n q = -9 ∧ (lK b q = 2 → ∀ j : Int, 0 ≤ j → j < n → ¬ (R j).1 = lV b q)) ∨ ((0 ≤ pFd b R n q ∧ pFd b R n q < n) ∧ lK b q = 2 ∧ (R (pFd b R n q)).1 = lV b q ∧ ∀ j : Int, 0 ≤ j → j < pFd b R n q → ¬ (R j).1 = lV b q) := by
  unfold pFd
  by_cases k : lK b q = 2
  · rw [if_pos k]
    rcases pFi_sp (fun j => (R j).1) (lV b q) n.toNat with ⟨h1, h2⟩ | ⟨h1, h2, h3⟩
    · exact Or.inl ⟨h1, fun _ j a c => h2 j a (by omega)⟩
    · exact Or.inr ⟨⟨h1.1, by omega⟩, k, h2, h3⟩
  · rw [if_neg k]
    exact Or.inl ⟨rfl, fun z => absurd z k⟩
abbrev pIq (b : Int → Int) (q : Int) : Int × List (Int × Int) := pIf b (pH6 b q)
abbrev pDq (b : Int → Int) (q : Int) : Int × (Int → Int) × Nat := pDu b 4 (pIq b q).1 (fun _ => -9) 0
def pNew (b : Int → Int) (q : Int) : pRw := (nV b 1 99 q, pHf b q, pHl b q, -9, (pDq b q).2.1, (pDq b q).2.2, (pIq b q).2)
def pStk (x : pRw) (d : Int) : pRw := (x.1, x.2.1, x.2.2.1, (if x.2.2.2.1 = -9 ∨ d < x.2.2.2.1 then d else x.2.2.2.1), x.2.2.2.2)
def pRl (b : Int → Int) (A : pSt) : pSt :=
  if A.2.1 = 16 then (fl A.1, A.2)
  else if 0 ≤ pFd b A.2.2 A.2.1 (lNx b A.1) then (fl (lNx b A.1), A.2)
  else if pH6 b (lNx b A.1) < 0 then (pH6 b (lNx b A.1), A.2)
  else if (pIq b (lNx b A.1)).1 < 0 then ((pIq b (lNx b A.1)).1, A.2)
  else if (pDq b (lNx b A.1)).1 < 0 then ((pDq b (lNx b A.1)).1, A.2)
  else ((pDq b (lNx b A.1)).1, A.2.1 + 1, fun j => if j = A.2.1 then pNew b (lNx b A.1) else A.2.2 j)
def pSk (b : Int → Int) (A : pSt) : pSt :=
  if pFd b A.2.2 A.2.1 (lNx b A.1) < 0 then (fl (lNx b A.1), A.2)
  else if pK4 b (lNx b A.1) < 0 then (pK4 b (lNx b A.1), A.2)
  else (pK4 b (lNx b A.1), A.2.1, fun j => if j = pFd b A.2.2 A.2.1 (lNx b A.1) then pStk (A.2.2 j) (pKd b (lNx b A.1)) else A.2.2 j)
def pStp (b : Int → Int) (A : pSt) : pSt := if lK b A.1 = 1 ∧ lV b A.1 = 0 then pRl b A else if lK b A.1 = 1 ∧ lV b A.1 = 4 then pSk b A else (fl A.1, A.2)
def pRun (b : Int → Int) : Nat → pSt → pSt
  | 0, A => A
  | k + 1, A => if A.1 < 0 ∨ lK b A.1 = 0 then A else pRun b k (pStp b A)
theorem pRun_e {b : Int → Int} {A : pSt} (k : Nat) (h : A.1 < 0 ∨ lK b A.1 = 0) : pRun b k A = A := by
  cases k with
  | zero => rfl
  | succ k => rw [pRun, if_pos h]
theorem pRun_s {b : Int → Int} {A : pSt} {k : Nat} (h : ¬ (A.1 < 0 ∨ lK b A.1 = 0)) (hk : 1 ≤ k) : pRun b k A = pRun b (k - 1) (pStp b A) := by
  cases k with
  | zero => omega
  | succ k => rw [pRun, if_neg h]; rfl
/-! what a step keeps -/
def wRw (x : pRw) : Prop := (1 ≤ x.1 ∧ x.1 ≤ 99) ∧ tOk x.2.2.2.2.1 ∧ (x.2.2.2.2.2.2 = [] ∨ ∃ p, gWf x.2.2.2.2.2.2 false 0 p) ∧ (x.2.2.2.2.2.2.length : Int) ≤ 900
def pWf (n : Int) (A : pSt) : Prop := A.1 < 0 ∨ (A.1 ≤ n ∧ (0 ≤ A.2.1 ∧ A.2.1 ≤ 16) ∧ ∀ j, 0 ≤ j → j < A.2.1 → wRw (A.2.2 j))
theorem pH6_in {b : Int → Int} {n q : Int} (hb : bOk b n) (h0 : 0 ≤ q) (h1 : q ≤ n) : pH6 b q < 0 ∨ ((q < pH6 b q ∧ pH6 b q ≤ n) ∧ (1 ≤ nV b 1 99 q ∧ nV b 1 99 q ≤ 99)) := by
  rcases tkN_in hb 1 99 h1 with z | ⟨_, z | z⟩
  · omega
  · exact Or.inl (pHb_1 (y := -1 - pH1 b q) ⟨z.1, rfl⟩).1
  · have e1 : pH1 b q = tkN b 1 99 q := rfl
    rcases tkW_in hb 1 (s := pH1 b q) (by omega) with y | ⟨_, y | y⟩
    · omega
    · exact Or.inl (pHb_2 (y := -1 - pH2 b q) ⟨y.1, rfl⟩).1
    · have e2 : pH2 b q = tkW b 1 (pH1 b q) := rfl
      rcases tkN_in hb 0 359 (s := pH2 b q) (by omega) with x | ⟨_, x | x⟩
      · omega
      · exact Or.inl (pHb_3 (y := -1 - pH3 b q) ⟨x.1, rfl⟩).1
      · have e3 : pH3 b q = tkN b 0 359 (pH2 b q) := rfl
        rcases tkS_in hb 45 (s := pH3 b q) (by omega) with w | ⟨_, w | w⟩
        · omega
        · exact Or.inl (pHb_4 (y := -1 - pH4 b q) ⟨w.1, rfl⟩).1
        · have e4 : pH4 b q = tkS b 45 (pH3 b q) := rfl
          rcases tkN_in hb (pHf b q) 359 (s := pH4 b q) (by omega) with v | ⟨_, v | v⟩
          · omega
          · exact Or.inl (pHb_5 (y := -1 - pH5 b q) ⟨v.1, rfl⟩).1
          · have e5 : pH5 b q = tkN b (pHf b q) 359 (pH4 b q) := rfl
            rcases tkS_in hb 58 (s := pH5 b q) (by omega) with u | ⟨_, u | u⟩
            · omega
            · exact Or.inl u.1
            · have e6 : pH6 b q = tkS b 58 (pH5 b q) := rfl
              exact Or.inr ⟨⟨by omega, by omega⟩, by omega, by omega⟩
theorem pIf_in {b : Int → Int} {n q : Int} (hb : bOk b n) (h0 : 0 ≤ q) (h1 : q ≤ n) : (pIf b q).1 < 0 ∨ ((q ≤ (pIf b q).1 ∧ (pIf b q).1 ≤ n) ∧ ((pIf b q).2 = [] ∨ ∃ p, gWf (pIf b q).2 false 0 p) ∧ ((pIf b q).2.length : Int) + q ≤ (pIf b q).1) := by
  unfold pIf
  by_cases c : lK b q = 1 ∧ lV b q = 2
  · rw [if_pos c]
    have nx := lNx_lt hb h0 h1 (by omega)
    rcases pCd_in hb 901 (lNx b q) [] true 0 0 (by omega) nx.2 ⟨rfl, rfl, rfl⟩ with z | ⟨z1, z2, z3, p, z4⟩
    · left
      show tkW b 3 _ < 0
      rw [tkW_neg z]; exact z
    · simp only [List.length_nil] at z3
      rcases tkW_in hb 3 z2 with y | ⟨_, y | y⟩
      · omega
      · exact Or.inl y.1
      · refine Or.inr ⟨⟨?_, y.2.1⟩, Or.inr ⟨p, z4⟩, ?_⟩
        · show q ≤ tkW b 3 _; omega
        · show ((pCd b 901 (lNx b q) [] true 0 0).2.length : Int) + q ≤ tkW b 3 _; omega
  · rw [if_neg c]
    exact Or.inr ⟨⟨Int.le_refl _, h1⟩, Or.inl rfl, by show (([] : List (Int × Int)).length : Int) + q ≤ q; simp⟩
theorem pK4_in {b : Int → Int} {n q : Int} (hb : bOk b n) (h0 : 0 ≤ q) (h1 : q ≤ n) : pK4 b q < 0 ∨ (q < pK4 b q ∧ pK4 b q ≤ n) := by
  have nx := lNx_in hb h0 h1
  rcases tkW_in hb 1 (s := lNx b q) nx.2.1 with y | ⟨_, y | y⟩
  · omega
  · exact Or.inl (pKb_2 (y := -1 - pK2 b q) ⟨y.1, rfl⟩).1
  · have e2 : pK2 b q = tkW b 1 (lNx b q) := rfl
    rcases tkN_in hb 0 359 (s := pK2 b q) (by omega) with x | ⟨_, x | x⟩
    · omega
    · exact Or.inl (pKb_3 (y := -1 - pK3 b q) ⟨x.1, rfl⟩).1
    · have e3 : pK3 b q = tkN b 0 359 (pK2 b q) := rfl
      rcases tkS_in hb 59 (s := pK3 b q) (by omega) with w | ⟨_, w | w⟩
      · omega
      · exact Or.inl w.1
      · have e4 : pK4 b q = tkS b 59 (pK3 b q) := rfl
        exact Or.inr ⟨by omega, by omega⟩
theorem pStp_wf {b : Int → Int} {n : Int} {A : pSt} (hb : bOk b n) (h0 : 0 ≤ A.1) (hw : pWf n A) (hk : ¬ lK b A.1 = 0) : pWf n (pStp b A) ∧ ((pStp b A).1 < 0 ∨ A.1 < (pStp b A).1) := by
  have neg : ∀ x : Int, x < 0 → ∀ Y, pWf n (x, Y) ∧ ((x, Y).1 < 0 ∨ A.1 < (x, Y).1) := fun x hx Y => ⟨Or.inl hx, Or.inl hx⟩
  rcases hw with hw | ⟨hs, hn, hr⟩
  · omega
  have nx := lNx_lt hb h0 hs hk
  unfold pStp
  by_cases c1 : lK b A.1 = 1 ∧ lV b A.1 = 0
  · rw [if_pos c1]
    unfold pRl
    by_cases c2 : A.2.1 = 16
    · rw [if_pos c2]; exact neg _ (fl_neg h0) _
    · rw [if_neg c2]
      by_cases c3 : 0 ≤ pFd b A.2.2 A.2.1 (lNx b A.1)
      · rw [if_pos c3]; exact neg _ (fl_neg (by omega)) _
      · rw [if_neg c3]
        rcases pH6_in hb (show 0 ≤ lNx b A.1 by omega) nx.2 with z | ⟨z, z9⟩
        · rw [if_pos z]; exact neg _ z _
        · rw [if_neg (by omega)]
          rcases pIf_in hb (show 0 ≤ pH6 b (lNx b A.1) by omega) z.2 with y | ⟨y, y2, y3⟩
          · rw [if_pos y]; exact neg _ y _
          · rw [if_neg (show ¬ (pIf b (pH6 b (lNx b A.1))).1 < 0 by omega)]
            rcases pDu_in hb 4 (pIf b (pH6 b (lNx b A.1))).1 (fun _ => -9) 0 (by omega) y.2 tOk_0 with x | ⟨x, x2, x3⟩
            · rw [if_pos x]; exact neg _ x _
            · rw [if_neg (show ¬ (pDu b 4 (pIf b (pH6 b (lNx b A.1))).1 (fun _ => -9) 0).1 < 0 by omega)]
              refine ⟨Or.inr ⟨x.2, ⟨?_, ?_⟩, fun j a c => ?_⟩, Or.inr ?_⟩
              · show 0 ≤ A.2.1 + 1; omega
              · show A.2.1 + 1 ≤ 16; omega
              · show wRw (if j = A.2.1 then pNew b (lNx b A.1) else A.2.2 j)
                by_cases e : j = A.2.1
                · rw [if_pos e]
                  exact ⟨z9, x2, y2, by have := hb.1; show ((pIf b (pH6 b (lNx b A.1))).2.length : Int) ≤ 900; omega⟩
                · rw [if_neg e]
                  have c' : j < A.2.1 + 1 := c
                  exact hr j a (by omega)
              · show A.1 < (pDu b 4 (pIf b (pH6 b (lNx b A.1))).1 (fun _ => -9) 0).1; omega
  · rw [if_neg c1]
    by_cases c2 : lK b A.1 = 1 ∧ lV b A.1 = 4
    · rw [if_pos c2]
      unfold pSk
      by_cases c3 : pFd b A.2.2 A.2.1 (lNx b A.1) < 0
      · rw [if_pos c3]; exact neg _ (fl_neg (by omega)) _
      · rw [if_neg c3]
        rcases pK4_in hb (show 0 ≤ lNx b A.1 by omega) nx.2 with z | z
        · rw [if_pos z]; exact neg _ z _
        · rw [if_neg (by omega)]
          refine ⟨Or.inr ⟨z.2, hn, fun j a c => ?_⟩, Or.inr (by show A.1 < pK4 b (lNx b A.1); omega)⟩
          show wRw (if j = pFd b A.2.2 A.2.1 (lNx b A.1) then pStk (A.2.2 j) (pKd b (lNx b A.1)) else A.2.2 j)
          have g := hr j a c
          by_cases e : j = pFd b A.2.2 A.2.1 (lNx b A.1)
          · rw [if_pos e]
            exact ⟨g.1, g.2.1, g.2.2.1, g.2.2.2⟩
          · rw [if_neg e]; exact g
    · rw [if_neg c2]; exact neg _ (fl_neg h0) _
def pR0 : Int → pRw := fun _ => (0, 0, 0, 0, fun _ => -9, 0, [])
def pTxt (b : Int → Int) : pSt := pRun b 901 (lSk b 0, 0, pR0)
/-! the steps, case by case -/
theorem pS_16 {b : Int → Int} {A : pSt} (k : lK b A.1 = 1 ∧ lV b A.1 = 0) (h : A.2.1 = 16) : pStp b A = (fl A.1, A.2) := by unfold pStp pRl; rw [if_pos k, if_pos h]
theorem pS_d {b : Int → Int} {A : pSt} (k : lK b A.1 = 1 ∧ lV b A.1 = 0) (h : ¬ A.2.1 = 16) (h2 : 0 ≤ pFd b A.2.2 A.2.1 (lNx b A.1)) : pStp b A = (fl (lNx b A.1), A.2) := by unfold pStp pRl; rw [if_pos k, if_neg h, if_pos h2]
theorem pS_h {b : Int → Int} {A : pSt} (k : lK b A.1 = 1 ∧ lV b A.1 = 0) (h : ¬ A.2.1 = 16) (h2 : pFd b A.2.2 A.2.1 (lNx b A.1) < 0) (h3 : pH6 b (lNx b A.1) < 0) : pStp b A = (pH6 b (lNx b A.1), A.2) := by unfold pStp pRl; rw [if_pos k, if_neg h, if_neg (by omega), if_pos h3]
theorem pS_i {b : Int → Int} {A : pSt} (k : lK b A.1 = 1 ∧ lV b A.1 = 0) (h : ¬ A.2.1 = 16) (h2 : pFd b A.2.2 A.2.1 (lNx b A.1) < 0) (h3 : 0 ≤ pH6 b (lNx b A.1)) (h4 : (pIf b (pH6 b (lNx b A.1))).1 < 0) : pStp b A = ((pIf b (pH6 b (lNx b A.1))).1, A.2) := by unfold pStp pRl; rw [if_pos k, if_neg h, if_neg (by omega), if_neg (by omega), if_pos h4]
theorem pS_u {b : Int → Int} {A : pSt} (k : lK b A.1 = 1 ∧ lV b A.1 = 0) (h : ¬ A.2.1 = 16) (h2 : pFd b A.2.2 A.2.1 (lNx b A.1) < 0) (h3 : 0 ≤ pH6 b (lNx b A.1)) (h4 : 0 ≤ (pIf b (pH6 b (lNx b A.1))).1) (h5 : (pDq b (lNx b A.1)).1 < 0) : pStp b A = ((pDq b (lNx b A.1)).1, A.2) := by
  unfold pStp pRl; rw [if_pos k, if_neg h, if_neg (by omega), if_neg (by omega), if_neg (show ¬ (pIf b (pH6 b (lNx b A.1))).1 < 0 by omega), if_pos h5]
theorem pS_ok {b : Int → Int} {A : pSt} (k : lK b A.1 = 1 ∧ lV b A.1 = 0) (h : ¬ A.2.1 = 16) (h2 : pFd b A.2.2 A.2.1 (lNx b A.1) < 0) (h3 : 0 ≤ pH6 b (lNx b A.1)) (h4 : 0 ≤ (pIf b (pH6 b (lNx b A.1))).1) (h5 : 0 ≤ (pDq b (lNx b A.1)).1) : pStp b A = ((pDq b (lNx b A.1)).1, A.2.1 + 1, fun j => if j = A.2.1 then pNew b (lNx b A.1) else A.2.2 j) := by
  unfold pStp pRl; rw [if_pos k, if_neg h, if_neg (by omega), if_neg (by omega), if_neg (show ¬ (pIf b (pH6 b (lNx b A.1))).1 < 0 by omega), if_neg (show ¬ (pDq b (lNx b A.1)).1 < 0 by omega)]
theorem pS_sd {b : Int → Int} {A : pSt} (k : lK b A.1 = 1 ∧ lV b A.1 = 4) (h2 : pFd b A.2.2 A.2.1 (lNx b A.1) < 0) : pStp b A = (fl (lNx b A.1), A.2) := by unfold pStp pSk; rw [if_neg (by omega), if_pos k, if_pos h2]
theorem pS_sn {b : Int → Int} {A : pSt} (k : lK b A.1 = 1 ∧ lV b A.1 = 4) (h2 : 0 ≤ pFd b A.2.2 A.2.1 (lNx b A.1)) (h3 : pK4 b (lNx b A.1) < 0) : pStp b A = (pK4 b (lNx b A.1), A.2) := by unfold pStp pSk; rw [if_neg (by omega), if_pos k, if_neg (by omega), if_pos h3]
theorem pS_so {b : Int → Int} {A : pSt} (k : lK b A.1 = 1 ∧ lV b A.1 = 4) (h2 : 0 ≤ pFd b A.2.2 A.2.1 (lNx b A.1)) (h3 : 0 ≤ pK4 b (lNx b A.1)) : pStp b A = (pK4 b (lNx b A.1), A.2.1, fun j => if j = pFd b A.2.2 A.2.1 (lNx b A.1) then pStk (A.2.2 j) (pKd b (lNx b A.1)) else A.2.2 j) := by
  unfold pStp pSk; rw [if_neg (by omega), if_pos k, if_neg (by omega), if_neg (by omega)]
theorem pS_x {b : Int → Int} {A : pSt} (k : ¬ (lK b A.1 = 1 ∧ lV b A.1 = 0)) (k2 : ¬ (lK b A.1 = 1 ∧ lV b A.1 = 4)) : pStp b A = (fl A.1, A.2) := by unfold pStp; rw [if_neg k, if_neg k2]
/-- where the run stands -/
def pAt (b : Int → Int) (n : Int) (A Z : pSt) : Prop := (∃ k : Nat, pRun b k A = Z ∧ (A.1 < 0 ∨ 901 ≤ (k : Int) + A.1)) ∧ pWf n A
theorem pAt_end {b : Int → Int} {n : Int} {A Z : pSt} (h : pAt b n A Z) (he : A.1 < 0 ∨ lK b A.1 = 0) : Z = A := by
  obtain ⟨⟨k, h1, _⟩, _⟩ := h
  rw [← h1]
  exact pRun_e k he
theorem pAt_s {b : Int → Int} {n : Int} {A Z : pSt} (hb : bOk b n) (h : pAt b n A Z) (h0 : 0 ≤ A.1) (hk : ¬ lK b A.1 = 0) : pAt b n (pStp b A) Z ∧ ((pStp b A).1 < 0 ∨ A.1 < (pStp b A).1) := by
  obtain ⟨⟨k, h1, h2⟩, h3⟩ := h
  have w := pStp_wf hb h0 h3 hk
  have hn := hb.1
  have hs : A.1 ≤ n := by
    rcases h3 with z | z
    · omega
    · exact z.1
  refine ⟨⟨⟨k - 1, ?_, ?_⟩, w.1⟩, w.2⟩
  · rw [← pRun_s (by omega) (by omega)]
    exact h1
  · have := w.2
    omega
theorem pAt_0 {b : Int → Int} {n : Int} (hb : bOk b n) : pAt b n (lSk b 0, 0, pR0) (pTxt b) := by
  have g : 0 ≤ lSk b 0 ∧ lSk b 0 ≤ n := skp_in hb 1000 hb.1.1
  exact ⟨⟨901, rfl, Or.inr (by show (901 : Int) ≤ ((901 : Nat) : Int) + lSk b 0; omega)⟩, Or.inr ⟨g.2, ⟨Int.le_refl _, by show (0 : Int) ≤ 16; decide⟩, fun j a c => by have c' : j < 0 := c; omega⟩⟩
