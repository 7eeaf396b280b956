/-! ===== the ACT in force: both sides by one text that was read ===== -/
def tzOk (Z : pSt) : Prop := (0 ≤ Z.1 ∧ Z.1 ≤ 900) ∧ (0 ≤ Z.2.1 ∧ Z.2.1 ≤ 16) ∧ ∀ j, 0 ≤ j → j < Z.2.1 → wRw (Z.2.2 j)
theorem tz_run {b : Int → Int} {n : Int} (hb : bOk b n) : ∀ (k : Nat) (A : pSt), pWf n A → pWf n (pRun b k A)
  | 0, A, h => h
  | k + 1, A, h => by
    rw [pRun]
    split
    · exact h
    · rename_i z
      exact tz_run hb k _ (pStp_wf hb (by omega) h (fun y => z (Or.inr y))).1
theorem tz_txt {b : Int → Int} {n : Int} (hb : bOk b n) (h : 0 ≤ (pTxt b).1) : tzOk (pTxt b) := by
  have w : pWf n (pTxt b) := tz_run hb 901 _ (pAt_0 hb).2
  have hn := hb.1
  rcases w with w | ⟨w1, w2, w3⟩
  · omega
  · exact ⟨⟨h, by omega⟩, w2, w3⟩
/-- steps of a COND lie in 0 .. 109999 -/
def tzS (Z : List Int × List Int) : Prop := (∀ x ∈ Z.1, 0 ≤ x ∧ x ≤ 3) ∧ ∀ x ∈ Z.2, 0 ≤ x ∧ x < 110000
theorem tzS_rel (p : Int) : ∀ (W O : List Int), tzS (W, O) → tzS (cRel p W O)
  | [], O, h => h
  | x :: W, O, h => by
    rw [cRel]
    split
    · refine tzS_rel p W _ ⟨fun y hy => h.1 y (List.mem_cons_of_mem _ hy), fun y hy => ?_⟩
      rcases List.mem_append.mp hy with z | z
      · exact h.2 y z
      · have hx := h.1 x List.mem_cons_self
        rw [List.mem_singleton.mp z]
        omega
    · exact h
theorem tzS_cons {x : Int} {Z : List Int × List Int} (hx : 0 ≤ x ∧ x ≤ 3) (h : tzS Z) : tzS (x :: Z.1, Z.2) :=
  ⟨fun y hy => by
    rcases List.mem_cons.mp hy with z | z
    · rw [z]; exact hx
    · exact h.1 y z, h.2⟩
theorem tzS_tail {Z : List Int × List Int} (h : tzS Z) : tzS (Z.1.tail, Z.2) := ⟨fun y hy => h.1 y (List.mem_of_mem_tail hy), h.2⟩
theorem tzS_all : ∀ (r : List (Int × Int)) (w : Bool) (o p : Nat), gWf r w o p → tzS (cAllT r.reverse)
  | [], _, _, _, _ => ⟨fun x hx => by simp [cAllT] at hx, fun x hx => by simp [cAllT] at hx⟩
  | t :: r, w, o, p, hg => by
    rw [cAllT_s]
    have key : tzS (cAllT r.reverse) := by
      obtain ⟨w', o', p', g⟩ := gWf_tl hg
      exact tzS_all r w' o' p' g
    unfold cTok
    rcases hg with ⟨c, _⟩ | ⟨c, _⟩ | ⟨c, _⟩ | ⟨c, _⟩ | ⟨c, c2, _⟩
    · rw [if_pos c]; exact tzS_cons (by omega) key
    · rw [if_neg (by omega), if_pos c]; exact tzS_cons (by omega) key
    · rcases c with c | c
      · rw [if_neg (by omega), if_neg (by omega), if_pos c]; exact tzS_cons (by omega) (tzS_rel 2 _ _ key)
      · rw [if_neg (by omega), if_neg (by omega), if_neg (by omega), if_pos c]; exact tzS_cons (by omega) (tzS_rel 1 _ _ key)
    · rw [if_neg (by omega), if_neg (by omega), if_neg (by omega), if_neg (by omega), if_pos c]
      exact tzS_rel 3 _ _ (tzS_tail (tzS_rel 1 _ _ key))
    · rw [if_neg (by omega), if_neg (by omega), if_neg (by omega), if_neg (by omega), if_neg (by omega)]
      refine tzS_rel 3 _ _ ⟨key.1, fun y hy => ?_⟩
      rcases List.mem_append.mp hy with z | z
      · exact key.2 y z
      · rw [List.mem_singleton.mp z]
        omega
theorem tzS_out {r : List (Int × Int)} (h : r = [] ∨ ∃ p, gWf r false 0 p) : ∀ x ∈ cOut r.reverse, 0 ≤ x ∧ x < 110000 := by
  rcases h with rfl | ⟨p, h⟩
  · intro x hx
    have e : cOut ([] : List (Int × Int)).reverse = [] := rfl
    rw [e] at hx
    cases hx
  · exact (tzS_rel 1 _ _ (tzS_all r _ _ _ h)).2
theorem sPre_mem {g : Int → Int} {a k : Int} {n : Nat} (h0 : a ≤ k) (h1 : k < a + n) : g k ∈ sPre g a n := by
  unfold sPre
  refine List.mem_map.mpr ⟨(k - a).toNat, List.mem_range.mpr (by omega), ?_⟩
  congr 1
  omega
theorem tz_cAct {f : Int} {M : jM} {Z : pSt} (hz : tzOk Z) (h : cAr f M Z) : cAct M f := by
  obtain ⟨h0, h1, h2⟩ := h
  obtain ⟨z0, z1, z2⟩ := hz
  refine ⟨by omega, fun i a b => ?_, fun i a b => ?_⟩
  · obtain ⟨_, _, r3, r4⟩ := h2 i a (by omega)
    have w := (z2 i a (by omega)).2.2.1
    refine ⟨by omega, fun k k0 k1 => ?_⟩
    apply tzS_out w
    rw [← r4]
    exact sPre_mem k0 (by omega)
  · have r := (h2 i a (by omega)).1.1
    have w := (z2 i a (by omega)).1
    omega
theorem tz_tok {M : jM} {i : Int} {x : pRw} (hw : wRw x) (h : rIr M i x) : x.2.2.2.2.2.2 = [] ∨ (tEq (tPre M i x.2.2.2.2.2.2.length).reverse x.2.2.2.2.2.2 ∧ (∃ p, gWf x.2.2.2.2.2.2 false 0 p) ∧ 0 ≤ M 85 (20 * i + 13) ∧ M 85 (20 * i + 13) ≤ 900) := by
  obtain ⟨_, _, h3⟩ := h
  rcases hw.2.2.1 with z | z
  · exact Or.inl z
  · rcases h3 with y | ⟨y1, y2, y⟩
    · exact Or.inl y
    · exact Or.inr ⟨rTks_tEq rfl _ y, z, y1, by omega⟩
theorem tz_len {M : jM} {i : Int} {x : pRw} (h : rIr M i x) : (M 85 (20 * i + 4)).toNat = x.2.2.2.2.2.2.length := by
  rw [h.1.2.2.2.2.1]; exact Int.toNat_natCast _
theorem tz_out {M : jM} {i : Int} {x : pRw} (hw : wRw x) (h : rIr M i x) : cOut (tPre M i (M 85 (20 * i + 4)).toNat) = cOut x.2.2.2.2.2.2.reverse := by
  rw [tz_len h]
  rcases tz_tok hw h with z | ⟨z, ⟨p, y⟩, _⟩
  · rw [z]; rfl
  · have := tEq_all z y
    rw [List.reverse_reverse] at this
    unfold cOut
    rw [this]
theorem tz_rAct {M : jM} {Z : pSt} (hz : tzOk Z) (h : rIn M Z) : rAct M := by
  obtain ⟨h0, h2⟩ := h
  obtain ⟨z0, z1, z2⟩ := hz
  refine ⟨by omega, fun i a b => ?_⟩
  have r := h2 i a (by omega)
  have w := z2 i a (by omega)
  have t := tz_tok w r
  have l := tz_len r
  have l2 := r.1.2.2.2.2.1
  have w9 := w.2.2.2
  refine ⟨⟨by omega, fun q => ?_, ?_⟩, by rw [r.1.1]; exact w.1, fun k k0 k1 => by rw [r.2.1 k k0 k1]; exact w.2.1.1 k k0 k1⟩
  · rcases t with t | t
    · rw [t] at l2; simp at l2; omega
    · omega
  · rcases t with t | ⟨t1, ⟨p, t2⟩, _⟩
    · left; rw [l2, t]; rfl
    · right; exact ⟨p, by rw [l]; exact tEq_wf t1 t2⟩
theorem gl_mem : ∀ (V : List Int) (a : Int), V.getLastD a ∈ a :: V
  | [], a => by simp
  | b :: V, a => by rw [List.getLastD_cons]; exact List.mem_cons_of_mem _ (gl_mem V b)
theorem vBot_in {V : List Int} (h : vIn V) : 0 ≤ vBot V ∧ vBot V ≤ 2 := by
  unfold vBot
  cases V with
  | nil => simp
  | cons a V =>
    rw [List.getLastD_cons]
    exact h _ (gl_mem V a)
theorem cB_in (M : jM) (f k h m d : Int) : 0 ≤ cB M f k h m d ∧ cB M f k h m d ≤ 2 := by
  unfold cB
  split
  · omega
  · exact vBot_in (rpn_vin (fun c n => eTest_in _ _ _ _ _ _ _ _) _).1
/-- what both sides hold of HANDS and MILLS, as far as an ACT asks -/
def tzH (M : jM) (h : Int) : Prop := (M 12 h = fBorn (M 83) (M 82) h 0 ∧ M 13 h = fBorn (M 83) (M 82) h 1) ∧ M 10 = M 80 ∧ M 2 = M 76 ∧ M 11 = M 82 ∧ M 15 = M 81
theorem tz_B {f : Int} {M : jM} {Z : pSt} {i h m d : Int} (hz : tzOk Z) (hc : cAr f M Z) (hr : rIn M Z) (hi : 0 ≤ i ∧ i < Z.2.1) (hb : tzH M h) : rB M i h m d = cB M f i h m d := by
  obtain ⟨⟨c1, c2, c3, c4, c5⟩, ct, _, cs⟩ := hc.2.2 i hi.1 hi.2
  have r := hr.2 i hi.1 hi.2
  have o := tz_out (hz.2.2 i hi.1 hi.2) r
  obtain ⟨⟨r1, r2, r3, r4, r5, r6⟩, rt, _⟩ := r
  obtain ⟨⟨b1, b2⟩, e10, e2, e11, _⟩ := hb
  unfold rB cB
  rw [o, cs, r2, r3, r4, c2, c3, c4, e10, e2, e11, b1, b2]
  unfold fAge
  by_cases q : d < (Z.2.2 i).2.1 ∨ (Z.2.2 i).2.2.1 < d ∨ (¬ (Z.2.2 i).2.2.2.1 = -9 ∧ (Z.2.2 i).2.2.2.1 ≤ d)
  · rw [if_pos q, if_pos (by omega)]
  · rw [if_neg q, if_neg (by omega)]
/-- a duty told, on both sides -/
theorem tz_t {f : Int} {M : jM} {Z : pSt} {k w : Int} (hz : tzOk Z) (hc : cAr f M Z) (hr : rIn M Z) (hi : 0 ≤ k ∧ k < Z.2.1) (hw : 0 ≤ w ∧ w ≤ 6) : (M 85 (20 * k + 6 + w) = -9 ∧ M (f + 6) (k * 7 + w) = -1) ∨ (¬ M 85 (20 * k + 6 + w) = -9 ∧ M (f + 6) (k * 7 + w) = M 85 (20 * k + 6 + w) ∧ 0 ≤ M (f + 6) (k * 7 + w) ∧ M (f + 6) (k * 7 + w) ≤ 1440) := by
  have c := (hc.2.2 k hi.1 hi.2).2.1 w hw.1 hw.2
  have r := (hr.2 k hi.1 hi.2).2.1 w hw.1 hw.2
  have t := (hz.2.2 k hi.1 hi.2).2.1.1 w hw.1 hw.2
  rw [r]
  omega
theorem fCustom_in {k g p : Int} (hk : 0 ≤ k ∧ k ≤ 5) (hg : 0 ≤ g ∧ g ≤ 3) (hp : 0 ≤ p ∧ p ≤ 3) : 0 ≤ fCustom k g p ∧ fCustom k g p ≤ 9999 := by
  unfold fCustom
  (repeat' split) <;> omega
theorem tz_D {f : Int} {M : jM} {Z : pSt} {h m d w s : Int} (hz : tzOk Z) (hc : cAr f M Z) (hr : rIn M Z) (hb : tzH M h) (hw : 0 ≤ w ∧ w ≤ 6) : cD M f h m d w (s + 1) (M f 0).toNat = rD M h m d w s (M 74 20).toNat := by
  rw [hc.1, hr.1]
  unfold cD rD
  have hb' := hb
  obtain ⟨_, e10, _, e11, e15⟩ := hb'
  refine eFold_cg (by rw [e10, e11, e15]) _ (fun k k0 k1 => ?_)
  have z1 := hz.2.1
  have t := tz_t hz hc hr ⟨k0, by omega⟩ hw
  rw [tz_B hz hc hr ⟨k0, by omega⟩ hb]
  refine ⟨?_, fun q => ?_⟩
  · apply decide_eq_decide.mpr
    omega
  · have := of_decide_eq_true q
    omega
theorem tz_Din {f : Int} {M : jM} {Z : pSt} {h m d w s : Int} (hz : tzOk Z) (hc : cAr f M Z) (hr : rIn M Z) (hw : 0 ≤ w ∧ w ≤ 6) (h1 : 0 ≤ M 10 h ∧ M 10 h ≤ 5) (h2 : 0 ≤ M 15 h ∧ M 15 h ≤ 3) (h3 : 0 ≤ M 11 h ∧ M 11 h ≤ 3) : 0 ≤ cD M f h m d w (s + 1) (M f 0).toNat := by
  rw [hc.1]
  unfold cD
  have z1 := hz.2.1
  refine (eFold_in ?_ _ (fun k k0 k1 q => ?_)).1
  · have := fCustom_in h1 h2 h3
    split
    · exact this
    · split <;> omega
  · have t := tz_t hz hc hr ⟨k0, by omega⟩ hw
    have := of_decide_eq_true q
    show 0 ≤ M (f + 6) (k * 7 + w) ∧ M (f + 6) (k * 7 + w) ≤ 9999
    omega
theorem tz_W {f : Int} {M : jM} {Z : pSt} {h m d w s v : Int} (hz : tzOk Z) (hc : cAr f M Z) (hr : rIn M Z) (hb : tzH M h) (hw : 0 ≤ w ∧ w ≤ 6) (hv : 0 ≤ v) : cW M f h m d w (s + 1) v (M f 0).toNat = rWhy M h m d w s v (M 74 20).toNat := by
  rw [hc.1, hr.1]
  unfold cW rWhy
  have z1 := hz.2.1
  refine eWhy_cg rfl _ (fun k k0 k1 => ⟨?_, ?_⟩)
  · have t := tz_t hz hc hr ⟨k0, by omega⟩ hw
    rw [tz_B hz hc hr ⟨k0, by omega⟩ hb]
    simp only [decide_eq_true_eq]
    omega
  · have a := (hc.2.2 k k0 (by omega)).1.1
    have b := (hr.2 k k0 (by omega)).1.1
    show M (f + 1) k = M 85 (20 * k)
    rw [a, b]
theorem tz_Q {f : Int} {M : jM} {Z : pSt} {h m d : Int} (hz : tzOk Z) (hc : cAr f M Z) (hr : rIn M Z) (hb : tzH M h) {r r' : Int} (h8 : qF (cQ M f h m d) (M (f + 1)) (M f 0) r) (h9 : qF (rQ M h m d) (fun k => M 85 (20 * k)) (M 74 20) r') : r = r' := by
  rw [hc.1] at h8
  rw [hr.1] at h9
  have one : ∀ k, 0 ≤ k → k < Z.2.1 → rB M k h m d = cB M f k h m d ∧ ((M 85 (20 * k + 7) = -9 ∧ M (f + 6) (k * 7 + 1) = -1 ∧ M 85 (20 * k + 8) = -9 ∧ M (f + 6) (k * 7 + 2) = -1) ∨ (¬ M 85 (20 * k + 7) = -9 ∧ ¬ M (f + 6) (k * 7 + 1) = -1 ∧ ¬ M (f + 6) (k * 7 + 2) = -1 ∧ M (f + 6) (k * 7 + 1) = M 85 (20 * k + 7) ∧ M (f + 6) (k * 7 + 2) = M 85 (20 * k + 8))) := by
    intro k k0 k1
    have t1 := tz_t hz hc hr ⟨k0, k1⟩ (show (0 : Int) ≤ 1 ∧ (1 : Int) ≤ 6 by omega)
    have t2 := tz_t hz hc hr ⟨k0, k1⟩ (show (0 : Int) ≤ 2 ∧ (2 : Int) ≤ 6 by omega)
    have r1 := (hr.2 k k0 k1).2.1 1 (by omega) (by omega)
    have r2 := (hr.2 k k0 k1).2.1 2 (by omega) (by omega)
    have w := (hz.2.2 k k0 k1).2.1.2
    rw [← r1, ← r2] at w
    rw [show 20 * k + 6 + 1 = 20 * k + 7 by omega] at t1 w
    rw [show 20 * k + 6 + 2 = 20 * k + 8 by omega] at t2 w
    refine ⟨tz_B hz hc hr ⟨k0, k1⟩ hb, ?_⟩
    omega
  refine qF_u (fun a b a0 ab bn => ?_) (fun a a0 a1 => ?_) h8 h9
  · have A := one a a0 (by omega)
    have B := one b (by omega) bn
    have ca := cB_in M f a h m d
    have cb := cB_in M f b h m d
    unfold cQ cQ1 rQ
    rw [A.1, B.1]
    have A2 := A.2
    have B2 := B.2
    omega
  · show M (f + 1) a = M 85 (20 * a)
    rw [(hc.2.2 a a0 a1).1.1, (hr.2 a a0 a1).1.1]
