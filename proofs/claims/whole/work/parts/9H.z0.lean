/-! ===== the class's cells when they are new ===== -/
def z0 (c k : Int) : Int := if c = 29 then (if 0 ≤ k ∧ k < 6 then 90 else 0) else if c = 30 then (if 0 ≤ k ∧ k < 6 then 1 else 0) else if c = 38 then (if 0 ≤ k ∧ k < 6 then 20 * k + 20 else 0) else if c = 45 then (if 0 ≤ k ∧ k < 81 then rdV k else 0) else 0
def zRn (M N : jM) (b : Int) : Prop := N 0 = M 0 ∧ ∀ c k, 1 ≤ c → c < b → N c k = z0 c k
theorem z0_0 {c k : Int} (h1 : c ≠ 29) (h2 : c ≠ 30) (h3 : c ≠ 38) (h4 : c ≠ 45) : z0 c k = 0 := by unfold z0; rw [if_neg h1, if_neg h2, if_neg h3, if_neg h4]
theorem zRn_0 (M : jM) : zRn M M 1 := ⟨rfl, fun c k a b => by omega⟩
theorem zRn_z {M N : jM} {b b' : Int} (h : zRn M N b) (hb : 1 ≤ b ∧ b ≠ 29 ∧ b ≠ 30 ∧ b ≠ 38 ∧ b ≠ 45) (e : b + 1 = b') : zRn M (jz N b) b' := by
  refine ⟨by rw [jz_ne (by omega)]; exact h.1, fun c k c1 c2 => ?_⟩
  by_cases q : c = b
  · rw [q, jz_at, z0_0 hb.2.1 hb.2.2.1 hb.2.2.2.1 hb.2.2.2.2]
  · rw [jz_ne q]; exact h.2 c k c1 (by omega)
theorem jzr_in {M : jM} {a b c k : Int} (h : a ≤ c ∧ c < b) : jzr M a b c k = 0 := by unfold jzr; rw [if_pos h]
theorem jzr_out {M : jM} {a b c : Int} (h : ¬ (a ≤ c ∧ c < b)) : jzr M a b c = M c := by funext k; unfold jzr; rw [if_neg h]
theorem zRn_r {M N : jM} {b b' : Int} (h : zRn M N b) (h1 : 1 ≤ b) (hs : (b' ≤ 29 ∨ 30 < b) ∧ (b' ≤ 38 ∨ 38 < b) ∧ (b' ≤ 45 ∨ 45 < b)) : zRn M (jzr N b b') b' := by
  refine ⟨by rw [jzr_out (by omega)]; exact h.1, fun c k c1 c2 => ?_⟩
  by_cases q : b ≤ c
  · rw [jzr_in ⟨q, c2⟩, z0_0 (by omega) (by omega) (by omega) (by omega)]
  · rw [jzr_out (by omega)]; exact h.2 c k c1 (by omega)
theorem zRn_7 {M N O : jM} (h : zRn M N 29) (hp : (∀ k, O 29 k = if 0 ≤ k ∧ k < 6 then 90 else 0) ∧ (∀ k, O 30 k = if 0 ≤ k ∧ k < 6 then 1 else 0) ∧ ∀ c, c ≠ 29 → c ≠ 30 → O c = jzr N 29 36 c) : zRn M O 36 := by
  refine ⟨by rw [hp.2.2 0 (by decide) (by decide), jzr_out (by omega)]; exact h.1, fun c k c1 c2 => ?_⟩
  by_cases q : c = 29
  · rw [q, hp.1 k]; rfl
  · by_cases q2 : c = 30
    · rw [q2, hp.2.1 k]; rfl
    · rw [hp.2.2 c q q2]
      by_cases q3 : 29 ≤ c
      · rw [jzr_in ⟨q3, c2⟩, z0_0 (by omega) (by omega) (by omega) (by omega)]
      · rw [jzr_out (by omega)]; exact h.2 c k c1 (by omega)
theorem zRn_2 {M N O : jM} (h : zRn M N 37) (hp : (∀ k, O 38 k = if 0 ≤ k ∧ k < 6 then 20 * k + 20 else 0) ∧ ∀ c, c ≠ 38 → O c = jzr N 37 44 c) : zRn M O 44 := by
  refine ⟨by rw [hp.2 0 (by decide), jzr_out (by omega)]; exact h.1, fun c k c1 c2 => ?_⟩
  by_cases q : c = 38
  · rw [q, hp.1 k]; rfl
  · rw [hp.2 c q]
    by_cases q3 : 37 ≤ c
    · rw [jzr_in ⟨q3, c2⟩, z0_0 (by omega) (by omega) (by omega) (by omega)]
    · rw [jzr_out (by omega)]; exact h.2 c k c1 (by omega)
theorem zRn_6 {M N O : jM} (h : zRn M N 45) (hp : (∀ k, O 45 k = if 0 ≤ k ∧ k < 81 then rdV k else 0) ∧ ∀ c, c ≠ 45 → O c = jzr N 45 47 c) : zRn M O 47 := by
  refine ⟨by rw [hp.2 0 (by decide), jzr_out (by omega)]; exact h.1, fun c k c1 c2 => ?_⟩
  by_cases q : c = 45
  · rw [q, hp.1 k]; rfl
  · rw [hp.2 c q]
    by_cases q3 : 45 ≤ c
    · rw [jzr_in ⟨q3, c2⟩, z0_0 (by omega) (by omega) (by omega) (by omega)]
    · rw [jzr_out (by omega)]; exact h.2 c k c1 (by omega)
def jpb (b : Int) (st : List jV) : Bool := st.all (fun v => match v with
  | .inr (.inr r) => decide (r < b)
  | _ => true)
theorem jpb_of {b : Int} {st : List jV} (h : jpb b st = true) : ∀ r, jR r ∈ st → r < b := by
  intro r hr
  have := List.all_eq_true.mp h _ hr
  simpa using this
theorem jpl_of {b : Int} {ls : List (Nat × jV)} (h : jpb b (ls.map (fun q => q.2)) = true) : ∀ i r, (i, jR r) ∈ ls → r < b := fun i r hr => jpb_of h r (List.mem_map.mpr ⟨(i, jR r), hr, rfl⟩)
