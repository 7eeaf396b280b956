/-! ===== calls that make nothing, from where cells were made ===== -/
section JR9
variable {d dc : jD} {X : jX} {F : jF} {sh : List jS} {kc ks : Nat} {Q : Option jV → jM → Prop} {pc : Nat} {ls : List (Nat × jV)} {st stk : List jV} {M : jM} {y : MethodName} {as : List jV} {idx n ci : Nat}
theorem j_callSlG {P : Int → jM → Prop} (hlk : jlS d.1 idx y dc n) (hrm : jroom d dc) (hz : dc.2.2.2.2.1.cells = 0 ∧ dc.2.2.2.2.1.slots = 0) (hkk : kc ≤ d.2.2.2.2.1.cells ∧ ks ≤ d.2.2.2.2.1.slots) (hd : decode d.2.1 pc = .ok (.invokestatic idx, 3)) (hC : jC y dc X (jT, sh) sh as M (jqL P)) (hstk : stk = as.reverse ++ st) (hn : as.length = n) (hcat : jcats st ≤ 8)
    (kk : ∀ (x : Int) (M' : jM), P x M' → jG d X F sh kc ks Q (pc + 3) ls (jL x :: st) M') : jG d X F sh kc ks Q pc ls stk M := by
  refine j_callS' hlk hrm hC hd hstk hn hcat (by rw [hz.1, hz.2]; exact hkk) (fun _ _ => trivial) (fun _ _ _ => trivial) (fun _ _ => trivial) (fun _ _ => trivial) (fun r M' h => ?_)
  obtain ⟨x, rfl, hp⟩ := h
  rw [hz.1, hz.2]
  exact kk x M' hp
theorem j_callViG {P : Int → jM → Prop} {c0 : Int} {kds : List Nat} (hlk : jlV d.1 idx ci y dc n) (hrm : jroom d dc) (hz : dc.2.2.2.2.1.cells = 0 ∧ dc.2.2.2.2.1.slots = 0) (hkk : kc ≤ d.2.2.2.2.1.cells ∧ ks ≤ d.2.2.2.2.1.slots) (hd : decode d.2.1 pc = .ok (.invokevirtual idx, 3)) (ho : 0 ≤ c0 ∧ sh[c0.toNat]? = some (.inr (ci, kds))) (hC : jC y dc X (jT, sh) sh (jR c0 :: as) M (jqI P)) (hstk : stk = as.reverse ++ jR c0 :: st) (hn : as.length = n) (hcat : jcats st ≤ 8)
    (kk : ∀ (x : Int) (M' : jM), P x M' → jG d X F sh kc ks Q (pc + 3) ls (jI x :: st) M') : jG d X F sh kc ks Q pc ls stk M := by
  refine j_callV' hlk hrm ho.1 ho.2 hC hd hstk hn hcat (by rw [hz.1, hz.2]; exact hkk) (fun _ _ => trivial) (fun _ _ _ => trivial) (fun _ _ => trivial) (fun _ _ => trivial) (fun r M' h => ?_)
  obtain ⟨x, rfl, hp⟩ := h
  rw [hz.1, hz.2]
  exact kk x M' hp
theorem j_callVlG {P : Int → jM → Prop} {c0 : Int} {kds : List Nat} (hlk : jlV d.1 idx ci y dc n) (hrm : jroom d dc) (hz : dc.2.2.2.2.1.cells = 0 ∧ dc.2.2.2.2.1.slots = 0) (hkk : kc ≤ d.2.2.2.2.1.cells ∧ ks ≤ d.2.2.2.2.1.slots) (hd : decode d.2.1 pc = .ok (.invokevirtual idx, 3)) (ho : 0 ≤ c0 ∧ sh[c0.toNat]? = some (.inr (ci, kds))) (hC : jC y dc X (jT, sh) sh (jR c0 :: as) M (jqL P)) (hstk : stk = as.reverse ++ jR c0 :: st) (hn : as.length = n) (hcat : jcats st ≤ 8)
    (kk : ∀ (x : Int) (M' : jM), P x M' → jG d X F sh kc ks Q (pc + 3) ls (jL x :: st) M') : jG d X F sh kc ks Q pc ls stk M := by
  refine j_callV' hlk hrm ho.1 ho.2 hC hd hstk hn hcat (by rw [hz.1, hz.2]; exact hkk) (fun _ _ => trivial) (fun _ _ _ => trivial) (fun _ _ => trivial) (fun _ _ => trivial) (fun r M' h => ?_)
  obtain ⟨x, rfl, hp⟩ := h
  rw [hz.1, hz.2]
  exact kk x M' hp
/-- the law's script -/
theorem j_sld {i : Int} (hi : 0 ≤ i ∧ i < (X.1 : Int) ∧ jr i) (hd : decode d.2.1 pc = .ok (.iaload, 1)) (kk : jG d X F sh kc ks Q (pc + 1) ls (jI (X.2 i.toNat).toInt :: st) M) : jG d X F sh kc ks Q pc ls (jI i :: jR (-2) :: st) M := by
  intro p l e s m args below meth cc Z cy ad0 ad A H locs lsA hE hw hst hls hh
  obtain ⟨w1, w2, w3, w4, w5, w6, w7, w8⟩ := id hw
  obtain ⟨⟨z1, z2, z3⟩, _⟩ := w1
  have et : (Int32.ofInt i).toNatClampNeg = i.toNat := by unfold Int32.toNatClampNeg; rw [jt_of hi.2.2]
  refine va_sld hE.1 hE.2.1 z1 z2 z3 w6 (i := Int32.ofInt i) ?_ hd ?_
  · intro z
    rcases z with z | z
    · rw [Int32.lt_iff_toInt_lt, jt_of hi.2.2] at z
      have : (0 : Int32).toInt = 0 := rfl
      omega
    · rw [et] at z
      omega
  · rw [et]
    have := kk p l e s m args below meth cc Z cy ad0 ad A H locs lsA hE hw (jok_cons (v := jI (X.2 i.toNat).toInt) (jr_to _) (jok_tl (jok_tl hst))) hls hh
    rw [List.map_cons] at this
    have e1 : jcv ad (jI (X.2 i.toNat).toInt) = .int (X.2 i.toNat) := by show Value.int (Int32.ofInt _) = _; rw [jo_to]
    rw [e1] at this
    exact this
theorem j_slen (hL : X.1 ≤ 2147483647) (hd : decode d.2.1 pc = .ok (.arraylength, 1)) (kk : jG d X F sh kc ks Q (pc + 1) ls (jI (X.1 : Int) :: st) M) : jG d X F sh kc ks Q pc ls (jR (-2) :: st) M := by
  intro p l e s m args below meth cc Z cy ad0 ad A H locs lsA hE hw hst hls hh
  obtain ⟨w1, w2, w3, w4, w5, w6, w7, w8⟩ := id hw
  obtain ⟨⟨z1, z2, z3⟩, _⟩ := w1
  refine va_slen hE.1 hE.2.1 z1 z2 z3 w6 hd ?_
  exact kk p l e s m args below meth cc Z cy ad0 ad A H locs lsA hE hw (jok_cons (v := jI (X.1 : Int)) (show jr (X.1 : Int) by omega) (jok_tl hst)) hls hh
end JR9
