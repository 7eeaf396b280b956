/-! ===== texts: the literals, length(), charAt() ===== -/
section JS
variable {d dc : jD} {X : jX} {F : jF} {sh : List jS} {kc ks : Nat} {Q : Option jV → jM → Prop} {pc : Nat} {ls : List (Nat × jV)} {st : List jV} {M : jM}
theorem j_ldcS {i idx : Nat} {r : Int} (hi : i < 16) (he : (jlit i).1 = idx) (hcl : d.1 = RX5) (hd : decode d.2.1 pc = .ok (.ldc idx, 2)) (hr : -10 - (i : Int) = r) (k : jG d X F sh kc ks Q (pc + 2) ls (jR r :: st) M) : jG d X F sh kc ks Q pc ls st M := by
  subst hr
  intro p l e s m args below meth c Z cy ad0 ad A H locs lsA hE hw hst hls hl
  have h1 := hw.1.2.2.1 i hi
  refine va_ldcS (own := RX5) (tx := (jlit i).2.1) (index := idx) (q := ad (-10 - (i : Int))) hE.1 hE.2.1 (by rw [← hcl]; exact hE.2.2.2.2.1) (by rw [← he]; exact h1) hd ?_
  exact k p l e s m args below meth c Z cy ad0 ad A H locs lsA hE hw (jok_cons (v := jR _) trivial hst) hls hl
theorem j_sval {i idx : Nat} (hi : i < 16) (hlk : Cond.fieldLink d.1 idx "java/lang/String" "value" "[B" ∈ jtbl) (hd : decode d.2.1 pc = .ok (.getfield idx, 3)) (k : jG d X F sh kc ks Q (pc + 3) ls (jR (-40 - (i : Int)) :: st) M) : jG d X F sh kc ks Q pc ls (jR (-10 - (i : Int)) :: st) M := by
  intro p l e s m args below meth c Z cy ad0 ad A H locs lsA hE hw hst hls hl
  refine vk_getf (o := "java/lang/String") (n := "value") (d := "[B") (ref := "java/lang/String") (own := d.1) (index := idx) (v := .ref (ad (-40 - (i : Int)))) hE.1 hE.2.1 ((hw.1.2.1.1 i hi).2.2.1) hw.2.2.2.2.2.1 hE.2.2.2.2.1 (hE.2.2.2.2.2.1 _ hlk) (fun _ h => h) hd ?_
  exact k p l e s m args below meth c Z cy ad0 ad A H locs lsA hE hw (jok_cons (v := jR _) trivial (jok_tl hst)) hls hl
theorem j_scod {i idx : Nat} (hi : i < 16) (hlk : Cond.fieldLink d.1 idx "java/lang/String" "coder" "B" ∈ jtbl) (hd : decode d.2.1 pc = .ok (.getfield idx, 3)) (k : jG d X F sh kc ks Q (pc + 3) ls (jI 0 :: st) M) : jG d X F sh kc ks Q pc ls (jR (-10 - (i : Int)) :: st) M := by
  intro p l e s m args below meth c Z cy ad0 ad A H locs lsA hE hw hst hls hl
  refine vk_getf (o := "java/lang/String") (n := "coder") (d := "B") (ref := "java/lang/String") (own := d.1) (index := idx) (v := .int 0) hE.1 hE.2.1 ((hw.1.2.1.1 i hi).2.1) hw.2.2.2.2.2.1 hE.2.2.2.2.1 (hE.2.2.2.2.2.1 _ hlk) (fun _ h => h) hd ?_
  exact k p l e s m args below meth c Z cy ad0 ad A H locs lsA hE hw (jok_cons (v := jI 0) jr_0 (jok_tl hst)) hls hl
def jsl (i : Nat) : Int := ((jlen.getD i 0 : Nat) : Int)
def jch (i : Nat) (j : Int) : Int := ((jbyt.getD i []).getD j.toNat 0).toInt
theorem jsl_all : ∀ i, i < 16 → (Int32.ofNat (jlen.getD i 0) = Int32.ofInt (jsl i)) ∧ (2 ≤ jsl i ∧ jsl i ≤ 6) := by decide
theorem jch_all : ∀ i, i < 16 → ∀ j : Nat, j < 6 → (j < jlen.getD i 0 → (97 ≤ jch i j ∧ jch i j ≤ 122) ∧ jand (jch i j) 255 = jch i j ∧ ((Int32.ofInt (jch i j)).toUInt32 % 65536).toInt32 = Int32.ofInt (jch i j) ∧ narrow .char (.int (Int32.ofInt (jch i j))) = .int (Int32.ofInt (jch i j))) := by decide +kernel
theorem jch_at {i : Nat} {j : Int} (hi : i < 16) (h0 : 0 ≤ j) (h1 : j < jsl i) : (97 ≤ jch i j ∧ jch i j ≤ 122) ∧ jand (jch i j) 255 = jch i j ∧ ((Int32.ofInt (jch i j)).toUInt32 % 65536).toInt32 = Int32.ofInt (jch i j) ∧ narrow .char (.int (Int32.ofInt (jch i j))) = .int (Int32.ofInt (jch i j)) := by
  have a := (jsl_all i hi).2
  have e : ((j.toNat : Nat) : Int) = j := Int.toNat_of_nonneg h0
  have := jch_all i hi j.toNat (by omega) (by unfold jsl at h1; omega)
  rw [e] at this
  exact this
theorem j_salen {i : Nat} (hi : i < 16) (hd : decode d.2.1 pc = .ok (.arraylength, 1)) (k : jG d X F sh kc ks Q (pc + 1) ls (jI (jsl i) :: st) M) : jG d X F sh kc ks Q pc ls (jR (-40 - (i : Int)) :: st) M := by
  intro p l e s m args below meth c Z cy ad0 ad A H locs lsA hE hw hst hls hl
  have a := jsl_all i hi
  refine va_tlen hE.1 hE.2.1 ((hw.1.2.1.1 i hi).2.2.2) hw.2.2.2.2.2.1 (v := Int32.ofInt (jsl i)) a.1 hd ?_
  exact k p l e s m args below meth c Z cy ad0 ad A H locs lsA hE hw (jok_cons (v := jI (jsl i)) (show jr _ from ⟨by omega, by omega⟩) (jok_tl hst)) hls hl
theorem j_sbald {i : Nat} {j : Int} (hi : i < 16) (hd : decode d.2.1 pc = .ok (.baload, 1)) (h0 : 0 ≤ j) (h1 : j < jsl i) (k : jG d X F sh kc ks Q (pc + 1) ls (jI (jch i j) :: st) M) : jG d X F sh kc ks Q pc ls (jI j :: jR (-40 - (i : Int)) :: st) M := by
  intro p l e s m args below meth c Z cy ad0 ad A H locs lsA hE hw hst hls hl
  have a := (jsl_all i hi).2
  have b := (jch_at hi h0 h1).1
  have ix := jo_ix (x := j) (n := jlen.getD i 0) h0 h1 (by unfold jsl at a; omega)
  refine va_tb hE.1 hE.2.1 ((hw.1.2.1.1 i hi).2.2.2) hw.2.2.2.2.2.1 (i := Int32.ofInt j) ix.1 (v := .int (Int32.ofInt (jch i j))) ?_ hd ?_
  · show Value.int ((jbyt.getD i []).getD (Int32.ofInt j).toNatClampNeg 0) = _
    rw [ix.2]
    unfold jch
    rw [jo_to]
  · exact k p l e s m args below meth c Z cy ad0 ad A H locs lsA hE hw (jok_cons (v := jI (jch i j)) (show jr _ from ⟨by omega, by omega⟩) (jok_tl (jok_tl hst))) hls hl
theorem j_gets1 {idx : Nat} (hlk : Cond.fieldLink d.1 idx "java/lang/String" "COMPACT_STRINGS" "Z" ∈ jtbl) (hd : decode d.2.1 pc = .ok (.getstatic idx, 3)) (k : jG d X F sh kc ks Q (pc + 3) ls (jI 1 :: st) M) : jG d X F sh kc ks Q pc ls st M := by
  intro p l e s m args below meth c Z cy ad0 ad A H locs lsA hE hw hst hls hl
  refine va_gets (C := "java/lang/String") (n := "COMPACT_STRINGS") (d := "Z") (ref := "java/lang/String") (own := d.1) (index := idx) (v := .int 1) hE.1 hE.2.1 hw.1.2.2.2.1 hw.2.2.2.2.2.1 hE.2.2.2.2.1 (hE.2.2.2.2.2.1 _ hlk) (fun _ h => h) hd ?_
  exact k p l e s m args below meth c Z cy ad0 ad A H locs lsA hE hw (jok_cons (v := jI 1) (show jr 1 by decide) hst) hls hl
theorem j_i2c {x : Int} (hd : decode d.2.1 pc = .ok (.i2c, 1)) (hx : ((Int32.ofInt x).toUInt32 % 65536).toInt32 = Int32.ofInt x) (k : jG d X F sh kc ks Q (pc + 1) ls (jI x :: st) M) : jG d X F sh kc ks Q pc ls (jI x :: st) M :=
  j_pure (fun h => h) (fun p l e s m args below meth c H locs lsA ad q hE _ w => lv_i2c hE.1 hE.2.1 hd hx w) k
theorem j_nret {P : Int → jM → Prop} {x : Int} {ty : FieldType} (hr : d.2.2.2.1 = some ty) (hc : kc = d.2.2.2.2.1.cells) (hs : ks = d.2.2.2.2.1.slots) (hsh : sh = F.2) (hd : decode d.2.1 pc = .ok (.ireturn, 1)) (hx : narrow ty (.int (Int32.ofInt x)) = .int (Int32.ofInt x)) (h : P x M) : jG d X F sh kc ks (jqI P) pc ls [jI x] M := by
  intro p l e s m args below meth c Z cy ad0 ad A H locs lsA hE hw hst hls hh
  obtain ⟨w1, w2, w3, w4, w5, w6, w7, w8⟩ := hw
  subst hc; subst hs; subst hsh
  exact W.zret (v := Int32.ofInt x) (ty := ty) hE.1 hE.2.1 (hE.2.2.1.trans hr) hx (fun t ht hW => ⟨⟨some (jI x), M, ad, rfl, ⟨x, rfl, h⟩, w2, fun v hv => by cases hv; exact jok_hd hst, w8, by rw [ht]; exact w4, w5⟩, w6.F ht⟩) w6.2.2 hd hE.2.2.2.2.2.2.1
end JS
/-! a call on a literal -/
def jlT (own : String) (idx : Nat) (y : MethodName) (dc : jD) (n : Nat) : Prop := y.cls = "java/lang/String" ∧ Cond.methodLink own idx y ∈ jtbl ∧ Cond.instanceMethod y ∈ jtbl ∧ Cond.selects y.cls y y ∈ jtbl ∧ Cond.initialized y.cls ∈ jtbl ∧ Cond.code y dc.2.1 dc.2.2.1 dc.2.2.2.1 ∈ jtbl ∧ (y.cls ≠ "java/lang/invoke/MethodHandle" ∧ y.cls ≠ "java/lang/invoke/VarHandle" ∧ (parseMethodDescriptor y.desc).map (fun d => d.parameters.length) = some n)
section JS2
variable {d dc : jD} {X : jX} {sh : List jS} {Q : Option jV → jM → Prop} {pc : Nat} {ls : List (Nat × jV)} {st stk : List jV} {M : jM} {y : MethodName} {as : List jV} {idx n : Nat}
theorem j_callT {P : Int → jM → Prop} {i : Nat} (hi : i < 16) (hlk : jlT d.1 idx y dc n) (hrm : jroom d dc) (hz : dc.2.2.2.2.1.cells = 0 ∧ dc.2.2.2.2.1.slots = 0) (hd : decode d.2.1 pc = .ok (.invokevirtual idx, 3)) (hC : jC y dc X (jT, sh) sh (jR (-10 - (i : Int)) :: as) M (jqI P)) (hstk : stk = as.reverse ++ jR (-10 - (i : Int)) :: st) (hn : as.length = n) (hcat : jcats st ≤ 8)
    (kk : ∀ (x : Int) (M' : jM), P x M' → jG d X (jT, sh) sh 0 0 Q (pc + 3) ls (jI x :: st) M') : jG d X (jT, sh) sh 0 0 Q pc ls stk M := by
  subst hstk
  intro p l e s m args below meth c Z cy ad0 ad A H locs lsA hE hw hst hls hh
  obtain ⟨l0, l1, l2, l6, l3, l4, l5⟩ := hlk
  have hts := hE.2.2.2.2.2.1
  have hst2 : ∀ v ∈ st, jok v := fun v hv => hst v (List.mem_append_right _ (List.mem_cons_of_mem _ hv))
  have has : ∀ v ∈ jR (-10 - (i : Int)) :: as, jok v := jok_cons (v := jR _) trivial (fun v hv => hst v (List.mem_append_left _ (List.mem_reverse.mpr hv)))
  have hrc := vk_recv hw.1.2.1 hi hw.2.2.2.2.2.1
  rw [← l0] at hrc
  have hp := j_pre (p := p) hw (jR (-10 - (i : Int)) :: as)
  rw [jmap_rev]
  refine j_back (P1 := jT) (she := sh) (Qc := jqI P) (mc := dc.2.2.2.2.1.cells) (ms := dc.2.2.2.2.1.slots) (a := (Value.ref (ad (-10 - (i : Int))) :: as.map (jcv ad)).toArray) hE hw hst2 hls hh (fun _ _ => trivial) (fun _ _ _ => trivial) (fun _ _ => trivial) (fun _ _ => trivial) ?_ (fun r M' h => ?_)
  · exact va_runV (b := ad (-10 - (i : Int))) (C := y.cls) (As := as.map (jcv ad)) (rest := st.map (jcv ad)) (n := n) (bytes := dc.2.1) (maxL := dc.2.2.1) (ret := dc.2.2.2.1) (ws := jws y dc) (rm := dc.2.2.2.2.1) ⟨hE.1, hE.2.1, hE.2.2.2.1, hE.2.2.2.2.1, hts⟩ (hC l Z cy ad H.size has hw.2.2.2.2.2.2.2) ⟨callB_of n hts (j_good l4) rfl rfl rfl (hts _ l3) (hts _ l1) l5 hrm, hts _ l2, hts _ l6⟩ ⟨hp.1, hrc, hp.2⟩ rfl (by simpa using hn) hh.1 rfl (lv_room (by rw [jcats_eq]; exact hcat)) hd (by rw [hz.1, hz.2]; exact ⟨Nat.zero_le _, Nat.zero_le _⟩)
  · obtain ⟨x, rfl, hp2⟩ := h
    rw [hz.1, hz.2]
    exact kk x M' hp2
theorem j_callSv {P : jM → Prop} (hlk : jlS d.1 idx y dc n) (hrm : jroom d dc) (hz : dc.2.2.2.2.1.cells = 0 ∧ dc.2.2.2.2.1.slots = 0) (hd : decode d.2.1 pc = .ok (.invokestatic idx, 3)) (hC : jC y dc X (jT, sh) sh as M (jqV P)) (hstk : stk = as.reverse ++ st) (hn : as.length = n) (hcat : jcats st ≤ 8)
    (kk : ∀ (M' : jM), P M' → jG d X (jT, sh) sh 0 0 Q (pc + 3) ls st M') : jG d X (jT, sh) sh 0 0 Q pc ls stk M := by
  refine j_callS' hlk hrm hC hd hstk hn hcat (by rw [hz.1, hz.2]; exact ⟨Nat.zero_le _, Nat.zero_le _⟩) (fun _ _ => trivial) (fun _ _ _ => trivial) (fun _ _ => trivial) (fun _ _ => trivial) (fun r M' h => ?_)
  obtain ⟨rfl, hp⟩ := h
  rw [hz.1, hz.2]
  exact kk M' hp
end JS2
