/-! ===== answers, calls ===== -/
/-- an answer that is an int; nothing; a long -/
def jqI (P : Int → jM → Prop) : Option jV → jM → Prop := fun r M => ∃ x, r = some (jI x) ∧ P x M
def jqV (P : jM → Prop) : Option jV → jM → Prop := fun r M => r = none ∧ P M
def jqL (P : Int → jM → Prop) : Option jV → jM → Prop := fun r M => ∃ x, r = some (jL x) ∧ P x M
/-- a call's link: the pool entry idx of own is y, a static method -/
def jlS (own : String) (idx : Nat) (y : MethodName) (dc : jD) (n : Nat) : Prop := Cond.methodLink own idx y ∈ jtbl ∧ Cond.static y ∈ jtbl ∧ Cond.initialized y.cls ∈ jtbl ∧ Cond.code y dc.2.1 dc.2.2.1 dc.2.2.2.1 ∈ jtbl ∧ (y.cls ≠ "java/lang/invoke/MethodHandle" ∧ y.cls ≠ "java/lang/invoke/VarHandle" ∧ (parseMethodDescriptor y.desc).map (fun d => d.parameters.length) = some n)
def jlV (own : String) (idx : Nat) (ci : Nat) (y : MethodName) (dc : jD) (n : Nat) : Prop := (∃ T N, vwCl[ci]? = some (y.cls, T, N)) ∧ Cond.methodLink own idx y ∈ jtbl ∧ Cond.instanceMethod y ∈ jtbl ∧ Cond.selects y.cls y y ∈ jtbl ∧ Cond.initialized y.cls ∈ jtbl ∧ Cond.code y dc.2.1 dc.2.2.1 dc.2.2.2.1 ∈ jtbl ∧ (y.cls ≠ "java/lang/invoke/MethodHandle" ∧ y.cls ≠ "java/lang/invoke/VarHandle" ∧ (parseMethodDescriptor y.desc).map (fun d => d.parameters.length) = some n)
def jlC (own : String) (idx : Nat) (y : MethodName) (dc : jD) (n : Nat) : Prop := Cond.methodLink own idx y ∈ jtbl ∧ Cond.instanceMethod y ∈ jtbl ∧ Cond.initialized y.cls ∈ jtbl ∧ Cond.code y dc.2.1 dc.2.2.1 dc.2.2.2.1 ∈ jtbl ∧ y.name = "<init>" ∧ (y.cls ≠ "java/lang/invoke/MethodHandle" ∧ y.cls ≠ "java/lang/invoke/VarHandle" ∧ (parseMethodDescriptor y.desc).map (fun d => d.parameters.length) = some n)
/-- the callee's room in the caller's -/
abbrev jroom (d dc : jD) : Prop := dc.2.2.2.2.1.frames + 1 ≤ d.2.2.2.2.1.frames ∧ 8 + (dc.2.2.1 + 11) + dc.2.2.2.2.1.locals ≤ d.2.2.2.2.1.locals
def jcats (st : List jV) : Nat := (st.map jcat).sum
theorem jcats_eq (ad : Int → Nat) (st : List jV) : ((st.map (jcv ad)).map fun v => v.category).sum = jcats st := by
  unfold jcats
  rw [List.map_map]
  congr 1
  apply List.map_congr_left
  intro v _
  exact jcat_eq ad v
theorem jW_in {ad : Int → Nat} {cy : Nat → ClassId} {M : jM} {sh : List jS} {A : Nat → Prop} {H0 H : Heap} {locs : List Loc} (hD : va_D A (jW ad cy M sh)) (hS : va_S A H0 H locs) (hA : ∀ q, H0.size ≤ q → A q) : ∀ q, va_A (jW ad cy M sh) H.size q → A q := by
  intro q h
  rcases h with ⟨k, e, h⟩ | h
  · exact hD.2 k (q, e) h
  · exact hA q (Nat.le_trans hS.1 h)
theorem jcv_congr {ad ad' : Int → Nat} : ∀ {v : jV}, (∀ r, v = jR r → ad' r = ad r) → jcv ad' v = jcv ad v
  | .inl _, _ => rfl
  | .inr (.inl _), _ => rfl
  | .inr (.inr r), h => by show Value.ref (ad' r) = Value.ref (ad r); rw [h r rfl]
section JR4
variable {d dc : jD} {X : jX} {F : jF} {sh she : List jS} {kc ks : Nat} {Q : Option jV → jM → Prop} {Qc : Option jV → jM → Prop} {pc : Nat} {ls : List (Nat × jV)} {st : List jV} {M : jM} {y : MethodName} {as : List jV}
theorem j_iret {P : Int → jM → Prop} {x : Int} (hr : d.2.2.2.1 = some .int) (hc : kc = d.2.2.2.2.1.cells) (hs : ks = d.2.2.2.2.1.slots) (hsh : sh = F.2) (hd : decode d.2.1 pc = .ok (.ireturn, 1)) (h : P x M) : jG d X F sh kc ks (jqI P) pc ls [jI x] M := by
  intro p l e s m args below meth c Z cy ad0 ad A H locs lsA hE hw hst hls hh
  obtain ⟨w1, w2, w3, w4, w5, w6, w7, w8⟩ := hw
  subst hc; subst hs; subst hsh
  exact W.iret (v := Int32.ofInt x) hE.1 hE.2.1 (hE.2.2.1.trans hr) (fun t ht hW => ⟨⟨some (jI x), M, ad, rfl, ⟨x, rfl, h⟩, w2, fun v hv => by cases hv; exact jok_hd hst, w8, by rw [ht]; exact w4, w5⟩, w6.F ht⟩) w6.2.2 hd hE.2.2.2.2.2.2.1
theorem j_zret {P : Int → jM → Prop} {x : Int} (hr : d.2.2.2.1 = some .boolean) (hc : kc = d.2.2.2.2.1.cells) (hs : ks = d.2.2.2.2.1.slots) (hsh : sh = F.2) (hd : decode d.2.1 pc = .ok (.ireturn, 1)) (hx : x = 0 ∨ x = 1) (h : P x M) : jG d X F sh kc ks (jqI P) pc ls [jI x] M := by
  intro p l e s m args below meth c Z cy ad0 ad A H locs lsA hE hw hst hls hh
  obtain ⟨w1, w2, w3, w4, w5, w6, w7, w8⟩ := hw
  subst hc; subst hs; subst hsh
  exact W.zret (v := Int32.ofInt x) (ty := .boolean) hE.1 hE.2.1 (hE.2.2.1.trans hr) (by rcases hx with rfl | rfl <;> rfl) (fun t ht hW => ⟨⟨some (jI x), M, ad, rfl, ⟨x, rfl, h⟩, w2, fun v hv => by cases hv; exact jok_hd hst, w8, by rw [ht]; exact w4, w5⟩, w6.F ht⟩) w6.2.2 hd hE.2.2.2.2.2.2.1
theorem j_lret {P : Int → jM → Prop} {x : Int} (hr : d.2.2.2.1 = some .long) (hc : kc = d.2.2.2.2.1.cells) (hs : ks = d.2.2.2.2.1.slots) (hsh : sh = F.2) (hd : decode d.2.1 pc = .ok (.lreturn, 1)) (h : P x M) : jG d X F sh kc ks (jqL P) pc ls [jL x] M := by
  intro p l e s m args below meth c Z cy ad0 ad A H locs lsA hE hw hst hls hh
  obtain ⟨w1, w2, w3, w4, w5, w6, w7, w8⟩ := hw
  subst hc; subst hs; subst hsh
  exact W.lret (v := Int64.ofInt x) hE.1 hE.2.1 (hE.2.2.1.trans hr) (fun t ht hW => ⟨⟨some (jL x), M, ad, rfl, ⟨x, rfl, h⟩, w2, fun v hv => by cases hv; trivial, w8, by rw [ht]; exact w4, w5⟩, w6.F ht⟩) w6.2.2 hd hE.2.2.2.2.2.2.1
theorem j_vret {P : jM → Prop} (hr : d.2.2.2.1 = none) (hc : kc = d.2.2.2.2.1.cells) (hs : ks = d.2.2.2.2.1.slots) (hsh : sh = F.2) (hd : decode d.2.1 pc = .ok (.return_, 1)) (h : P M) : jG d X F sh kc ks (jqV P) pc ls [] M := by
  intro p l e s m args below meth c Z cy ad0 ad A H locs lsA hE hw hst hls hh
  obtain ⟨w1, w2, w3, w4, w5, w6, w7, w8⟩ := hw
  subst hc; subst hs; subst hsh
  exact W.vret hE.1 hE.2.1 (hE.2.2.1.trans hr) (fun t ht hW => ⟨⟨none, M, ad, rfl, ⟨rfl, h⟩, w2, fun v hv => by (cases hv), w8, by rw [ht]; exact w4, w5⟩, w6.F ht⟩) w6.2.2 hd hE.2.2.2.2.2.2.1
/-- a call's start -/
theorem j_pre {p : Program} {s : State} {Z : va_G} {cy : Nat → ClassId} {ad0 ad : Int → Nat} {A : Nat → Prop} {H : Heap} {locs : List Loc} (hw : jWorld X F sh M s Z cy ad0 ad A H locs) (as : List jV) :
    PreS s H (va_Pc (as.map (jcv ad)) (fun U => U.heap.size = H.size ∧ va_P Z vwCl (jW ad cy M sh) U.heap ∧ va_K Z vwCl (jtys cy) U ∧ va_D (fun _ => True) (jW ad cy M sh) ∧ jExt X ad (va_A (jW ad cy M sh) H.size) U)) (as.map (jcv ad)) := by
  obtain ⟨w1, w2, w3, w4, w5, w6, w7, w8⟩ := hw
  refine ⟨fun a U g mk q => ?_, fun U hU hW => ?_⟩
  · obtain ⟨q0, q1, q2, q3, q4, q5⟩ := q
    exact ⟨q0, q1, q2, va_K.moved (u := U) (U := U.calling g mk a) (Vm.Alike.refl U.vm) q3, q4, jExt.same (u := U) (U := U.calling g mk a) rfl rfl q5⟩
  · exact ⟨rfl, by rw [hU], by rw [hU]; exact w4, va_K.moved hW.alike w3, w5.weaken (fun _ _ _ _ => trivial), w1.call w6 hU hW (jW_in w5 w6 w7)⟩
/-- behind a call -/
theorem j_back {P1 : Int → Prop} {p : Program} {l : Launch} {e : Env} {s : State} {m : MethodId} {args : Array Value} {below : List Frame} {meth : Method} {c : Code} {Z : va_G} {cy : Nat → ClassId} {ad0 ad : Int → Nat} {A : Nat → Prop} {H : Heap} {locs : List Loc} {lsA : Array Slot} {a : Array Value} {mc ms : Nat} {g0 : List Value}
    (hE : jEnv d p s m args meth c) (hw : jWorld X F sh M s Z cy ad0 ad A H locs) (hst : ∀ v ∈ st, jok v) (hls : ∀ q ∈ ls, jok q.2) (hl : lv_has lsA d.2.2.1 (ls.map (fun q => (q.1, jcv ad q.2))))
    (hbs : ∀ r, jR r ∈ st → P1 r) (hbl : ∀ i r, (i, jR r) ∈ ls → P1 r) (hneg : ∀ i, i < 0 → P1 i) (hF : ∀ i, F.1 i → P1 i)
    (hr : va_Run p l e d.2.2.2.2.1 s m args below meth c H locs kc ks mc ms (F0 m pc lsA g0) (st.map (jcv ad)) (jQc Qc (P1, she) Z cy ad (va_A (jW ad cy M sh) H.size) a) (va_A (jW ad cy M sh) H.size))
    (kk : ∀ (r : Option jV) (M' : jM), Qc r M' → jG d X F she (kc + mc) (ks + ms) Q (pc + 3) ls (r.toList ++ st) M') :
    W p l e d.2.2.2.2.1 s m args below meth c H locs kc ks (MQ below (jQc Q F Z cy ad0 A) args s d.2.2.2.2.1.cells d.2.2.2.2.1.slots A) (F0 m pc lsA g0) := by
  obtain ⟨w1, w2, w3, w4, w5, w6, w7, w8⟩ := hw
  have hin := jW_in w5 w6 w7
  intro T hT Xs
  obtain ⟨v, st₀, t, T', L, h0, X', hL, e1, e2, ⟨⟨r, M', ad', q1, q2, q3, q4, q5, q6, q7⟩, hz, hk⟩, stp⟩ := hr T hT Xs
  cases q1
  rw [h0] at hz hk
  have hS' : va_S A s.heap T'.heap (locs ++ L) := ⟨Nat.le_trans w6.1 (by rw [e1]; exact hz), fun q h1 h2 => by rw [e1, hk q (Nat.lt_of_lt_of_le h1 w6.1) (fun z => h2 (hin q z))]; exact w6.2.1 q h1 h2, fun q hq => by
      rcases List.mem_append.mp hq with h | h
      · exact w6.2.2 q h
      · exact hin _ (hL q h)⟩
  have hcv : ∀ v ∈ st, jcv ad v = jcv ad' v := fun v hv => (jcv_congr (fun r h => q3 r (hbs r (h ▸ hv)))).symm
  have hE' : jExt X ad' A s := by
    obtain ⟨⟨z1, z2, z3⟩, z4, z5, z6, z7, z8, z9⟩ := w1
    have e3 : ∀ i : Int, i < 0 → ad' i = ad i := fun i hi => q3 i (hneg i hi)
    refine ⟨by rw [e3 (-2) (by decide)]; exact ⟨z1, z2, z3⟩, ?_, fun i hi => by rw [e3 _ (by omega)]; exact z5 i hi, z6, z7, z8, z9⟩
    have f1 : (fun i : Nat => ad' (-10 - (i : Int))) = fun i : Nat => ad (-10 - (i : Int)) := by funext i; exact e3 _ (by omega)
    have f2 : (fun i : Nat => ad' (-40 - (i : Int))) = fun i : Nat => ad (-40 - (i : Int)) := by funext i; exact e3 _ (by omega)
    rw [f1, f2]; exact z4
  have hm : (Option.map (jcv ad') r).toList ++ st.map (jcv ad) = (r.toList ++ st).map (jcv ad') := by
    rw [List.map_append]
    congr 1
    · cases r <;> rfl
    · exact List.map_congr_left hcv
  have hw' : jWorld X F she M' s Z cy ad0 ad' A T'.heap (locs ++ L) := ⟨hE', fun i hi => (q3 i (hF i hi)).trans (w2 i hi), w3, by rw [e1]; exact q6, q7.weaken (fun _ q _ h => hin q.1 h), hS', w7, q5⟩
  have hlv : ls.map (fun q => (q.1, jcv ad' q.2)) = ls.map (fun q => (q.1, jcv ad q.2)) := List.map_congr_left (fun q hq => by rw [jcv_congr (fun r h => q3 r (hbl q.1 r (by rw [← h]; exact hq)))])
  have hres : ∀ u ∈ r.toList ++ st, jok u := fun u hu => by
    rcases List.mem_append.mp hu with h | h
    · exact q4 u (by simpa using h)
    · exact hst u h
  obtain ⟨t2, a1, b1⟩ := kk r M' q2 p l e s m args below meth c Z cy ad0 ad' A T'.heap (locs ++ L) lsA hE hw' hres hls (by rw [hlv]; exact hl) T' rfl X'
  refine ⟨t2, stp t2 ?_, b1⟩
  show Steps p.tables e below (T'.setTop (F0 m (pc + 3) lsA ((Option.map (jcv ad') r).toList ++ st.map (jcv ad)))) t2
  rw [hm]
  exact a1
theorem j_good {dc : jD} {y : MethodName} (h : Cond.code y dc.2.1 dc.2.2.1 dc.2.2.2.1 ∈ jtbl) : GoodIn jtbl (jws y dc) := fun w hw => by
  rcases List.mem_cons.mp hw with rfl | hw
  · exact jtbl_good _ h
  · exact jtbl_good _ hw
theorem jmap_rev (ad : Int → Nat) (as st : List jV) : (as.reverse ++ st).map (jcv ad) = (as.map (jcv ad)).reverse ++ st.map (jcv ad) := by
  rw [List.map_append, List.map_reverse]
/-- a static method is called -/
theorem j_callS' {P1 : Int → Prop} {idx n : Nat} {stk : List jV} (hlk : jlS d.1 idx y dc n) (hrm : jroom d dc) (hC : jC y dc X (P1, she) sh as M Qc) (hd : decode d.2.1 pc = .ok (.invokestatic idx, 3)) (hstk : stk = as.reverse ++ st) (hn : as.length = n) (hcat : jcats st ≤ 8) (hcl : kc + dc.2.2.2.2.1.cells ≤ d.2.2.2.2.1.cells ∧ ks + dc.2.2.2.2.1.slots ≤ d.2.2.2.2.1.slots)
    (hbs : ∀ r, jR r ∈ st → P1 r) (hbl : ∀ i r, (i, jR r) ∈ ls → P1 r) (hneg : ∀ i, i < 0 → P1 i) (hF : ∀ i, F.1 i → P1 i)
    (kk : ∀ (r : Option jV) (M' : jM), Qc r M' → jG d X F she (kc + dc.2.2.2.2.1.cells) (ks + dc.2.2.2.2.1.slots) Q (pc + 3) ls (r.toList ++ st) M') : jG d X F sh kc ks Q pc ls stk M := by
  subst hstk
  intro p l e s m args below meth c Z cy ad0 ad A H locs lsA hE hw hst hls hh
  obtain ⟨l1, l2, l3, l4, l5⟩ := hlk
  have hts := hE.2.2.2.2.2.1
  have hst2 : ∀ v ∈ st, jok v := fun v hv => hst v (List.mem_append_right _ hv)
  have has : ∀ v ∈ as, jok v := fun v hv => hst v (List.mem_append_left _ (List.mem_reverse.mpr hv))
  rw [jmap_rev]
  refine j_back (P1 := P1) (she := she) (a := (as.map (jcv ad)).toArray) hE hw hst2 hls hh hbs hbl hneg hF ?_ kk
  exact va_runS (As := as.map (jcv ad)) (rest := st.map (jcv ad)) (n := n) (bytes := dc.2.1) (maxL := dc.2.2.1) (ret := dc.2.2.2.1) (ws := jws y dc) (rm := dc.2.2.2.2.1) ⟨hE.1, hE.2.1, hE.2.2.2.1, hE.2.2.2.2.1, hts⟩ (hC l Z cy ad H.size has hw.2.2.2.2.2.2.2) ⟨callB_of n hts (j_good l4) rfl rfl rfl (hts _ l3) (hts _ l1) l5 hrm, hts _ l2⟩ (j_pre (p := p) hw as) rfl (by simpa using hn) hh.1 rfl (lv_room (by rw [jcats_eq]; exact hcat)) hd hcl
/-- a method is called on an object of the world -/
theorem j_callV' {P1 : Int → Prop} {idx ci n : Nat} {c0 : Int} {kds : List Nat} {stk : List jV} (hlk : jlV d.1 idx ci y dc n) (hrm : jroom d dc) (h0 : 0 ≤ c0) (ho : sh[c0.toNat]? = some (.inr (ci, kds))) (hC : jC y dc X (P1, she) sh (jR c0 :: as) M Qc) (hd : decode d.2.1 pc = .ok (.invokevirtual idx, 3)) (hstk : stk = as.reverse ++ jR c0 :: st) (hn : as.length = n) (hcat : jcats st ≤ 8) (hcl : kc + dc.2.2.2.2.1.cells ≤ d.2.2.2.2.1.cells ∧ ks + dc.2.2.2.2.1.slots ≤ d.2.2.2.2.1.slots)
    (hbs : ∀ r, jR r ∈ st → P1 r) (hbl : ∀ i r, (i, jR r) ∈ ls → P1 r) (hneg : ∀ i, i < 0 → P1 i) (hF : ∀ i, F.1 i → P1 i)
    (kk : ∀ (r : Option jV) (M' : jM), Qc r M' → jG d X F she (kc + dc.2.2.2.2.1.cells) (ks + dc.2.2.2.2.1.slots) Q (pc + 3) ls (r.toList ++ st) M') : jG d X F sh kc ks Q pc ls stk M := by
  subst hstk
  intro p l e s m args below meth c Z cy ad0 ad A H locs lsA hE hw hst hls hh
  obtain ⟨⟨T, N, l0⟩, l1, l2, l6, l3, l4, l5⟩ := hlk
  have hts := hE.2.2.2.2.2.1
  have hst2 : ∀ v ∈ st, jok v := fun v hv => hst v (List.mem_append_right _ (List.mem_cons_of_mem _ hv))
  have has : ∀ v ∈ jR c0 :: as, jok v := jok_cons (v := jR c0) trivial (fun v hv => hst v (List.mem_append_left _ (List.mem_reverse.mpr hv)))
  have hc : ((c0.toNat : Nat) : Int) = c0 := Int.toNat_of_nonneg h0
  have hg := jW_get (ad := ad) (cy := cy) (M := M) ho
  rw [hc] at hg
  have hrc := va_recv hw.2.2.1 hw.2.2.2.1 l0 hg
  have hp := j_pre (p := p) hw (jR c0 :: as)
  rw [jmap_rev]
  refine j_back (P1 := P1) (she := she) (a := (Value.ref (ad c0) :: as.map (jcv ad)).toArray) hE hw hst2 hls hh hbs hbl hneg hF ?_ kk
  exact va_runV (b := ad c0) (C := y.cls) (As := as.map (jcv ad)) (rest := st.map (jcv ad)) (n := n) (bytes := dc.2.1) (maxL := dc.2.2.1) (ret := dc.2.2.2.1) (ws := jws y dc) (rm := dc.2.2.2.2.1) ⟨hE.1, hE.2.1, hE.2.2.2.1, hE.2.2.2.2.1, hts⟩ (hC l Z cy ad H.size has hw.2.2.2.2.2.2.2) ⟨callB_of n hts (j_good l4) rfl rfl rfl (hts _ l3) (hts _ l1) l5 hrm, hts _ l2, hts _ l6⟩ ⟨hp.1, hrc, hp.2⟩ rfl (by simpa using hn) hh.1 rfl (lv_room (by rw [jcats_eq]; exact hcat)) hd hcl
/-- a constructor is called -/
theorem j_callC' {P1 : Int → Prop} {idx n : Nat} {c0 : Int} {stk : List jV} (hlk : jlC d.1 idx y dc n) (hret : dc.2.2.2.1 = none) (hrm : jroom d dc) (hC : jC y dc X (P1, she) sh (jR c0 :: as) M Qc) (hd : decode d.2.1 pc = .ok (.invokespecial idx, 3)) (hstk : stk = as.reverse ++ jR c0 :: st) (hn : as.length = n) (hcat : jcats st ≤ 8) (hcl : kc + dc.2.2.2.2.1.cells ≤ d.2.2.2.2.1.cells ∧ ks + dc.2.2.2.2.1.slots ≤ d.2.2.2.2.1.slots)
    (hbs : ∀ r, jR r ∈ st → P1 r) (hbl : ∀ i r, (i, jR r) ∈ ls → P1 r) (hneg : ∀ i, i < 0 → P1 i) (hF : ∀ i, F.1 i → P1 i)
    (kk : ∀ (r : Option jV) (M' : jM), Qc r M' → jG d X F she (kc + dc.2.2.2.2.1.cells) (ks + dc.2.2.2.2.1.slots) Q (pc + 3) ls (r.toList ++ st) M') : jG d X F sh kc ks Q pc ls stk M := by
  subst hstk
  intro p l e s m args below meth c Z cy ad0 ad A H locs lsA hE hw hst hls hh
  obtain ⟨l1, l2, l3, l4, l6, l5⟩ := hlk
  have hts := hE.2.2.2.2.2.1
  have hst2 : ∀ v ∈ st, jok v := fun v hv => hst v (List.mem_append_right _ (List.mem_cons_of_mem _ hv))
  have has : ∀ v ∈ jR c0 :: as, jok v := jok_cons (v := jR c0) trivial (fun v hv => hst v (List.mem_append_left _ (List.mem_reverse.mpr hv)))
  have hp := j_pre (p := p) hw (jR c0 :: as)
  have l4' : Cond.code y dc.2.1 dc.2.2.1 none ∈ jtbl := hret ▸ l4
  rw [jmap_rev]
  refine j_back (P1 := P1) (she := she) (a := (Value.ref (ad c0) :: as.map (jcv ad)).toArray) hE hw hst2 hls hh hbs hbl hneg hF ?_ kk
  exact va_runI (b := ad c0) (As := as.map (jcv ad)) (rest := st.map (jcv ad)) (n := n) (bytes := dc.2.1) (maxL := dc.2.2.1) (ws := jws y dc) (rm := dc.2.2.2.2.1) ⟨hE.1, hE.2.1, hE.2.2.2.1, hE.2.2.2.2.1, hts⟩ (hC l Z cy ad H.size has hw.2.2.2.2.2.2.2) ⟨callB_of n hts (j_good l4) (by rw [jws, hret]) rfl rfl (hts _ l3) (hts _ l1) l5 hrm, l6, hts _ l2⟩ hp rfl (by simpa using hn) hh.1 rfl (lv_room (by rw [jcats_eq]; exact hcat)) hd hcl
/-- a nest mate's private constructor is called -/
theorem j_callN' {P1 : Int → Prop} {idx n : Nat} {c0 : Int} {stk : List jV} (hnw : ∀ (ad : Int → Nat) (A : Nat → Prop) (s : State), jExt X ad A s → va_Nw (.methodLinkNest d.1 idx y RX8) s) (hlk : Cond.instanceMethod y ∈ jtbl ∧ Cond.initialized y.cls ∈ jtbl ∧ Cond.code y dc.2.1 dc.2.2.1 dc.2.2.2.1 ∈ jtbl ∧ y.name = "<init>" ∧ (y.cls ≠ "java/lang/invoke/MethodHandle" ∧ y.cls ≠ "java/lang/invoke/VarHandle" ∧ (parseMethodDescriptor y.desc).map (fun d => d.parameters.length) = some n)) (hret : dc.2.2.2.1 = none) (hrm : jroom d dc) (hC : jC y dc X (P1, she) sh (jR c0 :: as) M Qc) (hd : decode d.2.1 pc = .ok (.invokespecial idx, 3)) (hstk : stk = as.reverse ++ jR c0 :: st) (hn : as.length = n) (hcat : jcats st ≤ 8) (hcl : kc + dc.2.2.2.2.1.cells ≤ d.2.2.2.2.1.cells ∧ ks + dc.2.2.2.2.1.slots ≤ d.2.2.2.2.1.slots)
    (hbs : ∀ r, jR r ∈ st → P1 r) (hbl : ∀ i r, (i, jR r) ∈ ls → P1 r) (hneg : ∀ i, i < 0 → P1 i) (hF : ∀ i, F.1 i → P1 i)
    (kk : ∀ (r : Option jV) (M' : jM), Qc r M' → jG d X F she (kc + dc.2.2.2.2.1.cells) (ks + dc.2.2.2.2.1.slots) Q (pc + 3) ls (r.toList ++ st) M') : jG d X F sh kc ks Q pc ls stk M := by
  subst hstk
  intro p l e s m args below meth c Z cy ad0 ad A H locs lsA hE hw hst hls hh
  obtain ⟨l2, l3, l4, l6, l5⟩ := hlk
  have hts := hE.2.2.2.2.2.1
  have hst2 : ∀ v ∈ st, jok v := fun v hv => hst v (List.mem_append_right _ (List.mem_cons_of_mem _ hv))
  have has : ∀ v ∈ jR c0 :: as, jok v := jok_cons (v := jR c0) trivial (fun v hv => hst v (List.mem_append_left _ (List.mem_reverse.mpr hv)))
  have hp := j_pre (p := p) hw (jR c0 :: as)
  rw [jmap_rev]
  refine j_back (P1 := P1) (she := she) (a := (Value.ref (ad c0) :: as.map (jcv ad)).toArray) hE hw hst2 hls hh hbs hbl hneg hF ?_ kk
  exact va_runIN (host := RX8) (b := ad c0) (As := as.map (jcv ad)) (rest := st.map (jcv ad)) (n := n) (bytes := dc.2.1) (maxL := dc.2.2.1) (ws := jws y dc) (rm := dc.2.2.2.2.1) ⟨hE.1, hE.2.1, hE.2.2.2.1, hE.2.2.2.2.1, hts⟩ (hC l Z cy ad H.size has hw.2.2.2.2.2.2.2) ⟨va_cnB n hts (j_good l4) (by rw [jws, hret]) rfl rfl (hnw ad A s hw.1) (hts _ l3) l5 hrm, l6, hts _ l2⟩ hp rfl (by simpa using hn) hh.1 rfl (lv_room (by rw [jcats_eq]; exact hcat)) hd hcl
end JR4
/-! calls that make nothing: every place keeps its cell -/
def jT : Int → Prop := fun _ => True
section JR5
variable {d dc : jD} {X : jX} {sh : List jS} {Q : Option jV → jM → Prop} {pc : Nat} {ls : List (Nat × jV)} {st stk : List jV} {M : jM} {y : MethodName} {as : List jV} {idx n ci : Nat}
theorem j_callSi {P : Int → jM → Prop} (hlk : jlS d.1 idx y dc n) (hrm : jroom d dc) (hz : dc.2.2.2.2.1.cells = 0 ∧ dc.2.2.2.2.1.slots = 0) (hd : decode d.2.1 pc = .ok (.invokestatic idx, 3)) (hC : jC y dc X (jT, sh) sh as M (jqI P)) (hstk : stk = as.reverse ++ st) (hn : as.length = n) (hcat : jcats st ≤ 8)
    (kk : ∀ (x : Int) (M' : jM), P x M' → jG d X (jT, sh) sh 0 0 Q (pc + 3) ls (jI x :: st) M') : jG d X (jT, sh) sh 0 0 Q pc ls stk M := by
  refine j_callS' hlk hrm hC hd hstk hn hcat (by rw [hz.1, hz.2]; exact ⟨Nat.zero_le _, Nat.zero_le _⟩) (fun _ _ => trivial) (fun _ _ _ => trivial) (fun _ _ => trivial) (fun _ _ => trivial) (fun r M' h => ?_)
  obtain ⟨x, rfl, hp⟩ := h
  rw [hz.1, hz.2]
  exact kk x M' hp
theorem j_callSl {P : Int → jM → Prop} (hlk : jlS d.1 idx y dc n) (hrm : jroom d dc) (hz : dc.2.2.2.2.1.cells = 0 ∧ dc.2.2.2.2.1.slots = 0) (hd : decode d.2.1 pc = .ok (.invokestatic idx, 3)) (hC : jC y dc X (jT, sh) sh as M (jqL P)) (hstk : stk = as.reverse ++ st) (hn : as.length = n) (hcat : jcats st ≤ 8)
    (kk : ∀ (x : Int) (M' : jM), P x M' → jG d X (jT, sh) sh 0 0 Q (pc + 3) ls (jL x :: st) M') : jG d X (jT, sh) sh 0 0 Q pc ls stk M := by
  refine j_callS' hlk hrm hC hd hstk hn hcat (by rw [hz.1, hz.2]; exact ⟨Nat.zero_le _, Nat.zero_le _⟩) (fun _ _ => trivial) (fun _ _ _ => trivial) (fun _ _ => trivial) (fun _ _ => trivial) (fun r M' h => ?_)
  obtain ⟨x, rfl, hp⟩ := h
  rw [hz.1, hz.2]
  exact kk x M' hp
theorem j_callVi {P : Int → jM → Prop} {c0 : Int} {kds : List Nat} (hlk : jlV d.1 idx ci y dc n) (hrm : jroom d dc) (hz : dc.2.2.2.2.1.cells = 0 ∧ dc.2.2.2.2.1.slots = 0) (hd : decode d.2.1 pc = .ok (.invokevirtual idx, 3)) (ho : 0 ≤ c0 ∧ sh[c0.toNat]? = some (.inr (ci, kds))) (hC : jC y dc X (jT, sh) sh (jR c0 :: as) M (jqI P)) (hstk : stk = as.reverse ++ jR c0 :: st) (hn : as.length = n) (hcat : jcats st ≤ 8)
    (kk : ∀ (x : Int) (M' : jM), P x M' → jG d X (jT, sh) sh 0 0 Q (pc + 3) ls (jI x :: st) M') : jG d X (jT, sh) sh 0 0 Q pc ls stk M := by
  refine j_callV' hlk hrm ho.1 ho.2 hC hd hstk hn hcat (by rw [hz.1, hz.2]; exact ⟨Nat.zero_le _, Nat.zero_le _⟩) (fun _ _ => trivial) (fun _ _ _ => trivial) (fun _ _ => trivial) (fun _ _ => trivial) (fun r M' h => ?_)
  obtain ⟨x, rfl, hp⟩ := h
  rw [hz.1, hz.2]
  exact kk x M' hp
theorem j_callVl {P : Int → jM → Prop} {c0 : Int} {kds : List Nat} (hlk : jlV d.1 idx ci y dc n) (hrm : jroom d dc) (hz : dc.2.2.2.2.1.cells = 0 ∧ dc.2.2.2.2.1.slots = 0) (hd : decode d.2.1 pc = .ok (.invokevirtual idx, 3)) (ho : 0 ≤ c0 ∧ sh[c0.toNat]? = some (.inr (ci, kds))) (hC : jC y dc X (jT, sh) sh (jR c0 :: as) M (jqL P)) (hstk : stk = as.reverse ++ jR c0 :: st) (hn : as.length = n) (hcat : jcats st ≤ 8)
    (kk : ∀ (x : Int) (M' : jM), P x M' → jG d X (jT, sh) sh 0 0 Q (pc + 3) ls (jL x :: st) M') : jG d X (jT, sh) sh 0 0 Q pc ls stk M := by
  refine j_callV' hlk hrm ho.1 ho.2 hC hd hstk hn hcat (by rw [hz.1, hz.2]; exact ⟨Nat.zero_le _, Nat.zero_le _⟩) (fun _ _ => trivial) (fun _ _ _ => trivial) (fun _ _ => trivial) (fun _ _ => trivial) (fun r M' h => ?_)
  obtain ⟨x, rfl, hp⟩ := h
  rw [hz.1, hz.2]
  exact kk x M' hp
theorem j_callVv {P : jM → Prop} {c0 : Int} {kds : List Nat} (hlk : jlV d.1 idx ci y dc n) (hrm : jroom d dc) (hz : dc.2.2.2.2.1.cells = 0 ∧ dc.2.2.2.2.1.slots = 0) (hd : decode d.2.1 pc = .ok (.invokevirtual idx, 3)) (ho : 0 ≤ c0 ∧ sh[c0.toNat]? = some (.inr (ci, kds))) (hC : jC y dc X (jT, sh) sh (jR c0 :: as) M (jqV P)) (hstk : stk = as.reverse ++ jR c0 :: st) (hn : as.length = n) (hcat : jcats st ≤ 8)
    (kk : ∀ (M' : jM), P M' → jG d X (jT, sh) sh 0 0 Q (pc + 3) ls st M') : jG d X (jT, sh) sh 0 0 Q pc ls stk M := by
  refine j_callV' hlk hrm ho.1 ho.2 hC hd hstk hn hcat (by rw [hz.1, hz.2]; exact ⟨Nat.zero_le _, Nat.zero_le _⟩) (fun _ _ => trivial) (fun _ _ _ => trivial) (fun _ _ => trivial) (fun _ _ => trivial) (fun r M' h => ?_)
  obtain ⟨rfl, hp⟩ := h
  rw [hz.1, hz.2]
  exact kk M' hp
/-! Math.max, Math.min -/
theorem j_mmax {x y' : Int} {F : jF} {kc ks : Nat} (hlk : Cond.methodLink d.1 idx Lib.Math.max.name ∈ jtbl) (hw : Cond.static Lib.Math.max.name ∈ jtbl ∧ Cond.initialized "java/lang/Math" ∈ jtbl ∧ Cond.code Lib.Math.max.name Lib.Math.max.code 2 (some .int) ∈ jtbl) (hR : 1 ≤ d.2.2.2.2.1.frames ∧ jcats st + 13 ≤ d.2.2.2.2.1.locals) (hk : kc ≤ d.2.2.2.2.1.cells ∧ ks ≤ d.2.2.2.2.1.slots) (hd : decode d.2.1 pc = .ok (.invokestatic idx, 3)) (kk : jG d X F sh kc ks Q (pc + 3) ls (jI (max x y') :: st) M) : jG d X F sh kc ks Q pc ls (jI y' :: jI x :: st) M := by
  intro p l e s m args below meth c Z cy ad0 ad A H locs lsA hE hww hst hls hh
  have hts := hE.2.2.2.2.2.1
  have hx : jr x := jok_hd (jok_tl hst)
  have hy : jr y' := jok_hd hst
  refine va_mmax hE.1 hE.2.1 (by rw [hE.2.2.2.1, hh.1]) hE.2.2.2.2.1 (hts _ hlk) (hts _ hw.1) (hts _ hw.2.1) (hts _ hw.2.2) hR.1 (by rw [jcats_eq]; exact hR.2) hk.1 hk.2 hd ?_
  have e1 : (if Int32.ofInt x < Int32.ofInt y' then Int32.ofInt y' else Int32.ofInt x) = Int32.ofInt (max x y') := by
    by_cases h : x < y'
    · rw [if_pos ((jo_lt hx hy).mpr h), Int.max_eq_right (by omega)]
    · rw [if_neg (fun z => h ((jo_lt hx hy).mp z)), Int.max_eq_left (by omega)]
  rw [e1]
  exact kk p l e s m args below meth c Z cy ad0 ad A H locs lsA hE hww (jok_cons (v := jI (max x y')) (show jr (max x y') from ⟨by omega, by omega⟩) (jok_tl (jok_tl hst))) hls hh
theorem j_mmin {x y' : Int} {F : jF} {kc ks : Nat} (hlk : Cond.methodLink d.1 idx Lib.Math.min.name ∈ jtbl) (hw : Cond.static Lib.Math.min.name ∈ jtbl ∧ Cond.initialized "java/lang/Math" ∈ jtbl ∧ Cond.code Lib.Math.min.name Lib.Math.min.code 2 (some .int) ∈ jtbl) (hR : 1 ≤ d.2.2.2.2.1.frames ∧ jcats st + 13 ≤ d.2.2.2.2.1.locals) (hk : kc ≤ d.2.2.2.2.1.cells ∧ ks ≤ d.2.2.2.2.1.slots) (hd : decode d.2.1 pc = .ok (.invokestatic idx, 3)) (kk : jG d X F sh kc ks Q (pc + 3) ls (jI (min x y') :: st) M) : jG d X F sh kc ks Q pc ls (jI y' :: jI x :: st) M := by
  intro p l e s m args below meth c Z cy ad0 ad A H locs lsA hE hww hst hls hh
  have hts := hE.2.2.2.2.2.1
  have hx : jr x := jok_hd (jok_tl hst)
  have hy : jr y' := jok_hd hst
  refine va_mmin hE.1 hE.2.1 (by rw [hE.2.2.2.1, hh.1]) hE.2.2.2.2.1 (hts _ hlk) (hts _ hw.1) (hts _ hw.2.1) (hts _ hw.2.2) hR.1 (by rw [jcats_eq]; exact hR.2) hk.1 hk.2 hd ?_
  have e1 : (if Int32.ofInt y' < Int32.ofInt x then Int32.ofInt y' else Int32.ofInt x) = Int32.ofInt (min x y') := by
    by_cases h : y' < x
    · rw [if_pos ((jo_lt hy hx).mpr h), Int.min_eq_right (by omega)]
    · rw [if_neg (fun z => h ((jo_lt hy hx).mp z)), Int.min_eq_left (by omega)]
  rw [e1]
  exact kk p l e s m args below meth c Z cy ad0 ad A H locs lsA hE hww (jok_cons (v := jI (min x y')) (show jr (min x y') from ⟨by omega, by omega⟩) (jok_tl (jok_tl hst))) hls hh
end JR5
