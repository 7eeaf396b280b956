/-! ===== cells are made ===== -/
def jz (M : jM) (c : Int) : jM := fun c' k => if c' = c then 0 else M c' k
theorem jz_at (M : jM) (c k : Int) : jz M c c k = 0 := by unfold jz; rw [if_pos rfl]
theorem jz_ne {M : jM} {c c' : Int} (h : c' ≠ c) : jz M c c' = M c' := by funext k; unfold jz; rw [if_neg h]
def jad (ad : Int → Nat) (c : Int) (q : Nat) : Int → Nat := fun i => if i = c then q else ad i
theorem jad_at (ad : Int → Nat) (c : Int) (q : Nat) : jad ad c q c = q := by unfold jad; rw [if_pos rfl]
theorem jad_ne {ad : Int → Nat} {c i : Int} {q : Nat} (h : i ≠ c) : jad ad c q i = ad i := by unfold jad; rw [if_neg h]
def jno1 (n : Nat) (s : jS) : Prop := match s with
  | .inl _ => True
  | .inr o => ∀ k ∈ o.2, k ≠ 2 ∧ k ≠ n + 10
/-- no field of the shape moves, none is the place n -/
def jno (n : Nat) (sh : List jS) : Prop := ∀ s ∈ sh, jno1 n s
theorem jfv_ad {ad : Int → Nat} {q n k : Nat} {x : Int} (h2 : k ≠ 2) (hn : k ≠ n + 10) : jfv (jad ad (n : Int) q) k x = jfv ad k x := by
  unfold jfv
  by_cases h5 : k = 5
  · rw [if_pos h5, if_pos h5]
  · rw [if_neg h5, if_neg h5]
    match k, h2, hn with
    | 0, _, _ => rfl
    | 1, _, _ => rfl
    | 2, h, _ => exact absurd rfl h
    | k + 3, _, hn =>
      show Value.ref (jad ad (n : Int) q (((k + 3 : Nat) : Int) - 10)) = Value.ref (ad (((k + 3 : Nat) : Int) - 10))
      rw [jad_ne (by omega)]
theorem jcell_ad {ad : Int → Nat} {cy : Nat → ClassId} {M : jM} {q n : Nat} {c : Int} (hc : c ≠ (n : Int)) : ∀ s : jS, jno1 n s → jcell (jad ad (n : Int) q) cy (jz M n) c s = jcell ad cy M c s
  | .inl a, _ => by simp only [jcell, jz_ne hc]
  | .inr o, h => by
    simp only [jcell, jz_ne hc]
    congr 2
    apply List.ext_getElem?
    intro j
    rw [List.getElem?_mapIdx, List.getElem?_mapIdx]
    cases hj : o.2[j]? with
    | none => rfl
    | some k =>
      have hk := h k (List.mem_of_getElem? hj)
      rw [Option.map_some, Option.map_some, jfv_ad hk.1 hk.2]
theorem jW_app {ad : Int → Nat} {cy : Nat → ClassId} {M : jM} {sh : List jS} {q n : Nat} {s : jS} (hn : sh.length = n) (h : jno n sh) : jW (jad ad (n : Int) q) cy (jz M n) (sh ++ [s]) = jW ad cy M sh ++ [(q, jcell (jad ad (n : Int) q) cy (jz M n) n s)] := by
  apply List.ext_getElem?
  intro j
  rcases Nat.lt_trichotomy j n with hj | hj | hj
  · have hl : j < sh.length := by omega
    rw [List.getElem?_append_left (by rw [jW_len]; exact hl)]
    have e : sh[j]? = some sh[j] := List.getElem?_eq_getElem hl
    rw [jW_get (s := sh[j]) (by rw [List.getElem?_append_left hl]; exact e), jW_get e, jad_ne (by omega), jcell_ad (by omega) _ (h _ (List.getElem_mem hl))]
  · subst hj
    rw [jW_get (s := s) (by rw [List.getElem?_append_right (by omega), hn, Nat.sub_self]; rfl), List.getElem?_append_right (by rw [jW_len]; omega), jW_len, hn, Nat.sub_self, jad_at]
    rfl
  · rw [List.getElem?_eq_none (by rw [jW_len, List.length_append]; simp only [List.length_cons, List.length_nil]; omega), List.getElem?_eq_none (by rw [List.length_append, jW_len]; simp only [List.length_cons, List.length_nil]; omega)]
theorem jW_setS {ad : Int → Nat} {cy : Nat → ClassId} {M : jM} {sh : List jS} {i : Nat} {s : jS} {e : va_E} (h : i < sh.length) (he : jcell ad cy M i s = e) : (jW ad cy M sh).set i (ad i, e) = jW ad cy M (sh.set i s) := by
  apply List.ext_getElem?
  intro j
  by_cases hj : j = i
  · subst hj
    rw [List.getElem?_set_self (by rw [jW_len]; exact h), jW_get (s := s) (List.getElem?_set_self h), he]
  · rw [List.getElem?_set_ne (fun q => hj q.symm)]
    cases hs : sh[j]? with
    | none =>
      rw [List.getElem?_eq_none (by rw [jW_len]; exact List.getElem?_eq_none_iff.mp hs), List.getElem?_eq_none (by rw [jW_len, List.length_set]; exact List.getElem?_eq_none_iff.mp hs)]
    | some t => rw [jW_get hs, jW_get (s := t) (by rw [List.getElem?_set_ne (fun q => hj q.symm)]; exact hs)]
theorem jExt.ad {X : jX} {ad ad' : Int → Nat} {A : Nat → Prop} {s : State} (h : jExt X ad A s) (e3 : ∀ i : Int, i < 0 → ad' i = ad i) : jExt X ad' A s := by
  obtain ⟨⟨z1, z2, z3⟩, z4, z5, z6, z7, z8, z9⟩ := h
  refine ⟨by rw [e3 (-2) (by decide)]; exact ⟨z1, z2, z3⟩, ?_, fun i hi => by rw [e3 _ (by omega)]; exact z5 i hi, z6, z7, z8, z9⟩
  have f1 : (fun i : Nat => ad' (-10 - (i : Int))) = fun i : Nat => ad (-10 - (i : Int)) := by funext i; exact e3 _ (by omega)
  have f2 : (fun i : Nat => ad' (-40 - (i : Int))) = fun i : Nat => ad (-40 - (i : Int)) := by funext i; exact e3 _ (by omega)
  rw [f1, f2]; exact z4
theorem jlong_app {sh : List jS} {s : jS} {c k : Int} (h : jlong sh c k = true) : jlong (sh ++ [s]) c k = true := by
  unfold jlong at h ⊢
  cases hs : sh[c.toNat]? with
  | none => rw [hs] at h; cases h
  | some t => rw [List.getElem?_append_left (List.getElem?_eq_some_iff.mp hs).1, hs]; rw [hs] at h; exact h
theorem jokM_z {sh : List jS} {s : jS} {M : jM} {n : Int} (h : jokM sh M) : jokM (sh ++ [s]) (jz M n) := by
  intro c k
  by_cases e : c = n
  · right; rw [e, jz_at]; omega
  · rw [jz_ne e]
    rcases h c k with z | z
    · exact Or.inl (jlong_app z)
    · exact Or.inr z
section JRC
variable {d : jD} {X : jX} {F : jF} {sh sh' : List jS} {kc ks : Nat} {Q : Option jV → jM → Prop} {pc : Nat} {ls : List (Nat × jV)} {st : List jV} {M : jM}
/-- the world with one cell more -/
theorem jWorld_app {s : State} {Z : va_G} {cy : Nat → ClassId} {ad0 ad : Int → Nat} {A : Nat → Prop} {H H1 : Heap} {locs : List Loc} {q n : Nat} {t : jS} (hw : jWorld X F sh M s Z cy ad0 ad A H locs) (hn : sh.length = n) (hno : jno n sh) (hF : ∀ i, F.1 i → i ≠ (n : Int))
    (hP : va_P Z vwCl (jW ad cy M sh ++ [(q, jcell (jad ad (n : Int) q) cy (jz M n) n t)]) H1) (hD : va_D A (jW ad cy M sh ++ [(q, jcell (jad ad (n : Int) q) cy (jz M n) n t)])) (hS : va_S A s.heap H1 locs) : jWorld X F (sh ++ [t]) (jz M n) s Z cy ad0 (jad ad (n : Int) q) A H1 locs := by
  obtain ⟨w1, w2, w3, w4, w5, w6, w7, w8⟩ := hw
  rw [← jW_app hn hno] at hP hD
  exact ⟨w1.ad (fun i hi => jad_ne (by omega)), fun i hi => by rw [jad_ne (hF i hi)]; exact w2 i hi, w3, hP, hD, hS, w7, jokM_z w8⟩
theorem j_madeS {ad : Int → Nat} {q n : Nat} (hs : ∀ r, jR r ∈ st → r ≠ (n : Int)) : (jR (n : Int) :: st).map (jcv (jad ad (n : Int) q)) = .ref q :: st.map (jcv ad) := by
  rw [List.map_cons]
  congr 1
  · show Value.ref (jad ad (n : Int) q n) = _
    rw [jad_at]
  · exact List.map_congr_left (fun v hv => jcv_congr (fun r h => jad_ne (hs r (h ▸ hv))))
theorem j_madeL {ad : Int → Nat} {q n : Nat} (hl : ∀ i r, (i, jR r) ∈ ls → r ≠ (n : Int)) : ls.map (fun z => (z.1, jcv (jad ad (n : Int) q) z.2)) = ls.map (fun z => (z.1, jcv ad z.2)) :=
  List.map_congr_left (fun z hz => by rw [jcv_congr (fun r h => jad_ne (hl z.1 r (by rw [← h]; exact hz)))])
def dK (ty : FieldType) : Nat := match ty with
  | .int => 0
  | .long => 1
  | .object _ => 5
  | .array _ => 5
  | _ => 9
theorem dK_v {ad : Int → Nat} {ty : FieldType} (h : dK ty ≠ 9) : defaultValue ty = jfv ad (dK ty) 0 := by
  cases ty with
  | int => rfl
  | long => rfl
  | object _ => rfl
  | array _ => rfl
  | _ => exact absurd rfl h
theorem j_new {C : String} {T : u_T} {N n idx ci : Nat} {ty0 : Nat → FieldType} (hcl : jcls ci C T N ty0) (hlk : Cond.classLink d.1 idx C ∈ jtbl ∧ Cond.instantiable C N ∈ jtbl ∧ Cond.initialized C ∈ jtbl) {kds : List Nat} (hkl : kds.length = N) (hkd : ∀ j, j < N → kds[j]? = some (dK (ty0 j)) ∧ dK (ty0 j) ≠ 9) (hn : sh.length = n) (hno : jno n sh) (hF : ∀ i, F.1 i → i ≠ (n : Int)) (hs : ∀ r, jR r ∈ st → r ≠ (n : Int)) (hl : ∀ i r, (i, jR r) ∈ ls → r ≠ (n : Int))
    (hc : kc + 1 ≤ d.2.2.2.2.1.cells ∧ ks + N ≤ d.2.2.2.2.1.slots) (hd : decode d.2.1 pc = .ok (.new idx, 3)) (hsh : sh' = sh ++ [.inr (ci, kds)]) (kk : jG d X F sh' (kc + 1) (ks + N) Q (pc + 3) ls (jR (n : Int) :: st) (jz M n)) : jG d X F sh kc ks Q pc ls st M := by
  subst hsh
  intro p l e s m args below meth cc Z cy ad0 ad A H locs lsA hE hw hst hls hh
  obtain ⟨h1, h2, h3, h4⟩ := hcl
  obtain ⟨w1, w2, w3, w4, w5, w6, w7, w8⟩ := id hw
  have hts := hE.2.2.2.2.2.1
  refine va_new (C := C) (T := T) (N := N) (ci := ci) (fs := kds.mapIdx (fun j kd => jfv ad kd 0)) hE.1 hE.2.1 hts h2 ty0 h3 hE.2.2.2.2.1 (hts _ hlk.1) (hts _ hlk.2.1) (hts _ hlk.2.2) w3 w4 w5 w6 w7 h1 (fun j hj => ?_) hc.1 hc.2 hd (fun q H1 hP hD hS => ?_)
  · have := hkd j hj
    unfold vp_V
    rw [List.getD_eq_getElem?_getD, List.getElem?_mapIdx, this.1, Option.map_some, Option.getD_some]
    exact dK_v this.2
  · have e1 : jcell (jad ad (n : Int) q) cy (jz M n) n (.inr (ci, kds)) = .inr (ci, kds.mapIdx (fun j kd => jfv ad kd 0)) := by
      simp only [jcell]
      congr 2
      apply List.ext_getElem?
      intro j
      rw [List.getElem?_mapIdx, List.getElem?_mapIdx]
      cases hj : kds[j]? with
      | none => rfl
      | some k =>
        rw [Option.map_some, Option.map_some, jz_at]
        by_cases hjN : j < N
        · have := hkd j hjN
          rw [hj] at this
          have ek : k = dK (ty0 j) := Option.some.inj this.1
          rw [ek]
          congr 1
          cases hty : ty0 j with
          | int => rfl
          | long => rfl
          | object _ => rfl
          | array _ => rfl
          | _ => exact absurd (by rw [hty]; rfl) this.2
        · exact absurd (List.getElem?_eq_some_iff.mp hj).1 (by omega)
    rw [← e1] at hP hD
    have hw' := jWorld_app hw hn hno hF hP hD hS
    rw [← j_madeS (ad := ad) (q := q) hs]
    exact kk p l e s m args below meth cc Z cy ad0 _ A H1 locs lsA hE hw' (jok_cons (v := jR (n : Int)) trivial hst) hls (by rw [j_madeL hl]; exact hh)
/-- what a new array holds -/
def jdf (kd : Nat) : (Nat → Int32) ⊕ (Nat → Int64) ⊕ (Nat → UInt32) ⊕ (Nat → UInt64) ⊕ (Nat → Option Nat) := if kd = 1 then .inr (.inl (fun _ => Int64.ofInt 0)) else .inl (fun _ => Int32.ofInt 0)
def jaty (kd : Nat) (at_ : ArrayType) (ty : FieldType) (i : Nat) : Prop := (∀ cy : Nat → ClassId, (jtys cy)[i]? = some (cy kd, ty)) ∧ newarray.typeOf at_ = ty ∧ Cond.arrayClass ty ∈ jtbl ∧ (∀ (U : State) (a c : ClassId), va_RA U a ty → va_RA U c ty → a = c) ∧ ∀ (cA : ClassId) (N : Nat), vp_cell cA (N, jdf kd) = arrV cA N (fun _ => defaultValue ty)
theorem j_newa {kd i len n : Nat} {at_ : ArrayType} {ty : FieldType} {x : Int} (ha : jaty kd at_ ty i) (hx : (¬ Int32.ofInt x < 0) ∧ (Int32.ofInt x).toNatClampNeg = len ∧ len * componentBytes ty ≤ 536870912) (hn : sh.length = n) (hno : jno n sh) (hF : ∀ i, F.1 i → i ≠ (n : Int)) (hs : ∀ r, jR r ∈ st → r ≠ (n : Int)) (hl : ∀ i r, (i, jR r) ∈ ls → r ≠ (n : Int))
    (hc : kc + 1 ≤ d.2.2.2.2.1.cells ∧ ks + len ≤ d.2.2.2.2.1.slots) (hd : decode d.2.1 pc = .ok (.newarray at_, 2)) (hsh : sh' = sh ++ [.inl (kd, len)]) (kk : jG d X F sh' (kc + 1) (ks + len) Q (pc + 2) ls (jR (n : Int) :: st) (jz M n)) : jG d X F sh kc ks Q pc ls (jI x :: st) M := by
  subst hsh
  intro p l e s m args below meth cc Z cy ad0 ad A H locs lsA hE hw hst hls hh
  obtain ⟨a1, a2, a3, a4, a5⟩ := ha
  obtain ⟨w1, w2, w3, w4, w5, w6, w7, w8⟩ := id hw
  have hts := hE.2.2.2.2.2.1
  refine va_newa (ty := ty) (N' := len) (a0 := (len, jdf kd)) hE.1 hE.2.1 (by rw [a2]; exact hts _ a3) a2 w3 w4 w5 w6 w7 (fun cA => a5 cA len) hx.1 hx.2.1 hx.2.2 hc.1 hc.2 hd (fun q cA H1 hK hP hD hS => ?_)
  have ecA : cA = cy kd := by
    refine a4 s cA (cy kd) (hK.2 4 (cA, ty) rfl).2 (w3.2 i (cy kd, ty) (a1 cy)).2
  subst ecA
  have e1 : jcell (jad ad (n : Int) q) cy (jz M n) n (.inl (kd, len)) = .inl (cy kd, (len, jdf kd)) := by
    simp only [jcell, jz_at]
    unfold jdf
    split <;> rfl
  rw [← e1] at hP hD
  have hw' := jWorld_app hw hn hno hF hP hD hS
  show W p l e d.2.2.2.2.1 s m args below meth cc H1 locs (kc + 1) (ks + len) _ (F0 m (pc + 2) lsA (.ref q :: st.map (jcv ad)))
  rw [← j_madeS (ad := ad) (q := q) hs]
  exact kk p l e s m args below meth cc Z cy ad0 _ A H1 locs lsA hE hw' (jok_cons (v := jR (n : Int)) trivial (jok_tl hst)) hls (by rw [j_madeL hl]; exact hh)
/-- a field that was null gets the cell t -/
theorem jcell_set {ad : Int → Nat} {cy : Nat → ClassId} {c t : Int} {ci k : Nat} {kds : List Nat} {kd : Nat} (hk : kds[k]? = some 5) (hkd : (kd : Int) = t + 10 ∧ 10 ≤ kd) : jcell ad cy M c (.inr (ci, kds.set k kd)) = .inr (ci, (kds.mapIdx (fun j q => jfv ad q (M c j))).set k (jcv ad (jR t))) := by
  have hkl := (List.getElem?_eq_some_iff.mp hk).1
  simp only [jcell]
  congr 2
  apply List.ext_getElem?
  intro j
  by_cases hj : j = k
  · subst hj
    rw [List.getElem?_set_self (by simpa using hkl), List.getElem?_mapIdx, List.getElem?_set_self hkl, Option.map_some]
    unfold jfv
    rw [if_neg (by omega), jkv_ref hkd.1 hkd.2]
  · rw [List.getElem?_set_ne (fun q => hj q.symm), List.getElem?_mapIdx, List.getElem?_mapIdx, List.getElem?_set_ne (fun q => hj q.symm)]
theorem jlong_set {i : Nat} {ci k : Nat} {kds : List Nat} {kd : Nat} (hs : sh[i]? = some (.inr (ci, kds))) (hk : kds[k]? = some 5) (hkd : 10 ≤ kd) (c x : Int) : jlong (sh.set i (.inr (ci, kds.set k kd))) c x = jlong sh c x := by
  unfold jlong
  by_cases e : c.toNat = i
  · rw [e, List.getElem?_set_self (List.getElem?_eq_some_iff.mp hs).1, hs]
    show ((kds.set k kd)[x.toNat]? == some 1) = (kds[x.toNat]? == some 1)
    by_cases e2 : x.toNat = k
    · rw [e2, List.getElem?_set_self (List.getElem?_eq_some_iff.mp hk).1, hk]
      simp
      omega
    · rw [List.getElem?_set_ne (fun q => e2 q.symm)]
  · rw [List.getElem?_set_ne (fun q => e q.symm)]
theorem j_putr {c t : Int} {idx ci k kd : Nat} {kds : List Nat} {ty : FieldType} {fin : Bool} (hf : jfl d.1 idx ci k ty fin) (hown : fin = true → d.2.2.2.2.2 = true ∧ ∃ T N, vwCl[ci]? = some (d.1, T, N)) (hty : ∀ a : Nat, narrow ty (.ref a) = .ref a ∧ fits ty (.ref a) = true) (h0 : 0 ≤ c) (ho : sh[c.toNat]? = some (.inr (ci, kds))) (hk5 : kds[k]? = some 5) (hkd : (kd : Int) = t + 10 ∧ 10 ≤ kd) (hd : decode d.2.1 pc = .ok (.putfield idx, 3)) (hsh : sh' = sh.set c.toNat (.inr (ci, kds.set k kd)))
    (kk : jG d X F sh' kc ks Q (pc + 3) ls st M) : jG d X F sh kc ks Q pc ls (jR t :: jR c :: st) M := by
  subst hsh
  intro p l e s m args below meth cc Z cy ad0 ad A H locs lsA hE hw hst hls hh
  obtain ⟨C, T, N, ty0, ⟨h1, h2, h3, h4⟩, hk, htk, hfin, hdecl, hlink, -⟩ := hf
  obtain ⟨w1, w2, w3, w4, w5, w6, w7, w8⟩ := id hw
  have hc : ((c.toNat : Nat) : Int) = c := Int.toNat_of_nonneg h0
  have hg := jW_get (ad := ad) (cy := cy) (M := M) ho
  rw [hc] at hg
  have hkl := (List.getElem?_eq_some_iff.mp hk5).1
  have hsl := (List.getElem?_eq_some_iff.mp ho).1
  have e1 := jcell_set (M := M) (ad := ad) (cy := cy) (c := c) (ci := ci) hk5 hkd
  have e2 := jW_setS (ad := ad) (cy := cy) (M := M) (s := .inr (ci, kds.set k kd)) hsl rfl
  rw [hc, e1] at e2
  have go : ∀ (H1 : Heap) (locs1 : List Loc), va_P Z vwCl ((jW ad cy M sh).set c.toNat (ad c, .inr (ci, (kds.mapIdx (fun j q => jfv ad q (M c j))).set k (jcv ad (jR t))))) H1 → va_D A ((jW ad cy M sh).set c.toNat (ad c, .inr (ci, (kds.mapIdx (fun j q => jfv ad q (M c j))).set k (jcv ad (jR t))))) → va_S A s.heap H1 locs1 →
      W p l e d.2.2.2.2.1 s m args below meth cc H1 locs1 kc ks (MQ below (jQc Q F Z cy ad0 A) args s d.2.2.2.2.1.cells d.2.2.2.2.1.slots A) (F0 m (pc + 3) lsA (st.map (jcv ad))) := by
    intro H1 locs1 hP hD hS
    rw [e2] at hP hD
    exact kk p l e s m args below meth cc Z cy ad0 ad A H1 locs1 lsA hE ⟨w1, w2, w3, hP, hD, hS, w7, fun a b => by rw [jlong_set ho hk5 hkd.2]; exact w8 a b⟩ (jok_tl (jok_tl hst)) hls hh
  cases fin with
  | true =>
    obtain ⟨o1, T2, N2, o2⟩ := hown rfl
    have eC : d.1 = C := congrArg Prod.fst (Option.some.inj (o2.symm.trans h1))
    exact va_putF (D := Z) (ci := ci) (v := jcv ad (jR t)) (ty := ty) (C := C) (T := T) (N := N) hE.1 hE.2.1 hE.2.2.2.2.2.1 h2 ty0 h3 h4 hE.2.2.2.2.1 w3 w4 w5 w6 c.toNat hg h1 k hk (hE.2.2.2.2.2.1 _ hlink) (fun _ h9 => h9) hfin (hE.2.2.2.2.2.2.2 o1) (hdecl eC) (by rw [h3 k hk, htk]) (hty _).1 (hty _).2 (by simpa using hkl) hd go
  | false =>
    exact va_put (D := Z) (ci := ci) (v := jcv ad (jR t)) (ty := ty) (C := C) (T := T) (N := N) hE.1 hE.2.1 hE.2.2.2.2.2.1 h2 ty0 h3 h4 hE.2.2.2.2.1 w3 w4 w5 w6 c.toNat hg h1 k hk (hE.2.2.2.2.2.1 _ hlink) (fun _ h9 => h9) hfin (by rw [h3 k hk, htk]) (hty _).1 (hty _).2 (by simpa using hkl) hd go
/-- Object's constructor -/
theorem j_obj {c : Int} {idx : Nat} (hlk : Cond.methodLink d.1 idx Lib.objectInit ∈ jtbl ∧ Cond.instanceMethod Lib.objectInit ∈ jtbl ∧ Cond.code Lib.objectInit ⟨#[0xb1]⟩ 1 none ∈ jtbl) (hr : 1 ≤ d.2.2.2.2.1.frames ∧ jcats st + 12 ≤ d.2.2.2.2.1.locals) (hd : decode d.2.1 pc = .ok (.invokespecial idx, 3)) (kk : jG d X F sh kc ks Q (pc + 3) ls st M) : jG d X F sh kc ks Q pc ls (jR c :: st) M := by
  intro p l e s m args below meth cc Z cy ad0 ad A H locs lsA hE hw hst hls hh
  have hts := hE.2.2.2.2.2.1
  refine W.objInit hE.1 hE.2.1 hE.2.2.2.2.1 (hts _ hlk.1) (hts _ hlk.2.1) (hts _ hlk.2.2) (g := F0 m pc lsA ((jR c :: st).map (jcv ad))) rfl (by rw [hE.2.2.2.1]; exact hh.1) rfl hd hr.1 (by rw [jcats_eq]; simpa [F0] using hr.2) ?_
  exact kk p l e s m args below meth cc Z cy ad0 ad A H locs lsA hE hw (jok_tl hst) hls hh
/-- the same cells, by another shape -/
theorem j_conv (hW : ∀ (ad : Int → Nat) (cy : Nat → ClassId), jW ad cy M sh = jW ad cy M sh') (hL : ∀ c k, jlong sh c k = true → jlong sh' c k = true) (kk : jG d X F sh' kc ks Q pc ls st M) : jG d X F sh kc ks Q pc ls st M := by
  intro p l e s m args below meth cc Z cy ad0 ad A H locs lsA hE hw hst hls hh
  obtain ⟨w1, w2, w3, w4, w5, w6, w7, w8⟩ := hw
  refine kk p l e s m args below meth cc Z cy ad0 ad A H locs lsA hE ⟨w1, w2, w3, by rw [← hW]; exact w4, by rw [← hW]; exact w5, w6, w7, fun c k => ?_⟩ hst hls hh
  rcases w8 c k with z | z
  · exact Or.inl (hL c k z)
  · exact Or.inr z
end JRC
