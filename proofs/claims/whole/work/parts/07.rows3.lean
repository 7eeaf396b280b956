/-! ===== cells: fields, arrays ===== -/
theorem jcell_congr {ad : Int → Nat} {cy : Nat → ClassId} {M N : jM} {c : Int} (h : ∀ k, N c k = M c k) : ∀ s : jS, jcell ad cy N c s = jcell ad cy M c s
  | .inl a => by simp only [jcell, h]
  | .inr o => by simp only [jcell, h]
theorem jW_get {ad : Int → Nat} {cy : Nat → ClassId} {M : jM} {sh : List jS} {i : Nat} {s : jS} (h : sh[i]? = some s) : (jW ad cy M sh)[i]? = some (ad i, jcell ad cy M i s) := by
  simp only [jW, List.getElem?_mapIdx, h, Option.map_some]
theorem jW_len {ad : Int → Nat} {cy : Nat → ClassId} {M : jM} {sh : List jS} : (jW ad cy M sh).length = sh.length := by simp [jW]
/-- one cell is written -/
theorem jW_set {ad : Int → Nat} {cy : Nat → ClassId} {M N : jM} {sh : List jS} {i : Nat} {s : jS} {e : va_E} (h : sh[i]? = some s) (he : jcell ad cy N i s = e) (ho : ∀ c k : Int, c ≠ (i : Int) → N c k = M c k) : (jW ad cy M sh).set i (ad i, e) = jW ad cy N sh := by
  apply List.ext_getElem?
  intro j
  by_cases hj : j = i
  · subst hj
    rw [List.getElem?_set_self (by rw [jW_len]; exact (List.getElem?_eq_some_iff.mp h).1), jW_get h, he]
  · rw [List.getElem?_set_ne (fun q => hj q.symm)]
    cases hs : sh[j]? with
    | none => simp only [jW, List.getElem?_mapIdx, hs, Option.map_none]
    | some t => rw [jW_get hs, jW_get hs, jcell_congr (fun k => ho j k (by omega))]
theorem jup_self (M : jM) (c k v : Int) : jup M c k v c k = v := by simp [jup]
theorem jup_ne {M : jM} {c k v c' k' : Int} (h : ¬ (c' = c ∧ k' = k)) : jup M c k v c' k' = M c' k' := by simp [jup, h]
theorem jup_cell {M : jM} {c k v c' : Int} (h : c' ≠ c) : jup M c k v c' = M c' := by funext k'; exact jup_ne (fun z => h z.1)
theorem jup_cellk {M : jM} {c k v c' k' : Int} (h : c' ≠ c) : jup M c k v c' k' = M c' k' := jup_ne (fun z => h z.1)
theorem jokM_up {sh : List jS} {M : jM} (h : jokM sh M) {c k v : Int} (hv : jr v) : jokM sh (jup M c k v) := by
  intro c' k'
  by_cases e : c' = c ∧ k' = k
  · right; rw [e.1, e.2, jup_self]; exact hv
  · rw [jup_ne e]; exact h c' k'
theorem jokM_upL {sh : List jS} {M : jM} (h : jokM sh M) {c k v : Int} (hl : jlong sh c k = true) : jokM sh (jup M c k v) := by
  intro c' k'
  by_cases e : c' = c ∧ k' = k
  · left; rw [e.1, e.2]; exact hl
  · rw [jup_ne e]; exact h c' k'
/-- the class ci is C, with the fields T -/
def jcls (ci : Nat) (C : String) (T : u_T) (N : Nat) (ty0 : Nat → FieldType) : Prop := vwCl[ci]? = some (C, T, N) ∧ (∀ w ∈ u_ws C T N, w ∈ jtbl) ∧ (∀ k, k < N → parseFieldDescriptor (T k).2.2.1 = some (ty0 k)) ∧ (∀ a, a < N → ∀ b, b < N → a ≠ b → (T a).2.1 ≠ (T b).2.1)
/-- the pool entry idx of the class own is the field k of the class ci -/
def jfl (own : String) (idx ci k : Nat) (ty : FieldType) (fin : Bool) : Prop := ∃ (C : String) (T : u_T) (N : Nat) (ty0 : Nat → FieldType), jcls ci C T N ty0 ∧ k < N ∧ ty0 k = ty ∧ (T k).2.2.2 = fin ∧ (own = C → (T k).1 = own) ∧ Cond.fieldLink own idx (T k).1 (T k).2.1 (T k).2.2.1 ∈ jtbl ∧ vwCl[ci]? = some (C, T, N)
/-- the object c is of the class ci, its field k is of kind kd -/
def jfk (sh : List jS) (c : Int) (ci k kd : Nat) : Prop := 0 ≤ c ∧ ∃ kds : List Nat, sh[c.toNat]? = some (.inr (ci, kds)) ∧ kds[k]? = some kd
/-- its field k is the cell t -/
def jft (sh : List jS) (c : Int) (ci k : Nat) (t : Int) : Prop := ∃ kd : Nat, jfk sh c ci k kd ∧ (kd : Int) = t + 10 ∧ 10 ≤ kd
/-- the array c -/
def jar (sh : List jS) (c : Int) (kd n : Nat) : Prop := 0 ≤ c ∧ n < 2147483648 ∧ sh[c.toNat]? = some (.inl (kd, n))
section JR3
variable {d : jD} {X : jX} {F : jF} {sh : List jS} {kc ks : Nat} {Q : Option jV → jM → Prop} {pc : Nat} {ls : List (Nat × jV)} {st : List jV} {M : jM}
theorem j_get {v : jV} {c : Int} {idx ci k kd : Nat} {ty : FieldType} {fin : Bool} (hf : jfl d.1 idx ci k ty fin) (ho : jfk sh c ci k kd) (hd : decode d.2.1 pc = .ok (.getfield idx, 3)) (hv : ∀ ad, jfv ad kd (M c k) = jcv ad v) (hok : jokM sh M → jok v) (kk : jG d X F sh kc ks Q (pc + 3) ls (v :: st) M) : jG d X F sh kc ks Q pc ls (jR c :: st) M := by
  intro p l e s m args below meth cc Z cy ad0 ad A H locs lsA hE hw hst hls hh
  obtain ⟨C, T, N, ty0, ⟨h1, h2, h3, h4⟩, hk, -, -, -, hlink, -⟩ := hf
  obtain ⟨h0, kds, g1, g2⟩ := ho
  obtain ⟨w1, w2, w3, w4, w5, w6, w7, w8⟩ := id hw
  have hc : ((c.toNat : Nat) : Int) = c := Int.toNat_of_nonneg h0
  have hg := jW_get (ad := ad) (cy := cy) (M := M) g1
  rw [hc] at hg
  refine va_get (D := Z) (ci := ci) (v := jcv ad v) (C := C) (T := T) (N := N) hE.1 hE.2.1 hE.2.2.2.2.2.1 h2 hE.2.2.2.2.1 w3 w4 c.toNat hg h1 k hk (hE.2.2.2.2.2.1 _ hlink) (fun _ h9 => h9) ?_ hd (kk p l e s m args below meth cc Z cy ad0 ad A H locs lsA hE hw (jok_cons (hok w8) (jok_tl hst)) hls hh)
  rw [List.getElem?_mapIdx, g2, ← hv]
  rfl
theorem jlong_f {sh : List jS} {c : Int} {ci k kd : Nat} (ho : jfk sh c ci k kd) : jlong sh c (k : Int) = (kd == 1) := by
  obtain ⟨h0, kds, g1, g2⟩ := ho
  unfold jlong
  rw [g1]
  show (kds[((k : Nat) : Int).toNat]? == some 1) = _
  rw [show ((k : Nat) : Int).toNat = k from rfl, g2]
  simp
theorem jlong_a {sh : List jS} {c : Int} {kd n : Nat} (ho : jar sh c kd n) (k : Int) : jlong sh c k = (kd == 1) := by
  unfold jlong
  rw [ho.2.2]
theorem jok_f {sh : List jS} {M : jM} {c : Int} {ci k kd : Nat} (h : jokM sh M) (ho : jfk sh c ci k kd) (hk : kd ≠ 1) : jr (M c k) := by
  rcases h c k with z | z
  · rw [jlong_f ho] at z; simp at z; exact absurd z hk
  · exact z
theorem jok_a {sh : List jS} {M : jM} {c : Int} {kd n : Nat} (h : jokM sh M) (ho : jar sh c kd n) (hk : kd ≠ 1) (k : Int) : jr (M c k) := by
  rcases h c k with z | z
  · rw [jlong_a ho] at z; simp at z; exact absurd z hk
  · exact z
theorem j_geti {c : Int} {idx ci k : Nat} {ty : FieldType} {fin : Bool} (hf : jfl d.1 idx ci k ty fin) (ho : jfk sh c ci k 0) (hd : decode d.2.1 pc = .ok (.getfield idx, 3)) {k' : Int} (hk : (k : Int) = k') (kk : jG d X F sh kc ks Q (pc + 3) ls (jI (M c k') :: st) M) : jG d X F sh kc ks Q pc ls (jR c :: st) M := by
  subst hk
  exact j_get (v := jI (M c k)) hf ho hd (fun ad => rfl) (fun h => jok_f h ho (by decide)) kk
theorem j_getl {c : Int} {idx ci k : Nat} {ty : FieldType} {fin : Bool} (hf : jfl d.1 idx ci k ty fin) (ho : jfk sh c ci k 1) (hd : decode d.2.1 pc = .ok (.getfield idx, 3)) {k' : Int} (hk : (k : Int) = k') (kk : jG d X F sh kc ks Q (pc + 3) ls (jL (M c k') :: st) M) : jG d X F sh kc ks Q pc ls (jR c :: st) M := by
  subst hk
  exact j_get (v := jL (M c k)) hf ho hd (fun ad => rfl) (fun _ => trivial) kk
theorem j_getd {c : Int} {idx ci k : Nat} {ty : FieldType} {fin : Bool} (hf : jfl d.1 idx ci k ty fin) (ho : jfk sh c ci k 2) (hd : decode d.2.1 pc = .ok (.getfield idx, 3)) {k' : Int} (hk : (k : Int) = k') (kk : jG d X F sh kc ks Q (pc + 3) ls (jR (M c k') :: st) M) : jG d X F sh kc ks Q pc ls (jR c :: st) M := by
  subst hk
  exact j_get (v := jR (M c k)) hf ho hd (fun ad => rfl) (fun _ => trivial) kk
theorem jkv_ref {kd : Nat} {t : Int} (h : (kd : Int) = t + 10) (h10 : 10 ≤ kd) (x : Int) : jkv kd x = jR t := by
  unfold jkv
  split
  · omega
  · omega
  · omega
  · rename_i z1 z2 z3
    congr 2
    omega
theorem j_getr0 {c t : Int} {idx ci k kd : Nat} {ty : FieldType} {fin : Bool} (hf : jfl d.1 idx ci k ty fin) (ho : jfk sh c ci k kd) (ht : (kd : Int) = t + 10) (h10 : 10 ≤ kd) (hd : decode d.2.1 pc = .ok (.getfield idx, 3)) (kk : jG d X F sh kc ks Q (pc + 3) ls (jR t :: st) M) : jG d X F sh kc ks Q pc ls (jR c :: st) M := by
  refine j_get (v := jR t) hf ho hd (fun ad => ?_) (fun _ => trivial) kk
  unfold jfv
  rw [if_neg (by omega), jkv_ref ht h10]
theorem j_getr {c t : Int} {idx ci k : Nat} {ty : FieldType} {fin : Bool} (hf : jfl d.1 idx ci k ty fin) (ho : jft sh c ci k t) (hd : decode d.2.1 pc = .ok (.getfield idx, 3)) (kk : jG d X F sh kc ks Q (pc + 3) ls (jR t :: st) M) : jG d X F sh kc ks Q pc ls (jR c :: st) M := by
  obtain ⟨kd, h1, h2, h3⟩ := ho
  exact j_getr0 hf h1 h2 h3 hd kk
/-- a field of an int, of a long, of a moving reference is written -/
theorem j_put {v : jV} {x c : Int} {idx ci k kd : Nat} {ty : FieldType} (hf : jfl d.1 idx ci k ty false) (ho : jfk sh c ci k kd) (hd : decode d.2.1 pc = .ok (.putfield idx, 3)) (hv : ∀ ad, jfv ad kd x = jcv ad v) (hnar : ∀ ad, narrow ty (jcv ad v) = jcv ad v) (hfit : ∀ ad, fits ty (jcv ad v) = true) (hok : jokM sh M → jok v → jokM sh (jup M c k x)) (kk : jG d X F sh kc ks Q (pc + 3) ls st (jup M c k x)) : jG d X F sh kc ks Q pc ls (v :: jR c :: st) M := by
  intro p l e s m args below meth cc Z cy ad0 ad A H locs lsA hE hw hst hls hh
  obtain ⟨C, T, N, ty0, ⟨h1, h2, h3, h4⟩, hk, hty, hfin, -, hlink, -⟩ := hf
  obtain ⟨h0, kds, g1, g2⟩ := ho
  obtain ⟨w1, w2, w3, w4, w5, w6, w7, w8⟩ := id hw
  have hc : ((c.toNat : Nat) : Int) = c := Int.toNat_of_nonneg h0
  have hg := jW_get (ad := ad) (cy := cy) (M := M) g1
  rw [hc] at hg
  have hkl := (List.getElem?_eq_some_iff.mp g2).1
  refine va_put (D := Z) (ci := ci) (v := jcv ad v) (ty := ty) (C := C) (T := T) (N := N) hE.1 hE.2.1 hE.2.2.2.2.2.1 h2 ty0 h3 h4 hE.2.2.2.2.1 w3 w4 w5 w6 c.toNat hg h1 k hk (hE.2.2.2.2.2.1 _ hlink) (fun _ h9 => h9) hfin (by rw [h3 k hk, hty]) (hnar ad) (hfit ad) (by simpa using hkl) hd (fun H1 locs1 hP hD hS => ?_)
  have e1 : jcell ad cy (jup M c k x) ((c.toNat : Nat) : Int) (.inr (ci, kds)) = .inr (ci, (kds.mapIdx (fun j kk => jfv ad kk (M c j))).set k (jcv ad v)) := by
    rw [hc]
    simp only [jcell]
    congr 2
    apply List.ext_getElem?
    intro j
    by_cases hj : j = k
    · subst hj
      rw [List.getElem?_set_self (by simpa using hkl), List.getElem?_mapIdx, g2, Option.map_some, jup_self, hv]
    · rw [List.getElem?_set_ne (fun q => hj q.symm), List.getElem?_mapIdx, List.getElem?_mapIdx]
      congr 1
      funext q
      rw [jup_ne (fun z => hj (by omega))]
  have e2 := jW_set (M := M) g1 e1 (fun c' k' hne => jup_ne (fun z => hne (by rw [hc]; exact z.1)))
  rw [hc] at e2
  rw [e2] at hP hD
  exact kk p l e s m args below meth cc Z cy ad0 ad A H1 locs1 lsA hE ⟨w1, w2, w3, hP, hD, hS, w7, hok w8 (jok_hd hst)⟩ (jok_tl (jok_tl hst)) hls hh
theorem j_puti {x c : Int} {idx ci k : Nat} (hf : jfl d.1 idx ci k .int false) (ho : jfk sh c ci k 0) (hd : decode d.2.1 pc = .ok (.putfield idx, 3)) {k' : Int} (hk : (k : Int) = k') (kk : jG d X F sh kc ks Q (pc + 3) ls st (jup M c k' x)) : jG d X F sh kc ks Q pc ls (jI x :: jR c :: st) M := by
  subst hk
  exact j_put (v := jI x) hf ho hd (fun ad => rfl) (fun ad => rfl) (fun ad => rfl) (fun h hv => jokM_up h hv) kk
theorem j_putl {x c : Int} {idx ci k : Nat} (hf : jfl d.1 idx ci k .long false) (ho : jfk sh c ci k 1) (hd : decode d.2.1 pc = .ok (.putfield idx, 3)) {k' : Int} (hk : (k : Int) = k') (kk : jG d X F sh kc ks Q (pc + 3) ls st (jup M c k' x)) : jG d X F sh kc ks Q pc ls (jL x :: jR c :: st) M := by
  subst hk
  exact j_put (v := jL x) hf ho hd (fun ad => rfl) (fun ad => rfl) (fun ad => rfl) (fun h _ => jokM_upL h (by rw [jlong_f ho]; rfl)) kk
theorem j_putd {x c : Int} {idx ci k : Nat} {nm : String} (hf : jfl d.1 idx ci k (.object nm) false) (ho : jfk sh c ci k 2) (hx : jr x) (hd : decode d.2.1 pc = .ok (.putfield idx, 3)) {k' : Int} (hk : (k : Int) = k') (kk : jG d X F sh kc ks Q (pc + 3) ls st (jup M c k' x)) : jG d X F sh kc ks Q pc ls (jR x :: jR c :: st) M := by
  subst hk
  exact j_put (v := jR x) hf ho hd (fun ad => rfl) (fun ad => rfl) (fun ad => rfl) (fun h _ => jokM_up h hx) kk
/-! arrays -/
theorem j_alen {c : Int} {kd n : Nat} (ho : jar sh c kd n) (hkd : kd = 0 ∨ kd = 1 ∨ kd = 3 ∨ kd = 4) (hd : decode d.2.1 pc = .ok (.arraylength, 1)) {n' : Int} (hn : (n : Int) = n') (kk : jG d X F sh kc ks Q (pc + 1) ls (jI n' :: st) M) : jG d X F sh kc ks Q pc ls (jR c :: st) M := by
  subst hn
  intro p l e s m args below meth cc Z cy ad0 ad A H locs lsA hE hw hst hls hh
  obtain ⟨h0, h1, g1⟩ := ho
  obtain ⟨w1, w2, w3, w4, w5, w6, w7, w8⟩ := id hw
  have hc : ((c.toNat : Nat) : Int) = c := Int.toNat_of_nonneg h0
  have hg := jW_get (ad := ad) (cy := cy) (M := M) g1
  rw [hc] at hg
  have hE2 := kk p l e s m args below meth cc Z cy ad0 ad A H locs lsA hE hw (jok_cons (v := jI n) (show jr (n : Int) from ⟨by omega, by omega⟩) (jok_tl hst)) hls hh
  rcases hkd with rfl | rfl | rfl | rfl
  · exact va_alen hE.1 hE.2.1 w3 w4 c.toNat 0 hg (ty := .int) rfl rfl hd hE2
  · exact va_alen hE.1 hE.2.1 w3 w4 c.toNat 1 hg (ty := .long) rfl rfl hd hE2
  · exact va_alen hE.1 hE.2.1 w3 w4 c.toNat 2 hg (ty := .byte) rfl rfl hd hE2
  · exact va_alen hE.1 hE.2.1 w3 w4 c.toNat 3 hg (ty := .boolean) rfl rfl hd hE2
theorem j_iald {c i : Int} {n : Nat} (ho : jar sh c 0 n) (hd : decode d.2.1 pc = .ok (.iaload, 1)) (h0 : 0 ≤ i) (h1 : i < n) (kk : jG d X F sh kc ks Q (pc + 1) ls (jI (M c i) :: st) M) : jG d X F sh kc ks Q pc ls (jI i :: jR c :: st) M := by
  intro p l e s m args below meth cc Z cy ad0 ad A H locs lsA hE hw hst hls hh
  obtain ⟨w1, w2, w3, w4, w5, w6, w7, w8⟩ := id hw
  have hc : ((c.toNat : Nat) : Int) = c := Int.toNat_of_nonneg ho.1
  have hg := jW_get (ad := ad) (cy := cy) (M := M) ho.2.2
  rw [hc] at hg
  obtain ⟨i1, i2⟩ := jo_ix h0 h1 ho.2.1
  refine va_iald hE.1 hE.2.1 w3 w4 c.toNat 0 hg rfl i1 hd ?_
  rw [i2]
  show W _ _ _ _ _ _ _ _ _ _ _ _ _ _ _ (F0 m (pc + 1) lsA (Value.int (Int32.ofInt (M c ((i.toNat : Nat) : Int))) :: _))
  rw [Int.toNat_of_nonneg h0]
  exact kk p l e s m args below meth cc Z cy ad0 ad A H locs lsA hE hw (jok_cons (v := jI (M c i)) (jok_a w8 ho (by decide) i) (jok_tl (jok_tl hst))) hls hh
theorem j_bald {c i : Int} {n : Nat} (ho : jar sh c 3 n) (hd : decode d.2.1 pc = .ok (.baload, 1)) (h0 : 0 ≤ i) (h1 : i < n) (kk : jG d X F sh kc ks Q (pc + 1) ls (jI (M c i) :: st) M) : jG d X F sh kc ks Q pc ls (jI i :: jR c :: st) M := by
  intro p l e s m args below meth cc Z cy ad0 ad A H locs lsA hE hw hst hls hh
  obtain ⟨w1, w2, w3, w4, w5, w6, w7, w8⟩ := id hw
  have hc : ((c.toNat : Nat) : Int) = c := Int.toNat_of_nonneg ho.1
  have hg := jW_get (ad := ad) (cy := cy) (M := M) ho.2.2
  rw [hc] at hg
  obtain ⟨i1, i2⟩ := jo_ix h0 h1 ho.2.1
  refine va_bald hE.1 hE.2.1 w3 w4 c.toNat 2 hg rfl i1 hd ?_
  rw [i2]
  show W _ _ _ _ _ _ _ _ _ _ _ _ _ _ _ (F0 m (pc + 1) lsA (Value.int (Int32.ofInt (M c ((i.toNat : Nat) : Int))) :: _))
  rw [Int.toNat_of_nonneg h0]
  exact kk p l e s m args below meth cc Z cy ad0 ad A H locs lsA hE hw (jok_cons (v := jI (M c i)) (jok_a w8 ho (by decide) i) (jok_tl (jok_tl hst))) hls hh
theorem j_zald {c i : Int} {n : Nat} (ho : jar sh c 4 n) (hd : decode d.2.1 pc = .ok (.baload, 1)) (h0 : 0 ≤ i) (h1 : i < n) (kk : jG d X F sh kc ks Q (pc + 1) ls (jI (M c i) :: st) M) : jG d X F sh kc ks Q pc ls (jI i :: jR c :: st) M := by
  intro p l e s m args below meth cc Z cy ad0 ad A H locs lsA hE hw hst hls hh
  obtain ⟨w1, w2, w3, w4, w5, w6, w7, w8⟩ := id hw
  have hc : ((c.toNat : Nat) : Int) = c := Int.toNat_of_nonneg ho.1
  have hg := jW_get (ad := ad) (cy := cy) (M := M) ho.2.2
  rw [hc] at hg
  obtain ⟨i1, i2⟩ := jo_ix h0 h1 ho.2.1
  refine va_zald hE.1 hE.2.1 w3 w4 c.toNat 3 hg rfl i1 hd ?_
  rw [i2]
  show W _ _ _ _ _ _ _ _ _ _ _ _ _ _ _ (F0 m (pc + 1) lsA (Value.int (Int32.ofInt (M c ((i.toNat : Nat) : Int))) :: _))
  rw [Int.toNat_of_nonneg h0]
  exact kk p l e s m args below meth cc Z cy ad0 ad A H locs lsA hE hw (jok_cons (v := jI (M c i)) (jok_a w8 ho (by decide) i) (jok_tl (jok_tl hst))) hls hh
theorem j_lald {c i : Int} {n : Nat} (ho : jar sh c 1 n) (hd : decode d.2.1 pc = .ok (.laload, 1)) (h0 : 0 ≤ i) (h1 : i < n) (kk : jG d X F sh kc ks Q (pc + 1) ls (jL (M c i) :: st) M) : jG d X F sh kc ks Q pc ls (jI i :: jR c :: st) M := by
  intro p l e s m args below meth cc Z cy ad0 ad A H locs lsA hE hw hst hls hh
  obtain ⟨w1, w2, w3, w4, w5, w6, w7, w8⟩ := id hw
  have hc : ((c.toNat : Nat) : Int) = c := Int.toNat_of_nonneg ho.1
  have hg := jW_get (ad := ad) (cy := cy) (M := M) ho.2.2
  rw [hc] at hg
  obtain ⟨i1, i2⟩ := jo_ix h0 h1 ho.2.1
  refine va_lald hE.1 hE.2.1 w3 w4 c.toNat 1 hg rfl i1 hd ?_
  rw [i2]
  show W _ _ _ _ _ _ _ _ _ _ _ _ _ _ _ (F0 m (pc + 1) lsA (Value.long (Int64.ofInt (M c ((i.toNat : Nat) : Int))) :: _))
  rw [Int.toNat_of_nonneg h0]
  exact kk p l e s m args below meth cc Z cy ad0 ad A H locs lsA hE hw (jok_cons (v := jL (M c i)) trivial (jok_tl (jok_tl hst))) hls hh
/-- an array's cell behind a store -/
theorem jcell_st {ad : Int → Nat} {cy : Nat → ClassId} {M : jM} {c i x : Int} {kd n : Nat} (hk : kd ≠ 1) (h0 : 0 ≤ i) : jcell ad cy (jup M c i x) c (.inl (kd, n)) = .inl (cy kd, n, .inl (upd (fun j => Int32.ofInt (M c j)) i.toNat (Int32.ofInt x))) := by
  simp only [jcell, if_neg hk]
  congr 4
  funext j
  unfold upd
  by_cases hj : j = i.toNat
  · subst hj
    rw [if_pos rfl, Int.toNat_of_nonneg h0, jup_self]
  · rw [if_neg hj, jup_ne (fun z => hj (by omega))]
theorem jcell_stL {ad : Int → Nat} {cy : Nat → ClassId} {M : jM} {c i x : Int} {n : Nat} (h0 : 0 ≤ i) : jcell ad cy (jup M c i x) c (.inl (1, n)) = .inl (cy 1, n, .inr (.inl (vp_updL (fun j => Int64.ofInt (M c j)) i.toNat (Int64.ofInt x)))) := by
  simp only [jcell, if_pos]
  congr 5
  funext j
  unfold vp_updL
  by_cases hj : j = i.toNat
  · subst hj
    rw [if_pos rfl, Int.toNat_of_nonneg h0, jup_self]
  · rw [if_neg hj, jup_ne (fun z => hj (by omega))]
theorem j_iast {c i x : Int} {n : Nat} (ho : jar sh c 0 n) (hd : decode d.2.1 pc = .ok (.iastore, 1)) (h0 : 0 ≤ i) (h1 : i < n) (kk : jG d X F sh kc ks Q (pc + 1) ls st (jup M c i x)) : jG d X F sh kc ks Q pc ls (jI x :: jI i :: jR c :: st) M := by
  intro p l e s m args below meth cc Z cy ad0 ad A H locs lsA hE hw hst hls hh
  obtain ⟨w1, w2, w3, w4, w5, w6, w7, w8⟩ := id hw
  have hc : ((c.toNat : Nat) : Int) = c := Int.toNat_of_nonneg ho.1
  have hg := jW_get (ad := ad) (cy := cy) (M := M) ho.2.2
  rw [hc] at hg
  obtain ⟨i1, i2⟩ := jo_ix h0 h1 ho.2.1
  refine va_iast hE.1 hE.2.1 w3 w4 w5 w6 c.toNat 0 hg rfl i1 hd (fun H1 locs1 hP hD hS => ?_)
  rw [i2] at hP hD
  have e2 := jW_set (ad := ad) (cy := cy) (M := M) ho.2.2 ((congrArg (fun z => jcell ad cy (jup M c i x) z (.inl (0, n))) hc).trans (jcell_st (kd := 0) (n := n) (x := x) (by decide) h0)) (fun c' k' hne => jup_ne (fun z => hne (by rw [hc]; exact z.1)))
  rw [hc] at e2
  rw [e2] at hP hD
  exact kk p l e s m args below meth cc Z cy ad0 ad A H1 locs1 lsA hE ⟨w1, w2, w3, hP, hD, hS, w7, jokM_up w8 (jok_hd hst)⟩ (jok_tl (jok_tl (jok_tl hst))) hls hh
theorem j_last {c i x : Int} {n : Nat} (ho : jar sh c 1 n) (hd : decode d.2.1 pc = .ok (.lastore, 1)) (h0 : 0 ≤ i) (h1 : i < n) (kk : jG d X F sh kc ks Q (pc + 1) ls st (jup M c i x)) : jG d X F sh kc ks Q pc ls (jL x :: jI i :: jR c :: st) M := by
  intro p l e s m args below meth cc Z cy ad0 ad A H locs lsA hE hw hst hls hh
  obtain ⟨w1, w2, w3, w4, w5, w6, w7, w8⟩ := id hw
  have hc : ((c.toNat : Nat) : Int) = c := Int.toNat_of_nonneg ho.1
  have hg := jW_get (ad := ad) (cy := cy) (M := M) ho.2.2
  rw [hc] at hg
  obtain ⟨i1, i2⟩ := jo_ix h0 h1 ho.2.1
  refine va_last hE.1 hE.2.1 w3 w4 w5 w6 c.toNat 1 hg rfl i1 hd (fun H1 locs1 hP hD hS => ?_)
  rw [i2] at hP hD
  have e2 := jW_set (ad := ad) (cy := cy) (M := M) ho.2.2 ((congrArg (fun z => jcell ad cy (jup M c i x) z (.inl (1, n))) hc).trans (jcell_stL (n := n) (x := x) h0)) (fun c' k' hne => jup_ne (fun z => hne (by rw [hc]; exact z.1)))
  rw [hc] at e2
  rw [e2] at hP hD
  exact kk p l e s m args below meth cc Z cy ad0 ad A H1 locs1 lsA hE ⟨w1, w2, w3, hP, hD, hS, w7, jokM_upL w8 (by rw [jlong_a ho]; rfl)⟩ (jok_tl (jok_tl (jok_tl hst))) hls hh
theorem j_bast {c i x : Int} {n : Nat} (ho : jar sh c 3 n) (hd : decode d.2.1 pc = .ok (.bastore, 1)) (h0 : 0 ≤ i) (h1 : i < n) (hx : -128 ≤ x ∧ x ≤ 127) (kk : jG d X F sh kc ks Q (pc + 1) ls st (jup M c i x)) : jG d X F sh kc ks Q pc ls (jI x :: jI i :: jR c :: st) M := by
  intro p l e s m args below meth cc Z cy ad0 ad A H locs lsA hE hw hst hls hh
  obtain ⟨w1, w2, w3, w4, w5, w6, w7, w8⟩ := id hw
  have hc : ((c.toNat : Nat) : Int) = c := Int.toNat_of_nonneg ho.1
  have hg := jW_get (ad := ad) (cy := cy) (M := M) ho.2.2
  rw [hc] at hg
  obtain ⟨i1, i2⟩ := jo_ix h0 h1 ho.2.1
  have hn : vp_nar .byte (Int32.ofInt x) = Int32.ofInt x := by
    rw [vp_nar_byte, ← jo_b hx]
    apply Int32.toInt_inj.mp
    simp
  refine va_bast hE.1 hE.2.1 w3 w4 w5 w6 c.toNat 2 hg rfl i1 hd (fun H1 locs1 hP hD hS => ?_)
  rw [i2, hn] at hP hD
  have e2 := jW_set (ad := ad) (cy := cy) (M := M) ho.2.2 ((congrArg (fun z => jcell ad cy (jup M c i x) z (.inl (3, n))) hc).trans (jcell_st (kd := 3) (n := n) (x := x) (by decide) h0)) (fun c' k' hne => jup_ne (fun z => hne (by rw [hc]; exact z.1)))
  rw [hc] at e2
  rw [e2] at hP hD
  exact kk p l e s m args below meth cc Z cy ad0 ad A H1 locs1 lsA hE ⟨w1, w2, w3, hP, hD, hS, w7, jokM_up w8 (jok_hd hst)⟩ (jok_tl (jok_tl (jok_tl hst))) hls hh
theorem j_zast {c i x : Int} {n : Nat} (ho : jar sh c 4 n) (hd : decode d.2.1 pc = .ok (.bastore, 1)) (h0 : 0 ≤ i) (h1 : i < n) (hx : x = 0 ∨ x = 1) (kk : jG d X F sh kc ks Q (pc + 1) ls st (jup M c i x)) : jG d X F sh kc ks Q pc ls (jI x :: jI i :: jR c :: st) M := by
  intro p l e s m args below meth cc Z cy ad0 ad A H locs lsA hE hw hst hls hh
  obtain ⟨w1, w2, w3, w4, w5, w6, w7, w8⟩ := id hw
  have hc : ((c.toNat : Nat) : Int) = c := Int.toNat_of_nonneg ho.1
  have hg := jW_get (ad := ad) (cy := cy) (M := M) ho.2.2
  rw [hc] at hg
  obtain ⟨i1, i2⟩ := jo_ix h0 h1 ho.2.1
  have hn : vp_nar .boolean (Int32.ofInt x) = Int32.ofInt x := by
    rcases hx with rfl | rfl <;> decide
  refine va_zast hE.1 hE.2.1 w3 w4 w5 w6 c.toNat 3 hg rfl i1 hd (fun H1 locs1 hP hD hS => ?_)
  rw [i2, hn] at hP hD
  have e2 := jW_set (ad := ad) (cy := cy) (M := M) ho.2.2 ((congrArg (fun z => jcell ad cy (jup M c i x) z (.inl (4, n))) hc).trans (jcell_st (kd := 4) (n := n) (x := x) (by decide) h0)) (fun c' k' hne => jup_ne (fun z => hne (by rw [hc]; exact z.1)))
  rw [hc] at e2
  rw [e2] at hP hD
  exact kk p l e s m args below meth cc Z cy ad0 ad A H1 locs1 lsA hE ⟨w1, w2, w3, hP, hD, hS, w7, jokM_up w8 (jok_hd hst)⟩ (jok_tl (jok_tl (jok_tl hst))) hls hh
end JR3
