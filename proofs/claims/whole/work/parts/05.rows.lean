/-! ===== numbers ===== -/
theorem jt_of {x : Int} (h : jr x) : (Int32.ofInt x).toInt = x := Int32.toInt_ofInt_of_le (by omega) (by omega)
theorem jo_to (x : Int32) : Int32.ofInt x.toInt = x := Int32.ofInt_toInt x
theorem jr_to (x : Int32) : jr x.toInt := ⟨by have := Int32.le_toInt x; omega, by have := Int32.toInt_lt x; omega⟩
theorem jo_inj {x y : Int} (hx : jr x) (hy : jr y) : Int32.ofInt x = Int32.ofInt y ↔ x = y := by
  rw [← Int32.toInt_inj, jt_of hx, jt_of hy]
theorem jo_lt {x y : Int} (hx : jr x) (hy : jr y) : Int32.ofInt x < Int32.ofInt y ↔ x < y := by
  rw [Int32.lt_iff_toInt_lt, jt_of hx, jt_of hy]
theorem jo_le {x y : Int} (hx : jr x) (hy : jr y) : Int32.ofInt x ≤ Int32.ofInt y ↔ x ≤ y := by
  rw [Int32.le_iff_toInt_le, jt_of hx, jt_of hy]
theorem jo_0 : (0 : Int32) = Int32.ofInt 0 := rfl
theorem jr_0 : jr 0 := by decide
theorem jo_ix {x : Int} {n : Nat} (h0 : 0 ≤ x) (h1 : x < n) (hn : n < 2147483648) : vp_in (Int32.ofInt x) n ∧ (Int32.ofInt x).toNatClampNeg = x.toNat := by
  have hr : jr x := ⟨by omega, by omega⟩
  refine ⟨vp_in_iff.mpr (by rw [jt_of hr]; exact ⟨h0, h1⟩), ?_⟩
  show (Int32.ofInt x).toInt.toNat = x.toNat
  rw [jt_of hr]
theorem jo_div {x y : Int} (hx : jr x) (hy : jr y) (h0 : 0 ≤ x) (h1 : 0 < y) : Int32.ofInt x / Int32.ofInt y = Int32.ofInt (x / y) := by
  apply Int32.toInt_inj.mp
  have hq : 0 ≤ x / y ∧ x / y ≤ x := ⟨Int.ediv_nonneg h0 (by omega), Int.ediv_le_self _ h0⟩
  rw [Int32.toInt_div, jt_of hx, jt_of hy, jt_of ⟨by omega, by omega⟩, Int.tdiv_eq_ediv_of_nonneg h0]
  rw [Int.bmod_eq_of_le (by omega) (by omega)]
theorem jo_rem {x y : Int} (hx : jr x) (hy : jr y) (h0 : 0 ≤ x) (h1 : 0 < y) : Int32.ofInt x - Int32.ofInt x / Int32.ofInt y * Int32.ofInt y = Int32.ofInt (x % y) := by
  rw [jo_div hx hy h0 h1, ← Int32.ofInt_mul, ← Int32.ofInt_sub]
  congr 1
  have := Int.emod_add_mul_ediv x y
  rw [Int.mul_comm] at this
  omega
def jand (x y : Int) : Int := (Int32.ofInt x &&& Int32.ofInt y).toInt
def jor (x y : Int) : Int := (Int32.ofInt x ||| Int32.ofInt y).toInt
def jxor (x y : Int) : Int := (Int32.ofInt x ^^^ Int32.ofInt y).toInt
def jshl (x y : Int) : Int := (Int32.ofInt x <<< (Int32.ofInt y &&& 31)).toInt
def jshr (x y : Int) : Int := (Int32.ofInt x >>> (Int32.ofInt y &&& 31)).toInt
def jushr (x y : Int) : Int := ((Int32.ofInt x).toUInt32 >>> ((Int32.ofInt y).toUInt32 &&& Int32.toUInt32 31)).toInt32.toInt
def jland (x y : Int) : Int := (Int64.ofInt x &&& Int64.ofInt y).toInt
def jlor (x y : Int) : Int := (Int64.ofInt x ||| Int64.ofInt y).toInt
def jlshl (x y : Int) : Int := (Int64.ofInt x <<< ((Int32.ofInt y).toInt64 &&& 63)).toInt
def jlshr (x y : Int) : Int := (Int64.ofInt x >>> ((Int32.ofInt y).toInt64 &&& 63)).toInt
def jlushr (x y : Int) : Int := ((Int64.ofInt x).toUInt64 >>> ((Int32.ofInt y).toInt64.toUInt64 &&& Int64.toUInt64 63)).toInt64.toInt
def jw32 (x : Int) : Int := (Int32.ofInt x).toInt
def jw8 (x : Int) : Int := (Int32.ofInt x).toInt8.toInt32.toInt
def jcmp (x y : Int) : Int := if y < x then 1 else if x = y then 0 else -1
theorem jo_toL (x : Int64) : Int64.ofInt x.toInt = x := Int64.ofInt_toInt x
abbrev jrL (x : Int) : Prop := -9223372036854775808 ≤ x ∧ x ≤ 9223372036854775807
theorem jt_ofL {x : Int} (h : jrL x) : (Int64.ofInt x).toInt = x := Int64.toInt_ofInt_of_le (by omega) (by omega)
theorem jo_i2l {x : Int} (h : jr x) : (Int32.ofInt x).toInt64 = Int64.ofInt x := by
  apply Int64.toInt_inj.mp
  rw [Int32.toInt_toInt64, jt_of h, jt_ofL ⟨by omega, by omega⟩]
theorem jo_l2i (x : Int) : (Int64.ofInt x).toInt32 = Int32.ofInt x := by
  apply Int32.toInt_inj.mp
  rw [Int64.toInt_toInt32, Int64.toInt_ofInt, Int32.toInt_ofInt]
  exact Int.bmod_bmod_of_dvd (by decide)
theorem jo_b {n : Int} (h : -128 ≤ n ∧ n ≤ 127) : (Int8.ofInt n).toInt32 = Int32.ofInt n := by
  apply Int32.toInt_inj.mp
  rw [Int8.toInt_toInt32, jt_of ⟨by omega, by omega⟩, Int8.toInt_ofInt_of_le (by omega) (by omega)]
theorem jo_s {n : Int} (h : -32768 ≤ n ∧ n ≤ 32767) : (Int16.ofInt n).toInt32 = Int32.ofInt n := by
  apply Int32.toInt_inj.mp
  rw [Int16.toInt_toInt32, jt_of ⟨by omega, by omega⟩, Int16.toInt_ofInt_of_le (by omega) (by omega)]
theorem jo_cmp {x y : Int} (hx : jrL x) (hy : jrL y) : lg_cmp (Int64.ofInt x) (Int64.ofInt y) = Int32.ofInt (jcmp x y) := by
  have h1 : Int64.ofInt y < Int64.ofInt x ↔ y < x := by rw [Int64.lt_iff_toInt_lt, jt_ofL hx, jt_ofL hy]
  have h2 : Int64.ofInt x = Int64.ofInt y ↔ x = y := by rw [← Int64.toInt_inj, jt_ofL hx, jt_ofL hy]
  unfold lg_cmp jcmp
  by_cases a : y < x
  · simp [a, h1]
  · by_cases b : x = y
    · subst b; simp
    · simp [a, b, h1, h2]
/-! ===== locals ===== -/
def jcat : jV → Nat
  | .inr (.inl _) => 2
  | _ => 1
theorem jcat_eq (ad : Int → Nat) : ∀ v : jV, (jcv ad v).category = jcat v
  | .inl _ => rfl
  | .inr (.inl _) => rfl
  | .inr (.inr _) => rfl
/-- what stays beside a store at i of w slots -/
def jkeep (i w : Nat) (q : Nat × jV) : Bool := !(q.1 == i) && (!(w == 2 && q.1 == i + 1) && !(q.1 + 1 == i && jcat q.2 == 2))
def jset (i w : Nat) (v : jV) : List (Nat × jV) → List (Nat × jV)
  | [] => [(i, v)]
  | q :: r => match q.1 == i with
    | true => (i, v) :: r.filter (jkeep i w)
    | false => match jkeep i w q with
      | true => q :: jset i w v r
      | false => jset i w v r
theorem jset_mem {i w : Nat} {v : jV} : ∀ {ls : List (Nat × jV)} {q : Nat × jV}, q ∈ jset i w v ls → q = (i, v) ∨ (q ∈ ls ∧ jkeep i w q = true)
  | [], q, h => Or.inl (List.mem_singleton.mp h)
  | a :: r, q, h => by
    unfold jset at h
    split at h
    · rcases List.mem_cons.mp h with h | h
      · exact Or.inl h
      · obtain ⟨h1, h2⟩ := List.mem_filter.mp h
        exact Or.inr ⟨List.mem_cons_of_mem _ h1, h2⟩
    · split at h
      · rcases List.mem_cons.mp h with h | h
        · subst h; exact Or.inr ⟨List.mem_cons_self, by assumption⟩
        · rcases jset_mem h with h | ⟨h1, h2⟩
          · exact Or.inl h
          · exact Or.inr ⟨List.mem_cons_of_mem _ h1, h2⟩
      · rcases jset_mem h with h | ⟨h1, h2⟩
        · exact Or.inl h
        · exact Or.inr ⟨List.mem_cons_of_mem _ h1, h2⟩
theorem jset_ok {i w : Nat} {v : jV} {ls : List (Nat × jV)} (h : ∀ q ∈ ls, jok q.2) (hv : jok v) : ∀ q ∈ jset i w v ls, jok q.2 := by
  intro q hq
  rcases jset_mem hq with rfl | ⟨h1, -⟩
  · exact hv
  · exact h q h1
theorem jset_has1 {ad : Int → Nat} {i nL : Nat} {v : jV} {ls : List (Nat × jV)} {a : Array Slot}
    (h : lv_has a nL ((i, jcv ad v) :: (ls.map (fun q => (q.1, jcv ad q.2))).filter (fun q => !(q.1 == i) && !(q.1 + 1 == i && q.2.category == 2)))) : lv_has a nL ((jset i 1 v ls).map (fun q => (q.1, jcv ad q.2))) := by
  refine ⟨h.1, h.2.1, fun q hq => h.2.2 q ?_⟩
  obtain ⟨z, hz, rfl⟩ := List.mem_map.mp hq
  rcases jset_mem hz with rfl | ⟨h1, h2⟩
  · exact List.mem_cons_self
  · refine List.mem_cons_of_mem _ (List.mem_filter.mpr ⟨List.mem_map.mpr ⟨z, h1, rfl⟩, ?_⟩)
    simp only [jkeep, Bool.and_eq_true, Bool.not_eq_true'] at h2
    simp only [jcat_eq, Bool.and_eq_true, Bool.not_eq_true']
    exact ⟨h2.1, h2.2.2⟩
theorem jset_has2 {ad : Int → Nat} {i nL : Nat} {v : jV} {ls : List (Nat × jV)} {a : Array Slot}
    (h : lv_has a nL ((i, jcv ad v) :: (ls.map (fun q => (q.1, jcv ad q.2))).filter (fun q => !(q.1 == i) && (!(q.1 == i + 1) && !(q.1 + 1 == i && q.2.category == 2))))) : lv_has a nL ((jset i 2 v ls).map (fun q => (q.1, jcv ad q.2))) := by
  refine ⟨h.1, h.2.1, fun q hq => h.2.2 q ?_⟩
  obtain ⟨z, hz, rfl⟩ := List.mem_map.mp hq
  rcases jset_mem hz with rfl | ⟨h1, h2⟩
  · exact List.mem_cons_self
  · refine List.mem_cons_of_mem _ (List.mem_filter.mpr ⟨List.mem_map.mpr ⟨z, h1, rfl⟩, ?_⟩)
    simp only [jkeep, Bool.and_eq_true, Bool.not_eq_true'] at h2
    simp only [jcat_eq, Bool.and_eq_true, Bool.not_eq_true']
    exact ⟨h2.1, by simpa using h2.2.1, h2.2.2⟩
theorem jls_at {ad : Int → Nat} {nL : Nat} {ls : List (Nat × jV)} {a : Array Slot} (h : lv_has a nL (ls.map (fun q => (q.1, jcv ad q.2)))) (pos : Nat) {i : Nat} {v : jV} (hk : ls[pos]? = some (i, v)) : a[i]? = some (.val (jcv ad v)) :=
  h.2.2 (i, jcv ad v) (List.mem_map.mpr ⟨(i, v), List.mem_of_getElem? hk, rfl⟩)
/-! ===== rows: an instruction each ===== -/
section JR
variable {d : jD} {X : jX} {F : jF} {sh : List jS} {kc ks : Nat} {Q : Option jV → jM → Prop} {pc : Nat} {ls : List (Nat × jV)} {st : List jV} {M : jM}
/-- a step that touches the stack alone -/
theorem j_pure {pc' : Nat} {st st' : List jV} (hok : (∀ v ∈ st, jok v) → ∀ v ∈ st', jok v)
    (hs : ∀ (p : Program) (l : Launch) (e : Env) (s : State) (m : MethodId) (args : Array Value) (below : List Frame) (meth : Method) (c : Code) (H : Heap) (locs : List Loc) (lsA : Array Slot) (ad : Int → Nat) (q : State → Prop), jEnv d p s m args meth c → (∀ v ∈ st, jok v) →
      W p l e d.2.2.2.2.1 s m args below meth c H locs kc ks q (F0 m pc' lsA (st'.map (jcv ad))) → W p l e d.2.2.2.2.1 s m args below meth c H locs kc ks q (F0 m pc lsA (st.map (jcv ad))))
    (k : jG d X F sh kc ks Q pc' ls st' M) : jG d X F sh kc ks Q pc ls st M := by
  intro p l e s m args below meth c Z cy ad0 ad A H locs lsA hE hw hst hls hl
  exact hs p l e s m args below meth c H locs lsA ad _ hE hst (k p l e s m args below meth c Z cy ad0 ad A H locs lsA hE hw (hok hst) hls hl)
theorem jok_cons {v : jV} {st : List jV} (h : jok v) (hs : ∀ v ∈ st, jok v) : ∀ u ∈ v :: st, jok u := fun u hu => by
  rcases List.mem_cons.mp hu with rfl | hu
  · exact h
  · exact hs u hu
theorem jok_hd {v : jV} {st : List jV} (h : ∀ u ∈ v :: st, jok u) : jok v := h v List.mem_cons_self
theorem jok_tl {v : jV} {st : List jV} (h : ∀ u ∈ v :: st, jok u) : ∀ u ∈ st, jok u := fun u hu => h u (List.mem_cons_of_mem _ hu)
theorem j_nm {x : Int} (k : ∀ y : Int, y = x → jG d X F sh kc ks Q pc ls (jI y :: st) M) : jG d X F sh kc ks Q pc ls (jI x :: st) M := k x rfl
theorem j_nmL {x : Int} (k : ∀ y : Int, y = x → jG d X F sh kc ks Q pc ls (jL y :: st) M) : jG d X F sh kc ks Q pc ls (jL x :: st) M := k x rfl
theorem j_nmM (k : ∀ N : jM, N = M → jG d X F sh kc ks Q pc ls st N) : jG d X F sh kc ks Q pc ls st M := k M rfl
theorem j_eq {x y : Int} (h : x = y) (k : jG d X F sh kc ks Q pc ls (jI y :: st) M) : jG d X F sh kc ks Q pc ls (jI x :: st) M := h ▸ k
theorem j_eqR {x y : Int} (h : x = y) (k : jG d X F sh kc ks Q pc ls (jR y :: st) M) : jG d X F sh kc ks Q pc ls (jR x :: st) M := h ▸ k
theorem j_eqL {x y : Int} (h : x = y) (k : jG d X F sh kc ks Q pc ls (jL y :: st) M) : jG d X F sh kc ks Q pc ls (jL x :: st) M := h ▸ k
theorem j_eqM {N : jM} (h : M = N) (k : jG d X F sh kc ks Q pc ls st N) : jG d X F sh kc ks Q pc ls st M := h ▸ k
/-- an int on the stack is one -/
theorem j_range {x : Int} (k : jr x → jG d X F sh kc ks Q pc ls (jI x :: st) M) : jG d X F sh kc ks Q pc ls (jI x :: st) M := by
  intro p l e s m args below meth c Z cy ad0 ad A H locs lsA hE hw hst hls hl
  exact k (jok_hd hst) p l e s m args below meth c Z cy ad0 ad A H locs lsA hE hw hst hls hl
/-- and so in a local -/
theorem j_rangeL {x : Int} (pos : Nat) {i : Nat} (hp : ls[pos]? = some (i, jI x)) (k : jr x → jG d X F sh kc ks Q pc ls st M) : jG d X F sh kc ks Q pc ls st M := by
  intro p l e s m args below meth c Z cy ad0 ad A H locs lsA hE hw hst hls hl
  exact k (hls _ (List.mem_of_getElem? hp)) p l e s m args below meth c Z cy ad0 ad A H locs lsA hE hw hst hls hl
/-- fewer locals, in another order -/
theorem j_sub {ls' : List (Nat × jV)} (ks' : List Nat) (h : ks'.filterMap (fun k => ls[k]?) = ls') (k : jG d X F sh kc ks Q pc ls' st M) : jG d X F sh kc ks Q pc ls st M := by
  intro p l e s m args below meth c Z cy ad0 ad A H locs lsA hE hw hst hls hl
  have hin : ∀ q ∈ ls', q ∈ ls := fun q hq => by
    rw [← h] at hq
    obtain ⟨k, -, hk⟩ := List.mem_filterMap.mp hq
    exact List.mem_of_getElem? hk
  refine k p l e s m args below meth c Z cy ad0 ad A H locs lsA hE hw hst (fun q hq => hls q (hin q hq)) ⟨hl.1, hl.2.1, fun q hq => ?_⟩
  obtain ⟨z, hz, rfl⟩ := List.mem_map.mp hq
  exact hl.2.2 _ (List.mem_map.mpr ⟨z, hin z hz, rfl⟩)
theorem j_iconst {n : Int} (hd : decode d.2.1 pc = .ok (.iconst n, 1)) (hr : jr n) (k : jG d X F sh kc ks Q (pc + 1) ls (jI n :: st) M) : jG d X F sh kc ks Q pc ls st M :=
  j_pure (fun h => jok_cons (v := jI n) hr h) (fun p l e s m args below meth c H locs lsA ad q hE _ w => lv_iconst hE.1 hE.2.1 hd rfl w) k
theorem j_bipush {n : Int} (hd : decode d.2.1 pc = .ok (.bipush n, 2)) (hr : -128 ≤ n ∧ n ≤ 127) (k : jG d X F sh kc ks Q (pc + 2) ls (jI n :: st) M) : jG d X F sh kc ks Q pc ls st M :=
  j_pure (fun h => jok_cons (v := jI n) (show jr n from ⟨by omega, by omega⟩) h) (fun p l e s m args below meth c H locs lsA ad q hE _ w => lv_bipush hE.1 hE.2.1 hd (jo_b hr) w) k
theorem j_sipush {n : Int} (hd : decode d.2.1 pc = .ok (.sipush n, 3)) (hr : -32768 ≤ n ∧ n ≤ 32767) (k : jG d X F sh kc ks Q (pc + 3) ls (jI n :: st) M) : jG d X F sh kc ks Q pc ls st M :=
  j_pure (fun h => jok_cons (v := jI n) (show jr n from ⟨by omega, by omega⟩) h) (fun p l e s m args below meth c H locs lsA ad q hE _ w => lv_sipush hE.1 hE.2.1 hd (jo_s hr) w) k
theorem j_ldc {n : Int} {idx : Nat} (hd : decode d.2.1 pc = .ok (.ldc idx, 2)) (hw : Cond.constant d.1 idx (Int32.ofInt n) ∈ jtbl) (hr : jr n) (k : jG d X F sh kc ks Q (pc + 2) ls (jI n :: st) M) : jG d X F sh kc ks Q pc ls st M :=
  j_pure (fun h => jok_cons (v := jI n) hr h) (fun p l e s m args below meth c H locs lsA ad q hE _ w => lv_ldc hE.1 hE.2.1 hE.2.2.2.2.1 (hE.2.2.2.2.2.1 _ hw) hd w) k
theorem j_ldc_w {n : Int} {idx : Nat} (hd : decode d.2.1 pc = .ok (.ldc_w idx, 3)) (hw : Cond.constant d.1 idx (Int32.ofInt n) ∈ jtbl) (hr : jr n) (k : jG d X F sh kc ks Q (pc + 3) ls (jI n :: st) M) : jG d X F sh kc ks Q pc ls st M :=
  j_pure (fun h => jok_cons (v := jI n) hr h) (fun p l e s m args below meth c H locs lsA ad q hE _ w => lv_ldcw hE.1 hE.2.1 hE.2.2.2.2.1 (hE.2.2.2.2.2.1 _ hw) hd w) k
theorem j_ldc2_w {n : Int} {idx : Nat} (hd : decode d.2.1 pc = .ok (.ldc2_w idx, 3)) (hw : Cond.constantLong d.1 idx (Int64.ofInt n) ∈ jtbl) (k : jG d X F sh kc ks Q (pc + 3) ls (jL n :: st) M) : jG d X F sh kc ks Q pc ls st M :=
  j_pure (fun h => jok_cons (v := jL n) trivial h) (fun p l e s m args below meth c H locs lsA ad q hE _ w => lv_ldc2 hE.1 hE.2.1 hE.2.2.2.2.1 (hE.2.2.2.2.2.1 _ hw) hd w) k
theorem j_lconst {n : Fin 2} {v : Int} (hd : decode d.2.1 pc = .ok (.lconst n, 1)) (hv : Int64.ofNat (n : Nat) = Int64.ofInt v) (k : jG d X F sh kc ks Q (pc + 1) ls (jL v :: st) M) : jG d X F sh kc ks Q pc ls st M :=
  j_pure (fun h => jok_cons (v := jL v) trivial h) (fun p l e s m args below meth c H locs lsA ad q hE _ w => lv_lconst hE.1 hE.2.1 hd hv w) k
theorem j_iadd {x y : Int} (hd : decode d.2.1 pc = .ok (.iadd, 1)) (hr : jr (x + y)) (k : jG d X F sh kc ks Q (pc + 1) ls (jI (x + y) :: st) M) : jG d X F sh kc ks Q pc ls (jI y :: jI x :: st) M :=
  j_pure (fun h => jok_cons (v := jI (x + y)) hr (jok_tl (jok_tl h))) (fun p l e s m args below meth c H locs lsA ad q hE _ w => lv_iadd hE.1 hE.2.1 hd (by rw [← Int32.ofInt_add]; exact w)) k
theorem j_isub {x y : Int} (hd : decode d.2.1 pc = .ok (.isub, 1)) (hr : jr (x - y)) (k : jG d X F sh kc ks Q (pc + 1) ls (jI (x - y) :: st) M) : jG d X F sh kc ks Q pc ls (jI y :: jI x :: st) M :=
  j_pure (fun h => jok_cons (v := jI (x - y)) hr (jok_tl (jok_tl h))) (fun p l e s m args below meth c H locs lsA ad q hE _ w => lv_isub hE.1 hE.2.1 hd (by rw [← Int32.ofInt_sub]; exact w)) k
theorem j_imul {x y : Int} (hd : decode d.2.1 pc = .ok (.imul, 1)) (hr : jr (x * y)) (k : jG d X F sh kc ks Q (pc + 1) ls (jI (x * y) :: st) M) : jG d X F sh kc ks Q pc ls (jI y :: jI x :: st) M :=
  j_pure (fun h => jok_cons (v := jI (x * y)) hr (jok_tl (jok_tl h))) (fun p l e s m args below meth c H locs lsA ad q hE _ w => lv_imul hE.1 hE.2.1 hd (by rw [← Int32.ofInt_mul]; exact w)) k
theorem j_idiv {x y : Int} (hd : decode d.2.1 pc = .ok (.idiv, 1)) (h0 : 0 ≤ x) (h1 : 0 < y) (k : jG d X F sh kc ks Q (pc + 1) ls (jI (x / y) :: st) M) : jG d X F sh kc ks Q pc ls (jI y :: jI x :: st) M :=
  j_pure (fun h => jok_cons (v := jI (x / y)) (show jr (x / y) from by
      have hx : jr x := jok_hd (jok_tl h)
      have a1 := Int.ediv_nonneg h0 (show 0 ≤ y by omega)
      have a2 := Int.ediv_le_self y h0
      exact ⟨by omega, by omega⟩) (jok_tl (jok_tl h))) (fun p l e s m args below meth c H locs lsA ad q hE h w => lv_idiv hE.1 hE.2.1 hd (by
      rw [jo_0, jo_inj (jok_hd h) jr_0]; omega) (by rw [jo_div (jok_hd (jok_tl h)) (jok_hd h) h0 h1]; exact w)) k
theorem j_irem {x y : Int} (hd : decode d.2.1 pc = .ok (.irem, 1)) (h0 : 0 ≤ x) (h1 : 0 < y) (k : jG d X F sh kc ks Q (pc + 1) ls (jI (x % y) :: st) M) : jG d X F sh kc ks Q pc ls (jI y :: jI x :: st) M :=
  j_pure (fun h => jok_cons (v := jI (x % y)) (show jr (x % y) from by
      have hy : jr y := jok_hd h
      have a1 := Int.emod_nonneg x (show y ≠ 0 by omega)
      have a2 := Int.emod_lt_of_pos x h1
      exact ⟨by omega, by omega⟩) (jok_tl (jok_tl h))) (fun p l e s m args below meth c H locs lsA ad q hE h w => lv_irem hE.1 hE.2.1 hd (by
      rw [jo_0, jo_inj (jok_hd h) jr_0]; omega) (by rw [jo_rem (jok_hd (jok_tl h)) (jok_hd h) h0 h1]; exact w)) k
theorem j_ineg {x : Int} (hd : decode d.2.1 pc = .ok (.ineg, 1)) (hr : jr (-x)) (k : jG d X F sh kc ks Q (pc + 1) ls (jI (-x) :: st) M) : jG d X F sh kc ks Q pc ls (jI x :: st) M :=
  j_pure (fun h => jok_cons (v := jI (-x)) hr (jok_tl h)) (fun p l e s m args below meth c H locs lsA ad q hE _ w => lv_ineg hE.1 hE.2.1 hd (by
    have e1 : (0 : Int32) - Int32.ofInt x = Int32.ofInt (-x) := by rw [jo_0, ← Int32.ofInt_sub]; congr 1; omega
    first | (rw [e1]; exact w) | (rw [← Int32.ofInt_neg]; exact w))) k
end JR
