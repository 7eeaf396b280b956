section JR2
variable {d : jD} {X : jX} {F : jF} {sh : List jS} {kc ks : Nat} {Q : Option jV → jM → Prop} {pc : Nat} {ls : List (Nat × jV)} {st : List jV} {M : jM}
theorem j_iand {x y : Int} (hd : decode d.2.1 pc = .ok (.iand, 1)) (k : jG d X F sh kc ks Q (pc + 1) ls (jI (jand x y) :: st) M) : jG d X F sh kc ks Q pc ls (jI y :: jI x :: st) M :=
  j_pure (fun h => jok_cons (v := jI (jand x y)) (jr_to _) (jok_tl (jok_tl h))) (fun p l e s m args below meth c H locs lsA ad q hE _ w => lv_iand hE.1 hE.2.1 hd (by rw [← jo_to (Int32.ofInt x &&& Int32.ofInt y)]; exact w)) k
theorem j_ior {x y : Int} (hd : decode d.2.1 pc = .ok (.ior, 1)) (k : jG d X F sh kc ks Q (pc + 1) ls (jI (jor x y) :: st) M) : jG d X F sh kc ks Q pc ls (jI y :: jI x :: st) M :=
  j_pure (fun h => jok_cons (v := jI (jor x y)) (jr_to _) (jok_tl (jok_tl h))) (fun p l e s m args below meth c H locs lsA ad q hE _ w => lv_ior hE.1 hE.2.1 hd (by rw [← jo_to (Int32.ofInt x ||| Int32.ofInt y)]; exact w)) k
theorem j_ixor {x y : Int} (hd : decode d.2.1 pc = .ok (.ixor, 1)) (k : jG d X F sh kc ks Q (pc + 1) ls (jI (jxor x y) :: st) M) : jG d X F sh kc ks Q pc ls (jI y :: jI x :: st) M :=
  j_pure (fun h => jok_cons (v := jI (jxor x y)) (jr_to _) (jok_tl (jok_tl h))) (fun p l e s m args below meth c H locs lsA ad q hE _ w => lv_ixor hE.1 hE.2.1 hd (by rw [← jo_to (Int32.ofInt x ^^^ Int32.ofInt y)]; exact w)) k
theorem j_ishl {x y : Int} (hd : decode d.2.1 pc = .ok (.ishl, 1)) (k : jG d X F sh kc ks Q (pc + 1) ls (jI (jshl x y) :: st) M) : jG d X F sh kc ks Q pc ls (jI y :: jI x :: st) M :=
  j_pure (fun h => jok_cons (v := jI (jshl x y)) (jr_to _) (jok_tl (jok_tl h))) (fun p l e s m args below meth c H locs lsA ad q hE _ w => lv_ishl hE.1 hE.2.1 hd (by rw [← jo_to (Int32.ofInt x <<< (Int32.ofInt y &&& 31))]; exact w)) k
theorem j_ishr {x y : Int} (hd : decode d.2.1 pc = .ok (.ishr, 1)) (k : jG d X F sh kc ks Q (pc + 1) ls (jI (jshr x y) :: st) M) : jG d X F sh kc ks Q pc ls (jI y :: jI x :: st) M :=
  j_pure (fun h => jok_cons (v := jI (jshr x y)) (jr_to _) (jok_tl (jok_tl h))) (fun p l e s m args below meth c H locs lsA ad q hE _ w => lv_ishr hE.1 hE.2.1 hd (by rw [← jo_to (Int32.ofInt x >>> (Int32.ofInt y &&& 31))]; exact w)) k
theorem j_iushr {x y : Int} (hd : decode d.2.1 pc = .ok (.iushr, 1)) (k : jG d X F sh kc ks Q (pc + 1) ls (jI (jushr x y) :: st) M) : jG d X F sh kc ks Q pc ls (jI y :: jI x :: st) M :=
  j_pure (fun h => jok_cons (v := jI (jushr x y)) (jr_to _) (jok_tl (jok_tl h))) (fun p l e s m args below meth c H locs lsA ad q hE _ w => lv_iushr hE.1 hE.2.1 hd (jo_to _).symm w) k
theorem j_ladd {x y : Int} (hd : decode d.2.1 pc = .ok (.ladd, 1)) (k : jG d X F sh kc ks Q (pc + 1) ls (jL (x + y) :: st) M) : jG d X F sh kc ks Q pc ls (jL y :: jL x :: st) M :=
  j_pure (fun h => jok_cons (v := jL (x + y)) trivial (jok_tl (jok_tl h))) (fun p l e s m args below meth c H locs lsA ad q hE _ w => lv_ladd hE.1 hE.2.1 hd (by rw [← Int64.ofInt_add]; exact w)) k
theorem j_lsub {x y : Int} (hd : decode d.2.1 pc = .ok (.lsub, 1)) (k : jG d X F sh kc ks Q (pc + 1) ls (jL (x - y) :: st) M) : jG d X F sh kc ks Q pc ls (jL y :: jL x :: st) M :=
  j_pure (fun h => jok_cons (v := jL (x - y)) trivial (jok_tl (jok_tl h))) (fun p l e s m args below meth c H locs lsA ad q hE _ w => lv_lsub hE.1 hE.2.1 hd (by rw [← Int64.ofInt_sub]; exact w)) k
theorem j_lmul {x y : Int} (hd : decode d.2.1 pc = .ok (.lmul, 1)) (k : jG d X F sh kc ks Q (pc + 1) ls (jL (x * y) :: st) M) : jG d X F sh kc ks Q pc ls (jL y :: jL x :: st) M :=
  j_pure (fun h => jok_cons (v := jL (x * y)) trivial (jok_tl (jok_tl h))) (fun p l e s m args below meth c H locs lsA ad q hE _ w => lv_lmul hE.1 hE.2.1 hd (by rw [← Int64.ofInt_mul]; exact w)) k
theorem j_land {x y : Int} (hd : decode d.2.1 pc = .ok (.land, 1)) (k : jG d X F sh kc ks Q (pc + 1) ls (jL (jland x y) :: st) M) : jG d X F sh kc ks Q pc ls (jL y :: jL x :: st) M :=
  j_pure (fun h => jok_cons (v := jL (jland x y)) trivial (jok_tl (jok_tl h))) (fun p l e s m args below meth c H locs lsA ad q hE _ w => lv_land hE.1 hE.2.1 hd (by rw [← jo_toL (Int64.ofInt x &&& Int64.ofInt y)]; exact w)) k
theorem j_lor {x y : Int} (hd : decode d.2.1 pc = .ok (.lor, 1)) (k : jG d X F sh kc ks Q (pc + 1) ls (jL (jlor x y) :: st) M) : jG d X F sh kc ks Q pc ls (jL y :: jL x :: st) M :=
  j_pure (fun h => jok_cons (v := jL (jlor x y)) trivial (jok_tl (jok_tl h))) (fun p l e s m args below meth c H locs lsA ad q hE _ w => lv_lor hE.1 hE.2.1 hd (by rw [← jo_toL (Int64.ofInt x ||| Int64.ofInt y)]; exact w)) k
theorem j_lshl {x y : Int} (hd : decode d.2.1 pc = .ok (.lshl, 1)) (k : jG d X F sh kc ks Q (pc + 1) ls (jL (jlshl x y) :: st) M) : jG d X F sh kc ks Q pc ls (jI y :: jL x :: st) M :=
  j_pure (fun h => jok_cons (v := jL (jlshl x y)) trivial (jok_tl (jok_tl h))) (fun p l e s m args below meth c H locs lsA ad q hE _ w => lv_lshl hE.1 hE.2.1 hd (jo_toL _).symm w) k
theorem j_lshr {x y : Int} (hd : decode d.2.1 pc = .ok (.lshr, 1)) (k : jG d X F sh kc ks Q (pc + 1) ls (jL (jlshr x y) :: st) M) : jG d X F sh kc ks Q pc ls (jI y :: jL x :: st) M :=
  j_pure (fun h => jok_cons (v := jL (jlshr x y)) trivial (jok_tl (jok_tl h))) (fun p l e s m args below meth c H locs lsA ad q hE _ w => lv_lshr hE.1 hE.2.1 hd (jo_toL _).symm w) k
theorem j_lushr {x y : Int} (hd : decode d.2.1 pc = .ok (.lushr, 1)) (k : jG d X F sh kc ks Q (pc + 1) ls (jL (jlushr x y) :: st) M) : jG d X F sh kc ks Q pc ls (jI y :: jL x :: st) M :=
  j_pure (fun h => jok_cons (v := jL (jlushr x y)) trivial (jok_tl (jok_tl h))) (fun p l e s m args below meth c H locs lsA ad q hE _ w => lv_lushr hE.1 hE.2.1 hd (jo_toL _).symm w) k
theorem j_i2l {x : Int} (hd : decode d.2.1 pc = .ok (.i2l, 1)) (k : jG d X F sh kc ks Q (pc + 1) ls (jL x :: st) M) : jG d X F sh kc ks Q pc ls (jI x :: st) M :=
  j_pure (fun h => jok_cons (v := jL x) trivial (jok_tl h)) (fun p l e s m args below meth c H locs lsA ad q hE h w => lv_i2l hE.1 hE.2.1 hd (jo_i2l (jok_hd h)) w) k
theorem j_l2i {x : Int} (hd : decode d.2.1 pc = .ok (.l2i, 1)) (k : jG d X F sh kc ks Q (pc + 1) ls (jI (jw32 x) :: st) M) : jG d X F sh kc ks Q pc ls (jL x :: st) M :=
  j_pure (fun h => jok_cons (v := jI (jw32 x)) (jr_to _) (jok_tl h)) (fun p l e s m args below meth c H locs lsA ad q hE _ w => lv_l2i hE.1 hE.2.1 hd ((jo_l2i x).trans (jo_to _).symm) w) k
theorem j_i2b {x : Int} (hd : decode d.2.1 pc = .ok (.i2b, 1)) (k : jG d X F sh kc ks Q (pc + 1) ls (jI (jw8 x) :: st) M) : jG d X F sh kc ks Q pc ls (jI x :: st) M :=
  j_pure (fun h => jok_cons (v := jI (jw8 x)) (jr_to _) (jok_tl h)) (fun p l e s m args below meth c H locs lsA ad q hE _ w => lv_i2b hE.1 hE.2.1 hd (jo_to _).symm w) k
theorem j_lcmp {x y : Int} (hd : decode d.2.1 pc = .ok (.lcmp, 1)) (hx : jrL x) (hy : jrL y) (k : jG d X F sh kc ks Q (pc + 1) ls (jI (jcmp x y) :: st) M) : jG d X F sh kc ks Q pc ls (jL y :: jL x :: st) M :=
  j_pure (fun h => jok_cons (v := jI (jcmp x y)) (show jr (jcmp x y) from by unfold jcmp; split <;> (try split) <;> decide) (jok_tl (jok_tl h))) (fun p l e s m args below meth c H locs lsA ad q hE _ w => W.lcmp hE.1 hE.2.1 hd (by rw [jo_cmp hx hy]; exact w)) k
/-- two longs compared, both as the machine holds them -/
theorem j_lcmpE {x y : Int} (hd : decode d.2.1 pc = .ok (.lcmp, 1)) (k : jG d X F sh kc ks Q (pc + 1) ls (jI (lg_cmp (Int64.ofInt x) (Int64.ofInt y)).toInt :: st) M) : jG d X F sh kc ks Q pc ls (jL y :: jL x :: st) M :=
  j_pure (fun h => jok_cons (v := jI _) (jr_to _) (jok_tl (jok_tl h))) (fun p l e s m args below meth c H locs lsA ad q hE _ w => W.lcmp hE.1 hE.2.1 hd (by rw [← jo_to (lg_cmp (Int64.ofInt x) (Int64.ofInt y))]; exact w)) k
theorem j_dup {v : jV} (hd : decode d.2.1 pc = .ok (.dup, 1)) (hv : jcat v = 1) (k : jG d X F sh kc ks Q (pc + 1) ls (v :: v :: st) M) : jG d X F sh kc ks Q pc ls (v :: st) M :=
  j_pure (fun h => jok_cons (jok_hd h) h) (fun p l e s m args below meth c H locs lsA ad q hE _ w => lv_dup hE.1 hE.2.1 hd ((jcat_eq ad v).trans hv) w) k
theorem j_pop {v : jV} (hd : decode d.2.1 pc = .ok (.pop, 1)) (hv : jcat v = 1) (k : jG d X F sh kc ks Q (pc + 1) ls st M) : jG d X F sh kc ks Q pc ls (v :: st) M :=
  j_pure (fun h => jok_tl h) (fun p l e s m args below meth c H locs lsA ad q hE _ w => lv_pop hE.1 hE.2.1 hd ((jcat_eq ad v).trans hv) w) k
theorem j_pop2_2 {v : jV} (hd : decode d.2.1 pc = .ok (.pop2, 1)) (hv : jcat v = 2) (k : jG d X F sh kc ks Q (pc + 1) ls st M) : jG d X F sh kc ks Q pc ls (v :: st) M :=
  j_pure (fun h => jok_tl h) (fun p l e s m args below meth c H locs lsA ad q hE _ w => lv_pop2_2 hE.1 hE.2.1 hd ((jcat_eq ad v).trans hv) w) k
theorem j_dup_x1 {v u : jV} (hd : decode d.2.1 pc = .ok (.dup_x1, 1)) (hv : jcat v = 1) (hu : jcat u = 1) (k : jG d X F sh kc ks Q (pc + 1) ls (v :: u :: v :: st) M) : jG d X F sh kc ks Q pc ls (v :: u :: st) M :=
  j_pure (fun h => jok_cons (jok_hd h) (jok_cons (jok_hd (jok_tl h)) (jok_cons (jok_hd h) (jok_tl (jok_tl h))))) (fun p l e s m args below meth c H locs lsA ad q hE _ w => lv_dup_x1 hE.1 hE.2.1 hd ((jcat_eq ad v).trans hv) ((jcat_eq ad u).trans hu) w) k
theorem j_dup_x2 {v u t : jV} (hd : decode d.2.1 pc = .ok (.dup_x2, 1)) (hv : jcat v = 1) (hu : jcat u = 1) (ht : jcat t = 1) (k : jG d X F sh kc ks Q (pc + 1) ls (v :: u :: t :: v :: st) M) : jG d X F sh kc ks Q pc ls (v :: u :: t :: st) M :=
  j_pure (fun h => jok_cons (jok_hd h) (jok_cons (jok_hd (jok_tl h)) (jok_cons (jok_hd (jok_tl (jok_tl h))) (jok_cons (jok_hd h) (jok_tl (jok_tl (jok_tl h))))))) (fun p l e s m args below meth c H locs lsA ad q hE _ w => lv_dup_x2 hE.1 hE.2.1 hd ((jcat_eq ad v).trans hv) ((jcat_eq ad u).trans hu) ((jcat_eq ad t).trans ht) w) k
theorem j_dup2 {v u : jV} (hd : decode d.2.1 pc = .ok (.dup2, 1)) (hv : jcat v = 1) (hu : jcat u = 1) (k : jG d X F sh kc ks Q (pc + 1) ls (v :: u :: v :: u :: st) M) : jG d X F sh kc ks Q pc ls (v :: u :: st) M :=
  j_pure (fun h => jok_cons (jok_hd h) (jok_cons (jok_hd (jok_tl h)) h)) (fun p l e s m args below meth c H locs lsA ad q hE _ w => lv_dup2_11 hE.1 hE.2.1 hd ((jcat_eq ad v).trans hv) ((jcat_eq ad u).trans hu) w) k
theorem j_dup2_2 {v : jV} (hd : decode d.2.1 pc = .ok (.dup2, 1)) (hv : jcat v = 2) (k : jG d X F sh kc ks Q (pc + 1) ls (v :: v :: st) M) : jG d X F sh kc ks Q pc ls (v :: st) M :=
  j_pure (fun h => jok_cons (jok_hd h) h) (fun p l e s m args below meth c H locs lsA ad q hE _ w => lv_dup2_2 hE.1 hE.2.1 hd ((jcat_eq ad v).trans hv) w) k
theorem j_dup2_x1 {v u : jV} (hd : decode d.2.1 pc = .ok (.dup2_x1, 1)) (hv : jcat v = 2) (hu : jcat u = 1) (k : jG d X F sh kc ks Q (pc + 1) ls (v :: u :: v :: st) M) : jG d X F sh kc ks Q pc ls (v :: u :: st) M :=
  j_pure (fun h => jok_cons (jok_hd h) (jok_cons (jok_hd (jok_tl h)) (jok_cons (jok_hd h) (jok_tl (jok_tl h))))) (fun p l e s m args below meth c H locs lsA ad q hE _ w => lv_dup2_x1_2 hE.1 hE.2.1 hd ((jcat_eq ad v).trans hv) ((jcat_eq ad u).trans hu) w) k
/-! loads, stores -/
theorem j_load {v : jV} {pc' : Nat} (pos : Nat) {i : Nat} (hl : ls[pos]? = some (i, v))
    (hs : ∀ (p : Program) (l : Launch) (e : Env) (s : State) (m : MethodId) (args : Array Value) (below : List Frame) (meth : Method) (c : Code) (H : Heap) (locs : List Loc) (lsA : Array Slot) (ad : Int → Nat) (q : State → Prop), jEnv d p s m args meth c → lsA[i]? = some (.val (jcv ad v)) →
      W p l e d.2.2.2.2.1 s m args below meth c H locs kc ks q (F0 m pc' lsA (jcv ad v :: st.map (jcv ad))) → W p l e d.2.2.2.2.1 s m args below meth c H locs kc ks q (F0 m pc lsA (st.map (jcv ad))))
    (k : jG d X F sh kc ks Q pc' ls (v :: st) M) : jG d X F sh kc ks Q pc ls st M := by
  intro p l e s m args below meth c Z cy ad0 ad A H locs lsA hE hw hst hls hh
  exact hs p l e s m args below meth c H locs lsA ad _ hE (jls_at hh pos hl) (k p l e s m args below meth c Z cy ad0 ad A H locs lsA hE hw (jok_cons (hls _ (List.mem_of_getElem? hl)) hst) hls hh)
theorem j_iload_n {k : Fin 4} {i : Nat} {x : Int} (pos : Nat) (hd : decode d.2.1 pc = .ok (.iload_n k, 1)) (hi : (k : Nat) = i) (hl : ls[pos]? = some (i, jI x)) (kk : jG d X F sh kc ks Q (pc + 1) ls (jI x :: st) M) : jG d X F sh kc ks Q pc ls st M :=
  j_load pos hl (fun p l e s m args below meth c H locs lsA ad q hE h w => lv_iload_n hE.1 hE.2.1 hd hi h w) kk
theorem j_iload {i : Nat} {x : Int} (pos : Nat) (hd : decode d.2.1 pc = .ok (.iload i, 2)) (hl : ls[pos]? = some (i, jI x)) (kk : jG d X F sh kc ks Q (pc + 2) ls (jI x :: st) M) : jG d X F sh kc ks Q pc ls st M :=
  j_load pos hl (fun p l e s m args below meth c H locs lsA ad q hE h w => lv_iload hE.1 hE.2.1 hd h w) kk
theorem j_lload_n {k : Fin 4} {i : Nat} {x : Int} (pos : Nat) (hd : decode d.2.1 pc = .ok (.lload_n k, 1)) (hi : (k : Nat) = i) (hl : ls[pos]? = some (i, jL x)) (kk : jG d X F sh kc ks Q (pc + 1) ls (jL x :: st) M) : jG d X F sh kc ks Q pc ls st M :=
  j_load pos hl (fun p l e s m args below meth c H locs lsA ad q hE h w => lv_lload_n hE.1 hE.2.1 hd hi h w) kk
theorem j_lload {i : Nat} {x : Int} (pos : Nat) (hd : decode d.2.1 pc = .ok (.lload i, 2)) (hl : ls[pos]? = some (i, jL x)) (kk : jG d X F sh kc ks Q (pc + 2) ls (jL x :: st) M) : jG d X F sh kc ks Q pc ls st M :=
  j_load pos hl (fun p l e s m args below meth c H locs lsA ad q hE h w => lv_lload hE.1 hE.2.1 hd h w) kk
theorem j_aload_n {k : Fin 4} {i : Nat} {x : Int} (pos : Nat) (hd : decode d.2.1 pc = .ok (.aload_n k, 1)) (hi : (k : Nat) = i) (hl : ls[pos]? = some (i, jR x)) (kk : jG d X F sh kc ks Q (pc + 1) ls (jR x :: st) M) : jG d X F sh kc ks Q pc ls st M :=
  j_load pos hl (fun p l e s m args below meth c H locs lsA ad q hE h w => lv_aload_n hE.1 hE.2.1 hd hi h w) kk
theorem j_aload {i : Nat} {x : Int} (pos : Nat) (hd : decode d.2.1 pc = .ok (.aload i, 2)) (hl : ls[pos]? = some (i, jR x)) (kk : jG d X F sh kc ks Q (pc + 2) ls (jR x :: st) M) : jG d X F sh kc ks Q pc ls st M :=
  j_load pos hl (fun p l e s m args below meth c H locs lsA ad q hE h w => lv_aload hE.1 hE.2.1 hd h w) kk
theorem j_istore_n {k : Fin 4} {i : Nat} {x : Int} {ls' : List (Nat × jV)} (hd : decode d.2.1 pc = .ok (.istore_n k, 1)) (hi : (k : Nat) = i) (hn : i < d.2.2.1) (hs : jset i 1 (jI x) ls = ls') (kk : jG d X F sh kc ks Q (pc + 1) ls' st M) : jG d X F sh kc ks Q pc ls (jI x :: st) M := by
  subst hs
  intro p l e s m args below meth c Z cy ad0 ad A H locs lsA hE hw hst hls hh
  exact lv_istore_n hE.1 hE.2.1 hd hi hh hn rfl (fun lsB hB => kk p l e s m args below meth c Z cy ad0 ad A H locs lsB hE hw (jok_tl hst) (jset_ok hls (jok_hd hst)) (jset_has1 (v := jI x) hB))
theorem j_istore {i : Nat} {x : Int} {ls' : List (Nat × jV)} (hd : decode d.2.1 pc = .ok (.istore i, 2)) (hn : i < d.2.2.1) (hs : jset i 1 (jI x) ls = ls') (kk : jG d X F sh kc ks Q (pc + 2) ls' st M) : jG d X F sh kc ks Q pc ls (jI x :: st) M := by
  subst hs
  intro p l e s m args below meth c Z cy ad0 ad A H locs lsA hE hw hst hls hh
  exact lv_istore hE.1 hE.2.1 hd hh hn rfl (fun lsB hB => kk p l e s m args below meth c Z cy ad0 ad A H locs lsB hE hw (jok_tl hst) (jset_ok hls (jok_hd hst)) (jset_has1 (v := jI x) hB))
theorem j_astore_n {k : Fin 4} {i : Nat} {x : Int} {ls' : List (Nat × jV)} (hd : decode d.2.1 pc = .ok (.astore_n k, 1)) (hi : (k : Nat) = i) (hn : i < d.2.2.1) (hs : jset i 1 (jR x) ls = ls') (kk : jG d X F sh kc ks Q (pc + 1) ls' st M) : jG d X F sh kc ks Q pc ls (jR x :: st) M := by
  subst hs
  intro p l e s m args below meth c Z cy ad0 ad A H locs lsA hE hw hst hls hh
  exact lv_astore_n hE.1 hE.2.1 hd hi hh hn rfl (fun lsB hB => kk p l e s m args below meth c Z cy ad0 ad A H locs lsB hE hw (jok_tl hst) (jset_ok hls (jok_hd hst)) (jset_has1 (v := jR x) hB))
theorem j_astore {i : Nat} {x : Int} {ls' : List (Nat × jV)} (hd : decode d.2.1 pc = .ok (.astore i, 2)) (hn : i < d.2.2.1) (hs : jset i 1 (jR x) ls = ls') (kk : jG d X F sh kc ks Q (pc + 2) ls' st M) : jG d X F sh kc ks Q pc ls (jR x :: st) M := by
  subst hs
  intro p l e s m args below meth c Z cy ad0 ad A H locs lsA hE hw hst hls hh
  exact lv_astore hE.1 hE.2.1 hd hh hn rfl (fun lsB hB => kk p l e s m args below meth c Z cy ad0 ad A H locs lsB hE hw (jok_tl hst) (jset_ok hls (jok_hd hst)) (jset_has1 (v := jR x) hB))
theorem j_lstore_n {k : Fin 4} {i : Nat} {x : Int} {ls' : List (Nat × jV)} (hd : decode d.2.1 pc = .ok (.lstore_n k, 1)) (hi : (k : Nat) = i) (hn : i + 1 < d.2.2.1) (hs : jset i 2 (jL x) ls = ls') (kk : jG d X F sh kc ks Q (pc + 1) ls' st M) : jG d X F sh kc ks Q pc ls (jL x :: st) M := by
  subst hs
  intro p l e s m args below meth c Z cy ad0 ad A H locs lsA hE hw hst hls hh
  exact lv_lstore_n hE.1 hE.2.1 hd hi hh hn rfl (fun lsB hB => kk p l e s m args below meth c Z cy ad0 ad A H locs lsB hE hw (jok_tl hst) (jset_ok hls (jok_hd hst)) (jset_has2 (v := jL x) hB))
theorem j_lstore {i : Nat} {x : Int} {ls' : List (Nat × jV)} (hd : decode d.2.1 pc = .ok (.lstore i, 2)) (hn : i + 1 < d.2.2.1) (hs : jset i 2 (jL x) ls = ls') (kk : jG d X F sh kc ks Q (pc + 2) ls' st M) : jG d X F sh kc ks Q pc ls (jL x :: st) M := by
  subst hs
  intro p l e s m args below meth c Z cy ad0 ad A H locs lsA hE hw hst hls hh
  exact lv_lstore hE.1 hE.2.1 hd hh hn rfl (fun lsB hB => kk p l e s m args below meth c Z cy ad0 ad A H locs lsB hE hw (jok_tl hst) (jset_ok hls (jok_hd hst)) (jset_has2 (v := jL x) hB))
theorem j_iinc {i : Nat} {n x y : Int} {ls' : List (Nat × jV)} (pos : Nat) (hd : decode d.2.1 pc = .ok (.iinc i n, 3)) (hl : ls[pos]? = some (i, jI x)) (hy : y = x + n) (hr : jr y) (hn : i < d.2.2.1) (hs : jset i 1 (jI y) ls = ls') (kk : jG d X F sh kc ks Q (pc + 3) ls' st M) : jG d X F sh kc ks Q pc ls st M := by
  subst hs
  intro p l e s m args below meth c Z cy ad0 ad A H locs lsA hE hw hst hls hh
  exact lv_iinc (k := pos) hE.1 hE.2.1 hd hh (x := Int32.ofInt x) (by rw [List.getElem?_map, hl]; rfl) (v := Int32.ofInt y) (by rw [hy, Int32.ofInt_add]) hn rfl (fun lsB hB => kk p l e s m args below meth c Z cy ad0 ad A H locs lsB hE hw hst (jset_ok (v := jI y) hls hr) (jset_has1 (v := jI y) hB))
/-! branches -/
theorem j_goto {off : Int} {tgt : Nat} (hd : decode d.2.1 pc = .ok (.goto off, 3)) (ht : (pc : Int) + off = (tgt : Int)) (k : jG d X F sh kc ks Q tgt ls st M) : jG d X F sh kc ks Q pc ls st M :=
  j_pure (fun h => h) (fun p l e s m args below meth c H locs lsA ad q hE _ w => lv_goto hE.1 hE.2.1 hd ht w) k
/-- two ways -/
theorem j_two {C : Prop} {st st' : List jV} {tgt pc' : Nat} (hok : (∀ v ∈ st, jok v) → ∀ v ∈ st', jok v)
    (hs : ∀ (p : Program) (l : Launch) (e : Env) (s : State) (m : MethodId) (args : Array Value) (below : List Frame) (meth : Method) (c : Code) (H : Heap) (locs : List Loc) (lsA : Array Slot) (ad : Int → Nat) (q : State → Prop), jEnv d p s m args meth c → (∀ v ∈ st, jok v) →
      (C → W p l e d.2.2.2.2.1 s m args below meth c H locs kc ks q (F0 m tgt lsA (st'.map (jcv ad)))) → (¬ C → W p l e d.2.2.2.2.1 s m args below meth c H locs kc ks q (F0 m pc' lsA (st'.map (jcv ad)))) → W p l e d.2.2.2.2.1 s m args below meth c H locs kc ks q (F0 m pc lsA (st.map (jcv ad))))
    (kt : C → jG d X F sh kc ks Q tgt ls st' M) (kf : ¬ C → jG d X F sh kc ks Q pc' ls st' M) : jG d X F sh kc ks Q pc ls st M := by
  intro p l e s m args below meth c Z cy ad0 ad A H locs lsA hE hw hst hls hl
  exact hs p l e s m args below meth c H locs lsA ad _ hE hst (fun hc => kt hc p l e s m args below meth c Z cy ad0 ad A H locs lsA hE hw (hok hst) hls hl) (fun hc => kf hc p l e s m args below meth c Z cy ad0 ad A H locs lsA hE hw (hok hst) hls hl)
theorem j_icmp_eq {x y : Int} {off : Int} {tgt : Nat} (hd : decode d.2.1 pc = .ok (.if_icmp .eq off, 3)) (ht : (pc : Int) + off = (tgt : Int)) (kt : x = y → jG d X F sh kc ks Q tgt ls st M) (kf : ¬ (x = y) → jG d X F sh kc ks Q (pc + 3) ls st M) : jG d X F sh kc ks Q pc ls (jI y :: jI x :: st) M :=
  j_two (C := x = y) (fun h => jok_tl (jok_tl h)) (fun p l e s m args below meth c H locs lsA ad q hE h wt wf => lv_icmp_eq hE.1 hE.2.1 hd ht (fun z => wt ((jo_inj (jok_hd (jok_tl h)) (jok_hd h)).mp z)) (fun z => wf (fun z2 => z ((jo_inj (jok_hd (jok_tl h)) (jok_hd h)).mpr z2)))) kt kf
theorem j_if_eq {x : Int} {off : Int} {tgt : Nat} (hd : decode d.2.1 pc = .ok (.ifCond .eq off, 3)) (ht : (pc : Int) + off = (tgt : Int)) (kt : x = 0 → jG d X F sh kc ks Q tgt ls st M) (kf : ¬ (x = 0) → jG d X F sh kc ks Q (pc + 3) ls st M) : jG d X F sh kc ks Q pc ls (jI x :: st) M :=
  j_two (C := x = 0) (fun h => jok_tl h) (fun p l e s m args below meth c H locs lsA ad q hE h wt wf => lv_if_eq hE.1 hE.2.1 hd ht (fun z => wt ((jo_inj (jok_hd h) jr_0).mp z)) (fun z => wf (fun z2 => z ((jo_inj (jok_hd h) jr_0).mpr z2)))) kt kf
theorem j_icmp_ne {x y : Int} {off : Int} {tgt : Nat} (hd : decode d.2.1 pc = .ok (.if_icmp .ne off, 3)) (ht : (pc : Int) + off = (tgt : Int)) (kt : ¬ x = y → jG d X F sh kc ks Q tgt ls st M) (kf : x = y → jG d X F sh kc ks Q (pc + 3) ls st M) : jG d X F sh kc ks Q pc ls (jI y :: jI x :: st) M :=
  j_two (C := ¬ x = y) (fun h => jok_tl (jok_tl h)) (fun p l e s m args below meth c H locs lsA ad q hE h wt wf => lv_icmp_ne hE.1 hE.2.1 hd ht (fun z => wt ((not_congr (jo_inj (jok_hd (jok_tl h)) (jok_hd h))).mp z)) (fun z => wf (fun z2 => z2 ((jo_inj (jok_hd (jok_tl h)) (jok_hd h)).mp z)))) kt (fun z => kf (Classical.not_not.mp z))
theorem j_if_ne {x : Int} {off : Int} {tgt : Nat} (hd : decode d.2.1 pc = .ok (.ifCond .ne off, 3)) (ht : (pc : Int) + off = (tgt : Int)) (kt : ¬ x = 0 → jG d X F sh kc ks Q tgt ls st M) (kf : x = 0 → jG d X F sh kc ks Q (pc + 3) ls st M) : jG d X F sh kc ks Q pc ls (jI x :: st) M :=
  j_two (C := ¬ x = 0) (fun h => jok_tl h) (fun p l e s m args below meth c H locs lsA ad q hE h wt wf => lv_if_ne hE.1 hE.2.1 hd ht (fun z => wt ((not_congr (jo_inj (jok_hd h) jr_0)).mp z)) (fun z => wf (fun z2 => z2 ((jo_inj (jok_hd h) jr_0).mp z)))) kt (fun z => kf (Classical.not_not.mp z))
theorem j_icmp_lt {x y : Int} {off : Int} {tgt : Nat} (hd : decode d.2.1 pc = .ok (.if_icmp .lt off, 3)) (ht : (pc : Int) + off = (tgt : Int)) (kt : x < y → jG d X F sh kc ks Q tgt ls st M) (kf : ¬ (x < y) → jG d X F sh kc ks Q (pc + 3) ls st M) : jG d X F sh kc ks Q pc ls (jI y :: jI x :: st) M :=
  j_two (C := x < y) (fun h => jok_tl (jok_tl h)) (fun p l e s m args below meth c H locs lsA ad q hE h wt wf => lv_icmp_lt hE.1 hE.2.1 hd ht (fun z => wt ((jo_lt (jok_hd (jok_tl h)) (jok_hd h)).mp z)) (fun z => wf (fun z2 => z ((jo_lt (jok_hd (jok_tl h)) (jok_hd h)).mpr z2)))) kt kf
theorem j_if_lt {x : Int} {off : Int} {tgt : Nat} (hd : decode d.2.1 pc = .ok (.ifCond .lt off, 3)) (ht : (pc : Int) + off = (tgt : Int)) (kt : x < 0 → jG d X F sh kc ks Q tgt ls st M) (kf : ¬ (x < 0) → jG d X F sh kc ks Q (pc + 3) ls st M) : jG d X F sh kc ks Q pc ls (jI x :: st) M :=
  j_two (C := x < 0) (fun h => jok_tl h) (fun p l e s m args below meth c H locs lsA ad q hE h wt wf => lv_if_lt hE.1 hE.2.1 hd ht (fun z => wt ((jo_lt (jok_hd h) jr_0).mp z)) (fun z => wf (fun z2 => z ((jo_lt (jok_hd h) jr_0).mpr z2)))) kt kf
theorem j_icmp_ge {x y : Int} {off : Int} {tgt : Nat} (hd : decode d.2.1 pc = .ok (.if_icmp .ge off, 3)) (ht : (pc : Int) + off = (tgt : Int)) (kt : y ≤ x → jG d X F sh kc ks Q tgt ls st M) (kf : ¬ (y ≤ x) → jG d X F sh kc ks Q (pc + 3) ls st M) : jG d X F sh kc ks Q pc ls (jI y :: jI x :: st) M :=
  j_two (C := y ≤ x) (fun h => jok_tl (jok_tl h)) (fun p l e s m args below meth c H locs lsA ad q hE h wt wf => lv_icmp_ge hE.1 hE.2.1 hd ht (fun z => wt ((jo_le (jok_hd h) (jok_hd (jok_tl h))).mp z)) (fun z => wf (fun z2 => z ((jo_le (jok_hd h) (jok_hd (jok_tl h))).mpr z2)))) kt kf
theorem j_if_ge {x : Int} {off : Int} {tgt : Nat} (hd : decode d.2.1 pc = .ok (.ifCond .ge off, 3)) (ht : (pc : Int) + off = (tgt : Int)) (kt : 0 ≤ x → jG d X F sh kc ks Q tgt ls st M) (kf : ¬ (0 ≤ x) → jG d X F sh kc ks Q (pc + 3) ls st M) : jG d X F sh kc ks Q pc ls (jI x :: st) M :=
  j_two (C := 0 ≤ x) (fun h => jok_tl h) (fun p l e s m args below meth c H locs lsA ad q hE h wt wf => lv_if_ge hE.1 hE.2.1 hd ht (fun z => wt ((jo_le jr_0 (jok_hd h)).mp z)) (fun z => wf (fun z2 => z ((jo_le jr_0 (jok_hd h)).mpr z2)))) kt kf
theorem j_icmp_gt {x y : Int} {off : Int} {tgt : Nat} (hd : decode d.2.1 pc = .ok (.if_icmp .gt off, 3)) (ht : (pc : Int) + off = (tgt : Int)) (kt : y < x → jG d X F sh kc ks Q tgt ls st M) (kf : ¬ (y < x) → jG d X F sh kc ks Q (pc + 3) ls st M) : jG d X F sh kc ks Q pc ls (jI y :: jI x :: st) M :=
  j_two (C := y < x) (fun h => jok_tl (jok_tl h)) (fun p l e s m args below meth c H locs lsA ad q hE h wt wf => lv_icmp_gt hE.1 hE.2.1 hd ht (fun z => wt ((jo_lt (jok_hd h) (jok_hd (jok_tl h))).mp z)) (fun z => wf (fun z2 => z ((jo_lt (jok_hd h) (jok_hd (jok_tl h))).mpr z2)))) kt kf
theorem j_if_gt {x : Int} {off : Int} {tgt : Nat} (hd : decode d.2.1 pc = .ok (.ifCond .gt off, 3)) (ht : (pc : Int) + off = (tgt : Int)) (kt : 0 < x → jG d X F sh kc ks Q tgt ls st M) (kf : ¬ (0 < x) → jG d X F sh kc ks Q (pc + 3) ls st M) : jG d X F sh kc ks Q pc ls (jI x :: st) M :=
  j_two (C := 0 < x) (fun h => jok_tl h) (fun p l e s m args below meth c H locs lsA ad q hE h wt wf => lv_if_gt hE.1 hE.2.1 hd ht (fun z => wt ((jo_lt jr_0 (jok_hd h)).mp z)) (fun z => wf (fun z2 => z ((jo_lt jr_0 (jok_hd h)).mpr z2)))) kt kf
theorem j_icmp_le {x y : Int} {off : Int} {tgt : Nat} (hd : decode d.2.1 pc = .ok (.if_icmp .le off, 3)) (ht : (pc : Int) + off = (tgt : Int)) (kt : x ≤ y → jG d X F sh kc ks Q tgt ls st M) (kf : ¬ (x ≤ y) → jG d X F sh kc ks Q (pc + 3) ls st M) : jG d X F sh kc ks Q pc ls (jI y :: jI x :: st) M :=
  j_two (C := x ≤ y) (fun h => jok_tl (jok_tl h)) (fun p l e s m args below meth c H locs lsA ad q hE h wt wf => lv_icmp_le hE.1 hE.2.1 hd ht (fun z => wt ((jo_le (jok_hd (jok_tl h)) (jok_hd h)).mp z)) (fun z => wf (fun z2 => z ((jo_le (jok_hd (jok_tl h)) (jok_hd h)).mpr z2)))) kt kf
theorem j_if_le {x : Int} {off : Int} {tgt : Nat} (hd : decode d.2.1 pc = .ok (.ifCond .le off, 3)) (ht : (pc : Int) + off = (tgt : Int)) (kt : x ≤ 0 → jG d X F sh kc ks Q tgt ls st M) (kf : ¬ (x ≤ 0) → jG d X F sh kc ks Q (pc + 3) ls st M) : jG d X F sh kc ks Q pc ls (jI x :: st) M :=
  j_two (C := x ≤ 0) (fun h => jok_tl h) (fun p l e s m args below meth c H locs lsA ad q hE h wt wf => lv_if_le hE.1 hE.2.1 hd ht (fun z => wt ((jo_le (jok_hd h) jr_0).mp z)) (fun z => wf (fun z2 => z ((jo_le (jok_hd h) jr_0).mpr z2)))) kt kf
theorem j_tswIn {dflt lo hi : Int} {offs : Array Int} {len : Nat} {x : Int} {off : Int} {tgt : Nat} (v : Int) (hx : x = v) (hd : decode d.2.1 pc = .ok (.tableswitch dflt lo hi offs, len)) (h1 : lo ≤ v) (h2 : v ≤ hi) (ho : offs[(v - lo).toNat]? = some off) (ht : (pc : Int) + off = (tgt : Int)) (k : jG d X F sh kc ks Q tgt ls st M) : jG d X F sh kc ks Q pc ls (jI x :: st) M :=
  j_pure (fun h => jok_tl h) (fun p l e s m args below meth c H locs lsA ad q hE h w => lv_tableIn hE.1 hE.2.1 hd (by rw [jt_of (jok_hd h), hx]; omega) (by rw [jt_of (jok_hd h), hx]; omega) (by rw [jt_of (jok_hd h), hx]; exact ho) ht w) k
theorem j_tswOut {dflt lo hi : Int} {offs : Array Int} {len : Nat} {x : Int} {tgt : Nat} (hd : decode d.2.1 pc = .ok (.tableswitch dflt lo hi offs, len)) (h1 : x < lo ∨ hi < x) (ht : (pc : Int) + dflt = (tgt : Int)) (k : jG d X F sh kc ks Q tgt ls st M) : jG d X F sh kc ks Q pc ls (jI x :: st) M :=
  j_pure (fun h => jok_tl h) (fun p l e s m args below meth c H locs lsA ad q hE h w => lv_tableOut hE.1 hE.2.1 hd (by rw [jt_of (jok_hd h)]; exact h1) ht w) k
theorem j_lsw {dflt : Int} {ps : Array (Int × Int)} {len : Nat} {x : Int} {off : Int} {tgt : Nat} (hd : decode d.2.1 pc = .ok (.lookupswitch dflt ps, len)) (hp : (ps.toList.zip (ps.toList.drop 1)).all (fun (a, next) => a.1 < next.1) = true) (ho : Op.lookupswitch.offset ps.toList dflt x = off) (ht : (pc : Int) + off = (tgt : Int)) (k : jG d X F sh kc ks Q tgt ls st M) : jG d X F sh kc ks Q pc ls (jI x :: st) M :=
  j_pure (fun h => jok_tl h) (fun p l e s m args below meth c H locs lsA ad q hE h w => lv_lookup hE.1 hE.2.1 hd hp (by rw [jt_of (jok_hd h)]; exact ho) ht w) k
theorem j_lswD {ps : List (Int × Int)} {dflt x : Int} (h : ∀ q ∈ ps, ¬ q.1 = x) : Op.lookupswitch.offset ps dflt x = dflt := by
  induction ps with
  | nil => rfl
  | cons a r ih =>
    rw [Op.lookupswitch.offset_cons, if_neg (by first | exact h a List.mem_cons_self | exact fun z => h a List.mem_cons_self z.symm)]
    exact ih (fun q hq => h q (List.mem_cons_of_mem _ hq))
end JR2
