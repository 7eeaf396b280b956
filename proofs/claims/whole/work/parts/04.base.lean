/-! ===== the abstract layer: values as whole numbers, cells by their places in a shape, one memory ===== -/
abbrev jV : Type := Int ⊕ Int ⊕ Int
abbrev jI (x : Int) : jV := Sum.inl x
abbrev jL (x : Int) : jV := Sum.inr (Sum.inl x)
abbrev jR (x : Int) : jV := Sum.inr (Sum.inr x)
abbrev jM : Type := Int → Int → Int
/-- a cell's shape: an array (kind, length), or an object (class, kinds of its fields). Kinds: 0 int, 1 long, 2 a moving reference (its place is in the memory), 3 byte, 4 boolean, 5 null, 10 + t: the cell t -/
abbrev jS : Type := (Nat × Nat) ⊕ (Nat × List Nat)
abbrev jX : Type := Nat × (Nat → Int32)
/-- a method: class, code, locals, answer, room, whether a constructor -/
abbrev jD : Type := String × ByteArray × Nat × Option FieldType × Room × Bool
/-- which places keep their cells, the shape at the method's end -/
abbrev jF : Type := (Int → Prop) × List jS
abbrev jr (x : Int) : Prop := -2147483648 ≤ x ∧ x ≤ 2147483647
def jok : jV → Prop
  | .inl x => jr x
  | _ => True
def jcv (ad : Int → Nat) : jV → Value
  | .inl x => .int (Int32.ofInt x)
  | .inr (.inl x) => .long (Int64.ofInt x)
  | .inr (.inr r) => .ref (ad r)
def jkv (k : Nat) (x : Int) : jV := match k with
  | 0 => jI x
  | 1 => jL x
  | 2 => jR x
  | k => jR ((k : Int) - 10)
def jfv (ad : Int → Nat) (k : Nat) (x : Int) : Value := if k = 5 then .null else jcv ad (jkv k x)
def jup (M : jM) (c k v : Int) : jM := fun c' k' => if c' = c ∧ k' = k then v else M c' k'
def jcell (ad : Int → Nat) (cy : Nat → ClassId) (M : jM) (c : Int) : jS → va_E
  | .inl a => .inl (cy a.1, a.2, if a.1 = 1 then .inr (.inl (fun j => Int64.ofInt (M c j))) else .inl (fun j => Int32.ofInt (M c j)))
  | .inr o => .inr (o.1, o.2.mapIdx (fun j k => jfv ad k (M c j)))
def jW (ad : Int → Nat) (cy : Nat → ClassId) (M : jM) (sh : List jS) : va_W := sh.mapIdx (fun i s => (ad i, jcell ad cy M i s))
abbrev jtys (cy : Nat → ClassId) : List (ClassId × FieldType) := [(cy 0, .int), (cy 1, .long), (cy 3, .byte), (cy 4, .boolean)]
def jlong (sh : List jS) (c k : Int) : Bool := match sh[c.toNat]? with
  | some (.inl a) => a.1 == 1
  | some (.inr o) => o.2[k.toNat]? == some 1
  | none => false
/-- every number of the memory that isn't a long is an int -/
def jokM (sh : List jS) (M : jM) : Prop := ∀ c k : Int, jlong sh c k = true ∨ jr (M c k)
/-- the words that every method may use -/
def jtbl : List Cond := lw_tbl.filter goodWord
theorem jtbl_good : GoodIn jtbl jtbl := fun w hw => ⟨hw, good_of_word (List.mem_filter.mp hw).2⟩
theorem jtbl_in {w : Cond} (h : w ∈ tables_1) (hg : goodWord w = true) : w ∈ jtbl := List.mem_filter.mpr ⟨List.mem_append_right _ h, hg⟩
theorem jtbl_sel {w : Cond} (h : w ∈ k2_sels lw_privs) (hg : goodWord w = true) : w ∈ jtbl := List.mem_filter.mpr ⟨List.mem_append_left _ h, hg⟩
def jws (y : MethodName) (d : jD) : List Cond := .code y d.2.1 d.2.2.1 d.2.2.2.1 :: jtbl
/-- the literals of the class: the pool's place, the text, its bytes -/
def jlits : List (Nat × String × List Int32) := [(44, "rule", [114, 117, 108, 101]), (93, "on", [111, 110]), (106, "if", [105, 102]), (184, "age", [97, 103, 101]), (186, "kind", [107, 105, 110, 100]), (188, "trade", [116, 114, 97, 100, 101]), (190, "mill", [109, 105, 108, 108]), (147, "paper", [112, 97, 112, 101, 114]), (111, "then", [116, 104, 101, 110]), (139, "hours", [104, 111, 117, 114, 115]), (141, "from", [102, 114, 111, 109]), (143, "school", [115, 99, 104, 111, 111, 108]), (145, "rest", [114, 101, 115, 116]), (149, "bar", [98, 97, 114]), (151, "to", [116, 111]), (63, "strike", [115, 116, 114, 105, 107, 101])]
abbrev jlit (i : Nat) : Nat × String × List Int32 := jlits.getD i (0, "", [])
abbrev jlen : List Nat := jlits.map (fun q => q.2.2.length)
abbrev jbyt : List (List Int32) := jlits.map (fun q => q.2.2)
def jEnv (d : jD) (p : Program) (s : State) (m : MethodId) (args : Array Value) (meth : Method) (c : Code) : Prop :=
  p.tables.exec = Jvm.exec ∧ c.code = d.2.1 ∧ meth.sig.returnType = d.2.2.2.1 ∧ c.maxLocals = d.2.2.1 ∧ s.vm.findClass d.1 = some m.cls ∧ (∀ w ∈ jtbl, w.before args s = true) ∧ meth.locks = false ∧ (d.2.2.2.2.2 = true → meth.name = "<init>")
/-- what lies outside of the world: the script, the literals, the JDK's statics, two links across the nest -/
def jExt (X : jX) (ad : Int → Nat) (A : Nat → Prop) (U : State) : Prop :=
  (va_X (ad (-2)) X.1 X.2 U U.heap ∧ ad (-2) < U.heap.size ∧ ¬ A (ad (-2))) ∧
  vk_S 16 jlen jbyt (fun i => ad (-10 - (i : Int))) (fun i => ad (-40 - (i : Int))) A U U.heap ∧
  (∀ i, i < 16 → vk_R RX5 (jlit i).1 (jlit i).2.1 (ad (-10 - (i : Int))) U) ∧
  va_Z "java/lang/String" "COMPACT_STRINGS" "Z" (.int 1) A U U.heap ∧
  va_Zq "jdk/internal/util/Preconditions" "SIOOBE_FORMATTER" "Ljava/util/function/BiFunction;" A U U.heap ∧
  va_Nw (.methodLinkNest RX8 9 yX4_init RX8) U ∧ va_Nw (.methodLinkNest RX8 18 yX3_init RX8) U
theorem jExt.same {X : jX} {ad : Int → Nat} {A : Nat → Prop} {u U : State} (hv : U.vm = u.vm) (hh : U.heap = u.heap) (h : jExt X ad A u) : jExt X ad A U := by
  obtain ⟨⟨h1, h2, h3⟩, h4, h5, h6, h7, h8, h9⟩ := h
  have al : u.vm.Alike U.vm := by rw [hv]; exact Vm.Alike.refl _
  refine ⟨⟨?_, by rw [hh]; exact h2, h3⟩, ?_, fun i hi => (h5 i hi).same hv, ?_, ?_, h8.same rfl hv.symm, h9.same rfl hv.symm⟩
  · rw [hh]; exact h1.moved al
  · rw [hh]; exact h4.moved al
  · rw [hh]; exact h6.moved al
  · rw [hh]; exact h7.moved al
/-- for a callee -/
theorem jExt.call {X : jX} {ad : Int → Nat} {A B : Nat → Prop} {s U : State} {H : Heap} {locs : List Loc} (h : jExt X ad A s) (hS : va_S A s.heap H locs) (hU : U.heap = H) (hW : s.WarmedH U.vm) (hAB : ∀ q, B q → A q) : jExt X ad B U := by
  obtain ⟨⟨h1, h2, h3⟩, h4, h5, h6, h7, h8, h9⟩ := h
  have hk : ∀ a : Nat, a < s.heap.size → ¬ A a → H[a]? = s.heap[a]? := hS.2.1
  refine ⟨⟨?_, by rw [hU]; exact Nat.lt_of_lt_of_le h2 hS.1, fun z => h3 (hAB _ z)⟩, ?_, fun i hi => (h5 i hi).warm hW, ?_, ?_, h8.warmM hW, h9.warmM hW⟩
  · rw [hU]; exact (h1.kept (hk _ h2 h3)).moved hW.alike
  · rw [hU]; exact ((h4.kept hk).narrow hAB).moved hW.alike
  · rw [hU]; exact ((h6.kept hk).narrow hAB).moved hW.alike
  · rw [hU]; exact ((h7.kept hk).narrow hAB).moved hW.alike
/-- the answer's side -/
def jQc (Q : Option jV → jM → Prop) (F : jF) (Z : va_G) (cy : Nat → ClassId) (ad0 : Int → Nat) (A : Nat → Prop) : Array Value → State → Outcome → State → Prop := fun _ st o t =>
  (∃ (r : Option jV) (M' : jM) (ad' : Int → Nat), o = .returned (r.map (jcv ad')) ∧ Q r M' ∧ (∀ i, F.1 i → ad' i = ad0 i) ∧ (∀ v, r = some v → jok v) ∧ jokM F.2 M' ∧ va_P Z vwCl (jW ad' cy M' F.2) t.heap ∧ va_D A (jW ad' cy M' F.2)) ∧ va_F A st t
/-- the world at a point of a method -/
def jWorld (X : jX) (F : jF) (sh : List jS) (M : jM) (s : State) (Z : va_G) (cy : Nat → ClassId) (ad0 ad : Int → Nat) (A : Nat → Prop) (H : Heap) (locs : List Loc) : Prop :=
  jExt X ad A s ∧ (∀ i, F.1 i → ad i = ad0 i) ∧ va_K Z vwCl (jtys cy) s ∧ va_P Z vwCl (jW ad cy M sh) H ∧ va_D A (jW ad cy M sh) ∧ va_S A s.heap H locs ∧ (∀ q, s.heap.size ≤ q → A q) ∧ jokM sh M
def jG (d : jD) (X : jX) (F : jF) (sh : List jS) (kc ks : Nat) (Q : Option jV → jM → Prop) (pc : Nat) (ls : List (Nat × jV)) (st : List jV) (M : jM) : Prop :=
  ∀ (p : Program) (l : Launch) (e : Env) (s : State) (m : MethodId) (args : Array Value) (below : List Frame) (meth : Method) (c : Code) (Z : va_G) (cy : Nat → ClassId) (ad0 ad : Int → Nat) (A : Nat → Prop) (H : Heap) (locs : List Loc) (lsA : Array Slot),
    jEnv d p s m args meth c → jWorld X F sh M s Z cy ad0 ad A H locs → (∀ v ∈ st, jok v) → (∀ q ∈ ls, jok q.2) → lv_has lsA d.2.2.1 (ls.map (fun q => (q.1, jcv ad q.2))) →
    W p l e d.2.2.2.2.1 s m args below meth c H locs kc ks (MQ below (jQc Q F Z cy ad0 A) args s d.2.2.2.2.1.cells d.2.2.2.2.1.slots A) (F0 m pc lsA (st.map (jcv ad)))
/-- a method's contract at these arguments, this memory -/
def jC (y : MethodName) (d : jD) (X : jX) (F : jF) (sh : List jS) (as : List jV) (M : jM) (Q : Option jV → jM → Prop) : Prop :=
  ∀ (l : Launch) (Z : va_G) (cy : Nat → ClassId) (ad : Int → Nat) (sz : Nat), (∀ v ∈ as, jok v) → jokM sh M →
    Met l y (jws y d) d.2.2.2.2.1 (va_Pc (as.map (jcv ad)) (fun U => U.heap.size = sz ∧ va_P Z vwCl (jW ad cy M sh) U.heap ∧ va_K Z vwCl (jtys cy) U ∧ va_D (fun _ => True) (jW ad cy M sh) ∧ jExt X ad (va_A (jW ad cy M sh) sz) U)) (jQc Q F Z cy ad (va_A (jW ad cy M sh) sz)) d.2.2.2.2.1.cells d.2.2.2.2.1.slots (va_A (jW ad cy M sh) sz)
def jargs : Nat → List jV → List (Nat × jV)
  | _, [] => []
  | i, .inr (.inl x) :: vs => (i, .inr (.inl x)) :: jargs (i + 2) vs
  | i, .inl x :: vs => (i, .inl x) :: jargs (i + 1) vs
  | i, .inr (.inr x) :: vs => (i, .inr (.inr x)) :: jargs (i + 1) vs
theorem jargs_eq (ad : Int → Nat) : ∀ (as : List jV) (i : Nat), lv_args i (as.map (jcv ad)) = (jargs i as).map (fun q => (q.1, jcv ad q.2))
  | [], _ => rfl
  | .inl x :: vs, i => by
    show (i, _) :: lv_args (if (Value.int _).category = 2 then i + 2 else i + 1) _ = _
    rw [if_neg (by simp [Value.category]), jargs_eq ad vs]; rfl
  | .inr (.inl x) :: vs, i => by
    show (i, _) :: lv_args (if (Value.long _).category = 2 then i + 2 else i + 1) _ = _
    rw [if_pos (by simp [Value.category]), jargs_eq ad vs]; rfl
  | .inr (.inr x) :: vs, i => by
    show (i, _) :: lv_args (if (Value.ref _).category = 2 then i + 2 else i + 1) _ = _
    rw [if_neg (by simp [Value.category]), jargs_eq ad vs]; rfl
theorem jargs_ok : ∀ (as : List jV) (i : Nat), (∀ v ∈ as, jok v) → ∀ q ∈ jargs i as, jok q.2
  | [], _, _, q, hq => by cases hq
  | .inl x :: vs, i, h, q, hq => by
    rcases List.mem_cons.mp hq with rfl | hq
    · exact h _ List.mem_cons_self
    · exact jargs_ok vs _ (fun v hv => h v (List.mem_cons_of_mem _ hv)) q hq
  | .inr (.inl x) :: vs, i, h, q, hq => by
    rcases List.mem_cons.mp hq with rfl | hq
    · trivial
    · exact jargs_ok vs _ (fun v hv => h v (List.mem_cons_of_mem _ hv)) q hq
  | .inr (.inr x) :: vs, i, h, q, hq => by
    rcases List.mem_cons.mp hq with rfl | hq
    · trivial
    · exact jargs_ok vs _ (fun v hv => h v (List.mem_cons_of_mem _ hv)) q hq
set_option maxHeartbeats 4000000 in
/-- a contract out of a walk from the entry -/
theorem jC_of {y : MethodName} {d : jD} {X : jX} {F : jF} {sh : List jS} {as : List jV} {M : jM} {Q : Option jV → jM → Prop} (hy : plainName y.cls = true) (hcls : y.cls = d.1) (hfit : ∀ ad, (lg_sl (as.map (jcv ad))).length ≤ d.2.2.1) (hctor : d.2.2.2.2.2 = true → y.name = "<init>")
    (h : jG d X F sh 0 0 Q 0 (jargs 0 as) [] M) : jC y d X F sh as M Q := by
  intro l Z cy ad sz hok hM
  refine Met.ofW (cc := d.2.1) (maxL := d.2.2.1) (ret := d.2.2.2.1) hy rfl ?_
  intro p e s m args below meth c s₁ B hml hv
  obtain ⟨rfl, hsz, hP, hK, hD0, hX⟩ := hv
  have hts := atoms_spec (ws := jws y d) B.pre
  have hown : s.vm.findClass d.1 = some m.cls := hcls ▸ findClass_of_methodNamed B.named
  subst hsz
  have hD := hD0.self (sz := s.heap.size)
  have hA : ∀ q : Nat, s.heap.size ≤ q → va_A (jW ad cy M sh) s.heap.size q := fun q h => Or.inr h
  have hl := lv_entry (as.map (jcv ad)) (n := d.2.2.1) (hfit ad)
  rw [lg_entry_eq]
  refine h p l e s m _ below meth c Z cy ad ad _ s.heap [] _ ⟨B.exec, B.bytes, B.returns, hml, hown, fun w hw => hts w (List.mem_cons_of_mem _ hw), B.notSynchronized, fun hc => ?_⟩ ⟨hX, fun _ _ => rfl, hK, hP, hD, va_S.rf, hA, hM⟩ (fun v hv => by cases hv) (jargs_ok as 0 hok) ?_
  · exact (name_of_methodNamed B.named B.method).1.trans (hctor hc)
  · rw [← jargs_eq]
    exact hl
