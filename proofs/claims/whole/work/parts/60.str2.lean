set_option maxRecDepth 20000 in
theorem lt_len : jlT RX5 77 yJ0_length_8abf5 D_J0_length_8abf5 0 := ⟨rfl, (jtbl_in (List.mem_of_getElem? (i := 502) rfl) rfl), (jtbl_in (List.mem_of_getElem? (i := 503) rfl) rfl), (jtbl_in (List.mem_of_getElem? (i := 504) rfl) rfl), (jtbl_in (List.mem_of_getElem? (i := 12) rfl) rfl), (jtbl_in (List.mem_of_getElem? (i := 505) rfl) rfl), ⟨by decide +kernel, by decide +kernel, by decide +kernel⟩⟩
set_option maxRecDepth 20000 in
theorem lt_chr : jlT RX5 82 yJ0_charAt_5068e D_J0_charAt_5068e 1 := ⟨rfl, (jtbl_in (List.mem_of_getElem? (i := 512) rfl) rfl), (jtbl_in (List.mem_of_getElem? (i := 513) rfl) rfl), (jtbl_in (List.mem_of_getElem? (i := 514) rfl) rfl), (jtbl_in (List.mem_of_getElem? (i := 12) rfl) rfl), (jtbl_in (List.mem_of_getElem? (i := 515) rfl) rfl), ⟨by decide +kernel, by decide +kernel, by decide +kernel⟩⟩
set_option maxRecDepth 20000 in
theorem lt_cod : jlT RJ0 335 yJ0_coder_7d493 D_J0_coder_7d493 0 := ⟨rfl, (jtbl_in (List.mem_of_getElem? (i := 506) rfl) rfl), (jtbl_in (List.mem_of_getElem? (i := 507) rfl) rfl), (jtbl_in (List.mem_of_getElem? (i := 508) rfl) rfl), (jtbl_in (List.mem_of_getElem? (i := 12) rfl) rfl), (jtbl_in (List.mem_of_getElem? (i := 509) rfl) rfl), ⟨by decide +kernel, by decide +kernel, by decide +kernel⟩⟩
set_option maxRecDepth 20000 in
theorem lt_lat : jlT RJ0 492 yJ0_isLatin1_aae02 D_J0_isLatin1_aae02 0 := ⟨rfl, (jtbl_in (List.mem_of_getElem? (i := 516) rfl) rfl), (jtbl_in (List.mem_of_getElem? (i := 517) rfl) rfl), (jtbl_in (List.mem_of_getElem? (i := 518) rfl) rfl), (jtbl_in (List.mem_of_getElem? (i := 12) rfl) rfl), (jtbl_in (List.mem_of_getElem? (i := 519) rfl) rfl), ⟨by decide +kernel, by decide +kernel, by decide +kernel⟩⟩
set_option maxRecDepth 20000 in
theorem ls_chr : jlS RJ0 495 yJ1_charAt_3b067 D_J1_charAt_3b067 2 := ⟨(jtbl_in (List.mem_of_getElem? (i := 520) rfl) rfl), (jtbl_in (List.mem_of_getElem? (i := 521) rfl) rfl), (jtbl_in (List.mem_of_getElem? (i := 13) rfl) rfl), (jtbl_in (List.mem_of_getElem? (i := 522) rfl) rfl), ⟨by decide +kernel, by decide +kernel, by decide +kernel⟩⟩
set_option maxRecDepth 20000 in
theorem ls_chk : jlS RJ1 9 yJ0_checkIndex_df160 D_J0_checkIndex_df160 2 := ⟨(jtbl_in (List.mem_of_getElem? (i := 523) rfl) rfl), (jtbl_in (List.mem_of_getElem? (i := 524) rfl) rfl), (jtbl_in (List.mem_of_getElem? (i := 12) rfl) rfl), (jtbl_in (List.mem_of_getElem? (i := 525) rfl) rfl), ⟨by decide +kernel, by decide +kernel, by decide +kernel⟩⟩
set_option maxRecDepth 20000 in
theorem ls_pre : jlS RJ0 1059 yJ3_checkIndex_8e157 D_J3_checkIndex_8e157 3 := ⟨(jtbl_in (List.mem_of_getElem? (i := 528) rfl) rfl), (jtbl_in (List.mem_of_getElem? (i := 529) rfl) rfl), (jtbl_in (List.mem_of_getElem? (i := 14) rfl) rfl), (jtbl_in (List.mem_of_getElem? (i := 530) rfl) rfl), ⟨by decide +kernel, by decide +kernel, by decide +kernel⟩⟩
set_option maxRecDepth 20000 in
theorem lf_com : Cond.fieldLink RJ0 38 "java/lang/String" "COMPACT_STRINGS" "Z" ∈ jtbl := (jtbl_in (List.mem_of_getElem? (i := 510) rfl) rfl)
set_option maxRecDepth 20000 in
theorem lf_val : Cond.fieldLink RJ0 9 "java/lang/String" "value" "[B" ∈ jtbl := (jtbl_in (List.mem_of_getElem? (i := 1481) rfl) rfl)
set_option maxRecDepth 20000 in
theorem lf_cod : Cond.fieldLink RJ0 15 "java/lang/String" "coder" "B" ∈ jtbl := (jtbl_in (List.mem_of_getElem? (i := 1482) rfl) rfl)
set_option maxRecDepth 20000 in
theorem lf_fmt : Cond.fieldLink RJ0 1053 "jdk/internal/util/Preconditions" "SIOOBE_FORMATTER" "Ljava/util/function/BiFunction;" ∈ jtbl := (jtbl_in (List.mem_of_getElem? (i := 526) rfl) rfl)

theorem c_coder {X : jX} {sh : List jS} (M : jM) (i : Nat) (hi : i < 16) : jC yJ0_coder_7d493 D_J0_coder_7d493 X (jT, sh) sh [jR (-10 - (i : Int))] M (jqI (fun r N => r = 0 ∧ N = M)) := by
  refine jC_of (by decide) rfl (fun ad => Nat.le_of_ble_eq_true rfl) (by decide) ?_
  show jG D_J0_coder_7d493 X (jT, sh) sh 0 0 _ 0 [(0, jR (-10 - (i : Int)))] [] M
  refine j_gets1 lf_com dJ0_coder_7d493_0 ?_
  refine j_if_eq (tgt := 13) dJ0_coder_7d493_3 (by decide) (fun z => absurd z (by decide)) (fun z => ?_)
  refine j_aload_n 0 dJ0_coder_7d493_6 rfl rfl ?_
  refine j_scod hi lf_cod dJ0_coder_7d493_7 ?_
  refine j_goto (tgt := 14) dJ0_coder_7d493_10 (by decide) ?_
  exact j_nret rfl rfl rfl rfl dJ0_coder_7d493_14 rfl ⟨rfl, rfl⟩
theorem c_latin {X : jX} {sh : List jS} (M : jM) (i : Nat) (hi : i < 16) : jC yJ0_isLatin1_aae02 D_J0_isLatin1_aae02 X (jT, sh) sh [jR (-10 - (i : Int))] M (jqI (fun r N => r = 1 ∧ N = M)) := by
  refine jC_of (by decide) rfl (fun ad => Nat.le_of_ble_eq_true rfl) (by decide) ?_
  show jG D_J0_isLatin1_aae02 X (jT, sh) sh 0 0 _ 0 [(0, jR (-10 - (i : Int)))] [] M
  refine j_gets1 lf_com dJ0_isLatin1_aae02_0 ?_
  refine j_if_eq (tgt := 17) dJ0_isLatin1_aae02_3 (by decide) (fun z => absurd z (by decide)) (fun z => ?_)
  refine j_aload_n 0 dJ0_isLatin1_aae02_6 rfl rfl ?_
  refine j_scod hi lf_cod dJ0_isLatin1_aae02_7 ?_
  refine j_if_ne (tgt := 17) dJ0_isLatin1_aae02_10 (by decide) (fun z => absurd rfl z) (fun z => ?_)
  refine j_iconst dJ0_isLatin1_aae02_13 (by decide) ?_
  refine j_goto (tgt := 18) dJ0_isLatin1_aae02_14 (by decide) ?_
  exact j_zret rfl rfl rfl rfl dJ0_isLatin1_aae02_18 (Or.inr rfl) ⟨rfl, rfl⟩
theorem jshr0 : ∀ i, i < 16 → jshr (jsl i) 0 = jsl i := by decide
theorem c_slen {X : jX} {sh : List jS} (M : jM) (i : Nat) (hi : i < 16) : jC yJ0_length_8abf5 D_J0_length_8abf5 X (jT, sh) sh [jR (-10 - (i : Int))] M (jqI (fun r N => r = jsl i ∧ N = M)) := by
  refine jC_of (by decide) rfl (fun ad => Nat.le_of_ble_eq_true rfl) (by decide) ?_
  show jG D_J0_length_8abf5 X (jT, sh) sh 0 0 _ 0 [(0, jR (-10 - (i : Int)))] [] M
  refine j_aload_n 0 dJ0_length_8abf5_0 rfl rfl ?_
  refine j_sval hi lf_val dJ0_length_8abf5_1 ?_
  refine j_salen hi dJ0_length_8abf5_4 ?_
  refine j_aload_n 0 dJ0_length_8abf5_5 rfl rfl ?_
  refine j_callT hi lt_cod ⟨Nat.le_of_ble_eq_true rfl, Nat.le_of_ble_eq_true rfl⟩ ⟨rfl, rfl⟩ dJ0_length_8abf5_6 (c_coder M i hi) (as := []) rfl rfl (Nat.le_of_ble_eq_true rfl) (fun r N h => ?_)
  obtain ⟨rfl, rfl⟩ := h
  refine j_ishr dJ0_length_8abf5_9 ?_
  rw [jshr0 i hi]
  exact j_iret rfl rfl rfl rfl dJ0_length_8abf5_10 ⟨rfl, rfl⟩
/-- the check of an index: its third argument is never looked at -/
theorem g_pre {X : jX} {sh : List jS} (M : jM) (x y : Int) (h0 : 0 ≤ x) (h1 : x < y) : jG D_J3_checkIndex_8e157 X (jT, sh) sh 0 0 (jqI (fun r N => r = x ∧ N = M)) 0 [(0, jI x), (1, jI y)] [] M := by
  refine j_iload_n 0 dJ3_checkIndex_8e157_0 rfl rfl ?_
  refine j_if_lt (tgt := 9) dJ3_checkIndex_8e157_1 (by decide) (fun z => by omega) (fun z => ?_)
  refine j_iload_n 0 dJ3_checkIndex_8e157_4 rfl rfl ?_
  refine j_iload_n 1 dJ3_checkIndex_8e157_5 rfl rfl ?_
  refine j_icmp_lt (tgt := 16) dJ3_checkIndex_8e157_6 (by decide) (fun z => ?_) (fun z => by omega)
  refine j_iload_n 0 dJ3_checkIndex_8e157_16 rfl rfl ?_
  exact j_iret rfl rfl rfl rfl dJ3_checkIndex_8e157_17 ⟨rfl, rfl⟩
set_option maxHeartbeats 4000000 in
theorem m_pre {X : jX} {sh : List jS} (M : jM) (x y : Int) (h0 : 0 ≤ x) (h1 : x < y) (hx : jr x) (hy : jr y) (v : Value) (hv : v.category = 1) (l : Launch) (Z : va_G) (cy : Nat → ClassId) (ad : Int → Nat) (sz : Nat) (hM : jokM sh M) :
    Met l yJ3_checkIndex_8e157 (jws yJ3_checkIndex_8e157 D_J3_checkIndex_8e157) D_J3_checkIndex_8e157.2.2.2.2.1 (va_Pc [.int (Int32.ofInt x), .int (Int32.ofInt y), v] (fun U => U.heap.size = sz ∧ va_P Z vwCl (jW ad cy M sh) U.heap ∧ va_K Z vwCl (jtys cy) U ∧ va_D (fun _ => True) (jW ad cy M sh) ∧ jExt X ad (va_A (jW ad cy M sh) sz) U)) (jQc (jqI (fun r N => r = x ∧ N = M)) (jT, sh) Z cy ad (va_A (jW ad cy M sh) sz)) 0 0 (va_A (jW ad cy M sh) sz) := by
  refine Met.ofW (cc := cJ3_checkIndex_8e157) (maxL := 3) (ret := some .int) (by decide) rfl ?_
  intro p e s m args below meth c s₁ B hml hv2
  obtain ⟨rfl, hsz, hP, hK, hD0, hX⟩ := hv2
  have hts := atoms_spec (ws := jws yJ3_checkIndex_8e157 D_J3_checkIndex_8e157) B.pre
  have hown : s.vm.findClass RJ3 = some m.cls := findClass_of_methodNamed B.named
  subst hsz
  have hD := hD0.self (sz := s.heap.size)
  have hA : ∀ q : Nat, s.heap.size ≤ q → va_A (jW ad cy M sh) s.heap.size q := fun q h => Or.inr h
  have e1 : lv_args 0 [Value.int (Int32.ofInt x), Value.int (Int32.ofInt y), v] = [(0, Value.int (Int32.ofInt x)), (1, Value.int (Int32.ofInt y)), (2, v)] := rfl
  have hlen : (lg_sl [Value.int (Int32.ofInt x), Value.int (Int32.ofInt y), v]).length ≤ 3 := by
    cases v <;> first | exact Nat.le_of_ble_eq_true rfl | (exact absurd hv (by decide)) | (simp [Value.category] at hv)
  have hl := lv_entry [Value.int (Int32.ofInt x), Value.int (Int32.ofInt y), v] (n := 3) hlen
  rw [lg_entry_eq]
  rw [e1] at hl
  refine g_pre (X := X) (sh := sh) M x y h0 h1 p l e s m _ below meth c Z cy ad ad _ s.heap [] _ ⟨B.exec, B.bytes, B.returns, hml, hown, fun w hw => hts w (List.mem_cons_of_mem _ hw), B.notSynchronized, fun hc => by cases hc⟩ ⟨hX, fun _ _ => rfl, hK, hP, hD, va_S.rf, hA, hM⟩ (fun v hv => by cases hv) (fun q hq => ?_) (lv_sub hl [0, 1] rfl)
  rcases List.mem_cons.mp hq with rfl | hq
  · exact hx
  · rcases List.mem_cons.mp hq with rfl | hq
    · exact hy
    · cases hq
theorem j_pre0 {X : jX} {F : jF} {sh : List jS} {M : jM} {p : Program} {s : State} {Z : va_G} {cy : Nat → ClassId} {ad0 ad : Int → Nat} {A : Nat → Prop} {H : Heap} {locs : List Loc} (hw : jWorld X F sh M s Z cy ad0 ad A H locs) (As : List Value) :
    PreS s H (va_Pc As (fun U => U.heap.size = H.size ∧ va_P Z vwCl (jW ad cy M sh) U.heap ∧ va_K Z vwCl (jtys cy) U ∧ va_D (fun _ => True) (jW ad cy M sh) ∧ jExt X ad (va_A (jW ad cy M sh) H.size) U)) As := by
  obtain ⟨w1, w2, w3, w4, w5, w6, w7, w8⟩ := hw
  refine ⟨fun a U g mk q => ?_, fun U hU hW => ?_⟩
  · obtain ⟨q0, q1, q2, q3, q4, q5⟩ := q
    exact ⟨q0, q1, q2, va_K.moved (u := U) (U := U.calling g mk a) (Vm.Alike.refl U.vm) q3, q4, jExt.same (u := U) (U := U.calling g mk a) rfl rfl q5⟩
  · exact ⟨rfl, by rw [hU], by rw [hU]; exact w4, va_K.moved hW.alike w3, w5.weaken (fun _ _ _ _ => trivial), w1.call w6 hU hW (jW_in w5 w6 w7)⟩
set_option maxHeartbeats 4000000 in
theorem c_schk {X : jX} {sh : List jS} (M : jM) (x y : Int) (h0 : 0 ≤ x) (h1 : x < y) : jC yJ0_checkIndex_df160 D_J0_checkIndex_df160 X (jT, sh) sh [jI x, jI y] M (jqV (fun N => N = M)) := by
  refine jC_of (by decide) rfl (fun ad => Nat.le_of_ble_eq_true rfl) (by decide) ?_
  show jG D_J0_checkIndex_df160 X (jT, sh) sh 0 0 _ 0 [(0, jI x), (1, jI y)] [] M
  refine j_iload_n 0 dJ0_checkIndex_df160_0 rfl rfl ?_
  refine j_iload_n 1 dJ0_checkIndex_df160_1 rfl rfl ?_
  intro p l e s m args below meth c Z cy ad0 ad A H locs lsA hE hw hst hls hl
  have hy : jr y := jok_hd hst
  have hx : jr x := jok_hd (jok_tl hst)
  have hts := hE.2.2.2.2.2.1
  obtain ⟨l1, l2, l3, l4, l5⟩ := ls_pre
  have hz := hw.1.2.2.2.2.1
  have key : ∀ v : Value, v.category = 1 → va_Z "jdk/internal/util/Preconditions" "SIOOBE_FORMATTER" "Ljava/util/function/BiFunction;" v A s s.heap → W p l e D_J0_checkIndex_df160.2.2.2.2.1 s m args below meth c H locs 0 0 (MQ below (jQc (jqV (fun N => N = M)) (jT, sh) Z cy ad0 A) args s D_J0_checkIndex_df160.2.2.2.2.1.cells D_J0_checkIndex_df160.2.2.2.2.1.slots A) (F0 m 2 lsA ([jI y, jI x].map (jcv ad))) := by
    intro v hv hZ
    refine va_gets (C := "jdk/internal/util/Preconditions") (n := "SIOOBE_FORMATTER") (d := "Ljava/util/function/BiFunction;") (ref := "jdk/internal/util/Preconditions") (own := RJ0) (index := 1053) (v := v) hE.1 hE.2.1 hZ hw.2.2.2.2.2.1 hE.2.2.2.2.1 (hts _ lf_fmt) (fun _ h => h) dJ0_checkIndex_df160_2 ?_
    refine j_back (d := D_J0_checkIndex_df160) (X := X) (F := (jT, sh)) (sh := sh) (kc := 0) (ks := 0) (pc := 5) (ls := [(0, jI x), (1, jI y)]) (st := []) (M := M) (P1 := jT) (she := sh) (Qc := jqI (fun r N => r = x ∧ N = M)) (mc := 0) (ms := 0) (a := #[Value.int (Int32.ofInt x), Value.int (Int32.ofInt y), v]) hE hw (fun v hv => by cases hv) hls hl (fun _ _ => trivial) (fun _ _ _ => trivial) (fun _ _ => trivial) (fun _ _ => trivial) ?_ (fun r M' h => ?_)
    · exact va_runS (As := [Value.int (Int32.ofInt x), Value.int (Int32.ofInt y), v]) (rest := []) (n := 3) (bytes := cJ3_checkIndex_8e157) (maxL := 3) (ret := some .int) (ws := jws yJ3_checkIndex_8e157 D_J3_checkIndex_8e157) (rm := D_J3_checkIndex_8e157.2.2.2.2.1) ⟨hE.1, hE.2.1, hE.2.2.2.1, hE.2.2.2.2.1, hts⟩ (m_pre M x y h0 h1 hx hy v hv l Z cy ad H.size hw.2.2.2.2.2.2.2) ⟨callB_of 3 hts (j_good l4) rfl rfl rfl (hts _ l3) (hts _ l1) l5 ⟨Nat.le_of_ble_eq_true rfl, Nat.le_of_ble_eq_true rfl⟩, hts _ l2⟩ (j_pre0 (p := p) hw _) rfl rfl hl.1 rfl (by show 2 * 0 + 0 ≤ 8; omega) dJ0_checkIndex_df160_5 ⟨Nat.zero_le _, Nat.zero_le _⟩
    · obtain ⟨r0, rfl, rfl, rfl⟩ := h
      refine j_pop dJ0_checkIndex_df160_8 rfl ?_
      exact j_vret rfl rfl rfl rfl dJ0_checkIndex_df160_9 rfl
  rcases hz with hz | ⟨t, hz⟩
  · exact key _ rfl hz
  · exact key _ rfl hz
theorem c_lch {X : jX} {sh : List jS} (M : jM) (i : Nat) (j : Int) (hi : i < 16) (h0 : 0 ≤ j) (h1 : j < jsl i) : jC yJ1_charAt_3b067 D_J1_charAt_3b067 X (jT, sh) sh [jR (-40 - (i : Int)), jI j] M (jqI (fun r N => r = jch i j ∧ N = M)) := by
  have a := jch_at hi h0 h1
  refine jC_of (by decide) rfl (fun ad => Nat.le_of_ble_eq_true rfl) (by decide) ?_
  show jG D_J1_charAt_3b067 X (jT, sh) sh 0 0 _ 0 [(0, jR (-40 - (i : Int))), (1, jI j)] [] M
  refine j_iload_n 1 dJ1_charAt_3b067_0 rfl rfl ?_
  refine j_aload_n 0 dJ1_charAt_3b067_1 rfl rfl ?_
  refine j_salen hi dJ1_charAt_3b067_2 ?_
  refine j_callSv ls_chk ⟨Nat.le_of_ble_eq_true rfl, Nat.le_of_ble_eq_true rfl⟩ ⟨rfl, rfl⟩ dJ1_charAt_3b067_3 (c_schk M j (jsl i) h0 h1) (as := [jI j, jI (jsl i)]) rfl rfl (Nat.le_of_ble_eq_true rfl) (fun N h => ?_)
  subst h
  refine j_aload_n 0 dJ1_charAt_3b067_6 rfl rfl ?_
  refine j_iload_n 1 dJ1_charAt_3b067_7 rfl rfl ?_
  refine j_sbald hi dJ1_charAt_3b067_8 h0 h1 ?_
  refine j_sipush dJ1_charAt_3b067_9 (by decide) ?_
  refine j_iand dJ1_charAt_3b067_12 ?_
  rw [a.2.1]
  refine j_i2c dJ1_charAt_3b067_13 a.2.2.1 ?_
  exact j_nret rfl rfl rfl rfl dJ1_charAt_3b067_14 a.2.2.2 ⟨rfl, rfl⟩
theorem c_sch {X : jX} {sh : List jS} (M : jM) (i : Nat) (j : Int) (hi : i < 16) (h0 : 0 ≤ j) (h1 : j < jsl i) : jC yJ0_charAt_5068e D_J0_charAt_5068e X (jT, sh) sh [jR (-10 - (i : Int)), jI j] M (jqI (fun r N => r = jch i j ∧ N = M)) := by
  have a := jch_at hi h0 h1
  refine jC_of (by decide) rfl (fun ad => Nat.le_of_ble_eq_true rfl) (by decide) ?_
  show jG D_J0_charAt_5068e X (jT, sh) sh 0 0 _ 0 [(0, jR (-10 - (i : Int))), (1, jI j)] [] M
  refine j_aload_n 0 dJ0_charAt_5068e_0 rfl rfl ?_
  refine j_callT hi lt_lat ⟨Nat.le_of_ble_eq_true rfl, Nat.le_of_ble_eq_true rfl⟩ ⟨rfl, rfl⟩ dJ0_charAt_5068e_1 (c_latin M i hi) (as := []) rfl rfl (Nat.le_of_ble_eq_true rfl) (fun r N h => ?_)
  obtain ⟨rfl, rfl⟩ := h
  refine j_if_eq (tgt := 16) dJ0_charAt_5068e_4 (by decide) (fun z => absurd z (by decide)) (fun z => ?_)
  refine j_aload_n 0 dJ0_charAt_5068e_7 rfl rfl ?_
  refine j_sval hi lf_val dJ0_charAt_5068e_8 ?_
  refine j_iload_n 1 dJ0_charAt_5068e_11 rfl rfl ?_
  refine j_callSi ls_chr ⟨Nat.le_of_ble_eq_true rfl, Nat.le_of_ble_eq_true rfl⟩ ⟨rfl, rfl⟩ dJ0_charAt_5068e_12 (c_lch N i j hi h0 h1) (as := [jR (-40 - (i : Int)), jI j]) rfl rfl (Nat.le_of_ble_eq_true rfl) (fun r N' h => ?_)
  obtain ⟨rfl, rfl⟩ := h
  exact j_nret rfl rfl rfl rfl dJ0_charAt_5068e_15 a.2.2.2 ⟨rfl, rfl⟩

