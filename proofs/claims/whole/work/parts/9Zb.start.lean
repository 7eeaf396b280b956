/-! ===== what the Statement gives of the start ===== -/
/-! THE CLAIM OUT OF ONE WALK OF THE LAW'S BODY. Your part is whole_start (and what it stands on); all else here is the same for every law, but numbers. -/
def R_law : String := "MillInspectorsLaw"
def lw_P (b : Addr) (xs : List Int32) (args : Array Value) (s : State) : Prop := args = #[.ref b] ∧ s.IntsAt b xs ∧ xs.length ≤ 3072 ∧ (Jvm.Cond.and given_1 narrow_1).before args s = true
def lw_Q (_ : Array Value) (s : State) (o : Outcome) (t : State) : Prop := o = .returned (some (.int 1)) ∧ Framed s o t [] 111 13628
def lw_Z (below : List Frame) (a : Array Value) (s : State) : State → Prop := fun t => ∃ o, t.status = .running ∧ Ended t below o ∧ lw_Q a s o t
/-- the law's own end, with 1 on the stack, nothing written that was there before, its room as the claim has it -/
theorem lw_ret {p : Program} {l : Launch} {e : Env} {s : State} {m : MethodId} {below : List Frame} {meth : Method} {c : Code} {b : Nat} (hx : p.tables.exec = Jvm.exec) (hb : c.code = code) (hr : meth.sig.returnType = ret) (hlocks : meth.locks = false) {pc : Nat} {H : Heap} {ls : Array Slot} (hdg : decode code pc = .ok (.ireturn, 1)) : W p l e room_1 s m #[Value.ref b] below meth c H [] 111 13628 (lw_Z below #[Value.ref b] s) (F0 m pc ls [.int 1]) := by
  intro T hT X
  obtain ⟨fs, hret, hrun, hended, hW, hframe⟩ := X.leave (v := some (.int 1)) (hlocks := hlocks) (fun h => by rw [hr] at h; cases h)
  have hmeth' : T.vm.method? m = some meth := X.method'
  refine ⟨T.setFrames fs, ?_, .returned (some (.int 1)), hrun, hended, rfl, ⟨_, rfl⟩, hW, hframe⟩
  jvm_step X.here [X.here.top, hx, hb, hdg, hmeth', hr, ret, narrow_b1]
  (try refine ⟨rfl, ?_⟩); (try refine ⟨rfl, ?_⟩)
  first | (intro acts; rw [hret _ acts rfl rfl rfl]) | rw [hret _ _ rfl rfl rfl]
  exact Steps.refl _
/-- what holds at the law's entry: the machine, the code, the tables' words (any of lw_tbl by 'hts w (by decide +kernel)'), the script of L ints xs at the cell b, what the Statement gives of the start (any of its parts by flat_of_before) -/
def lw_At (p : Program) (s : State) (m : MethodId) (meth : Method) (c : Code) (b L : Nat) (xs : Nat → Int32) : Prop :=
  p.tables.exec = Jvm.exec ∧ c.code = code ∧ meth.sig.returnType = ret ∧ c.maxLocals = 4 ∧ s.vm.findClass R_law = some m.cls ∧ (∀ w ∈ lw_tbl, w.before #[Value.ref b] s = true) ∧ va_X b L xs s s.heap ∧ b < s.heap.size ∧ meth.locks = false ∧ (Jvm.Cond.and given_1 narrow_1).before #[Value.ref b] s = true
abbrev zTm (i : Nat) : Term := Term.string RX5 (jlit i).1
abbrev zFl : List Cond := flatC (Cond.and given_1 narrow_1)
theorem lt_ex : ∀ i, i < 16 → Cond.exactly (zTm i) "java/lang/String" ∈ zFl := by decide +kernel
theorem lt_co : ∀ i, i < 16 → Cond.eq (.field (zTm i) "java/lang/String" "coder" "B") (.int 0) ∈ zFl := by decide +kernel
theorem lt_ar : ∀ i, i < 16 → Cond.arrayOf (.field (zTm i) "java/lang/String" "value" "[B") .byte ∈ zFl := by decide +kernel
theorem lt_le : ∀ i, i < 16 → Cond.eq (.length (.field (zTm i) "java/lang/String" "value" "[B")) (.int (Int32.ofNat (jlen.getD i 0))) ∈ zFl := by decide +kernel
theorem lt_el : ∀ i, i < 16 → ∀ j, j < jlen.getD i 0 → Cond.eq (.elem (.field (zTm i) "java/lang/String" "value" "[B") (.int (Int32.ofNat j))) (.int ((jbyt.getD i []).getD j 0)) ∈ zFl := by decide +kernel
theorem zn_0_1 : Cond.not (Cond.eq (zTm 0) (zTm 1)) ∈ zFl := List.mem_of_getElem? (i := 23) (by decide +kernel)
theorem zn_0_2 : Cond.not (Cond.eq (zTm 0) (zTm 2)) ∈ zFl := List.mem_of_getElem? (i := 30) (by decide +kernel)
theorem zn_0_3 : Cond.not (Cond.eq (zTm 0) (zTm 3)) ∈ zFl := List.mem_of_getElem? (i := 39) (by decide +kernel)
theorem zn_0_4 : Cond.not (Cond.eq (zTm 0) (zTm 4)) ∈ zFl := List.mem_of_getElem? (i := 50) (by decide +kernel)
theorem zn_0_5 : Cond.not (Cond.eq (zTm 0) (zTm 5)) ∈ zFl := List.mem_of_getElem? (i := 63) (by decide +kernel)
theorem zn_0_6 : Cond.not (Cond.eq (zTm 0) (zTm 6)) ∈ zFl := List.mem_of_getElem? (i := 76) (by decide +kernel)
theorem zn_0_7 : Cond.not (Cond.eq (zTm 0) (zTm 7)) ∈ zFl := List.mem_of_getElem? (i := 91) (by decide +kernel)
theorem zn_0_8 : Cond.not (Cond.eq (zTm 0) (zTm 8)) ∈ zFl := List.mem_of_getElem? (i := 106) (by decide +kernel)
theorem zn_0_9 : Cond.not (Cond.eq (zTm 0) (zTm 9)) ∈ zFl := List.mem_of_getElem? (i := 123) (by decide +kernel)
theorem zn_0_10 : Cond.not (Cond.eq (zTm 0) (zTm 10)) ∈ zFl := List.mem_of_getElem? (i := 140) (by decide +kernel)
theorem zn_0_11 : Cond.not (Cond.eq (zTm 0) (zTm 11)) ∈ zFl := List.mem_of_getElem? (i := 160) (by decide +kernel)
theorem zn_0_12 : Cond.not (Cond.eq (zTm 0) (zTm 12)) ∈ zFl := List.mem_of_getElem? (i := 179) (by decide +kernel)
theorem zn_0_13 : Cond.not (Cond.eq (zTm 0) (zTm 13)) ∈ zFl := List.mem_of_getElem? (i := 198) (by decide +kernel)
theorem zn_0_14 : Cond.not (Cond.eq (zTm 0) (zTm 14)) ∈ zFl := List.mem_of_getElem? (i := 217) (by decide +kernel)
theorem zn_0_15 : Cond.not (Cond.eq (zTm 0) (zTm 15)) ∈ zFl := List.mem_of_getElem? (i := 241) (by decide +kernel)
theorem zn_1_2 : Cond.not (Cond.eq (zTm 1) (zTm 2)) ∈ zFl := List.mem_of_getElem? (i := 31) (by decide +kernel)
theorem zn_1_3 : Cond.not (Cond.eq (zTm 1) (zTm 3)) ∈ zFl := List.mem_of_getElem? (i := 40) (by decide +kernel)
theorem zn_1_4 : Cond.not (Cond.eq (zTm 1) (zTm 4)) ∈ zFl := List.mem_of_getElem? (i := 51) (by decide +kernel)
theorem zn_1_5 : Cond.not (Cond.eq (zTm 1) (zTm 5)) ∈ zFl := List.mem_of_getElem? (i := 64) (by decide +kernel)
theorem zn_1_6 : Cond.not (Cond.eq (zTm 1) (zTm 6)) ∈ zFl := List.mem_of_getElem? (i := 77) (by decide +kernel)
theorem zn_1_7 : Cond.not (Cond.eq (zTm 1) (zTm 7)) ∈ zFl := List.mem_of_getElem? (i := 92) (by decide +kernel)
theorem zn_1_8 : Cond.not (Cond.eq (zTm 1) (zTm 8)) ∈ zFl := List.mem_of_getElem? (i := 107) (by decide +kernel)
theorem zn_1_9 : Cond.not (Cond.eq (zTm 1) (zTm 9)) ∈ zFl := List.mem_of_getElem? (i := 124) (by decide +kernel)
theorem zn_1_10 : Cond.not (Cond.eq (zTm 1) (zTm 10)) ∈ zFl := List.mem_of_getElem? (i := 141) (by decide +kernel)
theorem zn_1_11 : Cond.not (Cond.eq (zTm 1) (zTm 11)) ∈ zFl := List.mem_of_getElem? (i := 161) (by decide +kernel)
theorem zn_1_12 : Cond.not (Cond.eq (zTm 1) (zTm 12)) ∈ zFl := List.mem_of_getElem? (i := 180) (by decide +kernel)
theorem zn_1_13 : Cond.not (Cond.eq (zTm 1) (zTm 13)) ∈ zFl := List.mem_of_getElem? (i := 199) (by decide +kernel)
theorem zn_1_14 : Cond.not (Cond.eq (zTm 1) (zTm 14)) ∈ zFl := List.mem_of_getElem? (i := 218) (by decide +kernel)
theorem zn_1_15 : Cond.not (Cond.eq (zTm 1) (zTm 15)) ∈ zFl := List.mem_of_getElem? (i := 242) (by decide +kernel)
theorem zn_2_3 : Cond.not (Cond.eq (zTm 2) (zTm 3)) ∈ zFl := List.mem_of_getElem? (i := 41) (by decide +kernel)
theorem zn_2_4 : Cond.not (Cond.eq (zTm 2) (zTm 4)) ∈ zFl := List.mem_of_getElem? (i := 52) (by decide +kernel)
theorem zn_2_5 : Cond.not (Cond.eq (zTm 2) (zTm 5)) ∈ zFl := List.mem_of_getElem? (i := 65) (by decide +kernel)
theorem zn_2_6 : Cond.not (Cond.eq (zTm 2) (zTm 6)) ∈ zFl := List.mem_of_getElem? (i := 78) (by decide +kernel)
theorem zn_2_7 : Cond.not (Cond.eq (zTm 2) (zTm 7)) ∈ zFl := List.mem_of_getElem? (i := 93) (by decide +kernel)
theorem zn_2_8 : Cond.not (Cond.eq (zTm 2) (zTm 8)) ∈ zFl := List.mem_of_getElem? (i := 108) (by decide +kernel)
theorem zn_2_9 : Cond.not (Cond.eq (zTm 2) (zTm 9)) ∈ zFl := List.mem_of_getElem? (i := 125) (by decide +kernel)
theorem zn_2_10 : Cond.not (Cond.eq (zTm 2) (zTm 10)) ∈ zFl := List.mem_of_getElem? (i := 142) (by decide +kernel)
theorem zn_2_11 : Cond.not (Cond.eq (zTm 2) (zTm 11)) ∈ zFl := List.mem_of_getElem? (i := 162) (by decide +kernel)
theorem zn_2_12 : Cond.not (Cond.eq (zTm 2) (zTm 12)) ∈ zFl := List.mem_of_getElem? (i := 181) (by decide +kernel)
theorem zn_2_13 : Cond.not (Cond.eq (zTm 2) (zTm 13)) ∈ zFl := List.mem_of_getElem? (i := 200) (by decide +kernel)
theorem zn_2_14 : Cond.not (Cond.eq (zTm 2) (zTm 14)) ∈ zFl := List.mem_of_getElem? (i := 219) (by decide +kernel)
theorem zn_2_15 : Cond.not (Cond.eq (zTm 2) (zTm 15)) ∈ zFl := List.mem_of_getElem? (i := 243) (by decide +kernel)
theorem zn_3_4 : Cond.not (Cond.eq (zTm 3) (zTm 4)) ∈ zFl := List.mem_of_getElem? (i := 53) (by decide +kernel)
theorem zn_3_5 : Cond.not (Cond.eq (zTm 3) (zTm 5)) ∈ zFl := List.mem_of_getElem? (i := 66) (by decide +kernel)
theorem zn_3_6 : Cond.not (Cond.eq (zTm 3) (zTm 6)) ∈ zFl := List.mem_of_getElem? (i := 79) (by decide +kernel)
theorem zn_3_7 : Cond.not (Cond.eq (zTm 3) (zTm 7)) ∈ zFl := List.mem_of_getElem? (i := 94) (by decide +kernel)
theorem zn_3_8 : Cond.not (Cond.eq (zTm 3) (zTm 8)) ∈ zFl := List.mem_of_getElem? (i := 109) (by decide +kernel)
theorem zn_3_9 : Cond.not (Cond.eq (zTm 3) (zTm 9)) ∈ zFl := List.mem_of_getElem? (i := 126) (by decide +kernel)
theorem zn_3_10 : Cond.not (Cond.eq (zTm 3) (zTm 10)) ∈ zFl := List.mem_of_getElem? (i := 143) (by decide +kernel)
theorem zn_3_11 : Cond.not (Cond.eq (zTm 3) (zTm 11)) ∈ zFl := List.mem_of_getElem? (i := 163) (by decide +kernel)
theorem zn_3_12 : Cond.not (Cond.eq (zTm 3) (zTm 12)) ∈ zFl := List.mem_of_getElem? (i := 182) (by decide +kernel)
theorem zn_3_13 : Cond.not (Cond.eq (zTm 3) (zTm 13)) ∈ zFl := List.mem_of_getElem? (i := 201) (by decide +kernel)
theorem zn_3_14 : Cond.not (Cond.eq (zTm 3) (zTm 14)) ∈ zFl := List.mem_of_getElem? (i := 220) (by decide +kernel)
theorem zn_3_15 : Cond.not (Cond.eq (zTm 3) (zTm 15)) ∈ zFl := List.mem_of_getElem? (i := 244) (by decide +kernel)
theorem zn_4_5 : Cond.not (Cond.eq (zTm 4) (zTm 5)) ∈ zFl := List.mem_of_getElem? (i := 67) (by decide +kernel)
theorem zn_4_6 : Cond.not (Cond.eq (zTm 4) (zTm 6)) ∈ zFl := List.mem_of_getElem? (i := 80) (by decide +kernel)
theorem zn_4_7 : Cond.not (Cond.eq (zTm 4) (zTm 7)) ∈ zFl := List.mem_of_getElem? (i := 95) (by decide +kernel)
theorem zn_4_8 : Cond.not (Cond.eq (zTm 4) (zTm 8)) ∈ zFl := List.mem_of_getElem? (i := 110) (by decide +kernel)
theorem zn_4_9 : Cond.not (Cond.eq (zTm 4) (zTm 9)) ∈ zFl := List.mem_of_getElem? (i := 127) (by decide +kernel)
theorem zn_4_10 : Cond.not (Cond.eq (zTm 4) (zTm 10)) ∈ zFl := List.mem_of_getElem? (i := 144) (by decide +kernel)
theorem zn_4_11 : Cond.not (Cond.eq (zTm 4) (zTm 11)) ∈ zFl := List.mem_of_getElem? (i := 164) (by decide +kernel)
theorem zn_4_12 : Cond.not (Cond.eq (zTm 4) (zTm 12)) ∈ zFl := List.mem_of_getElem? (i := 183) (by decide +kernel)
theorem zn_4_13 : Cond.not (Cond.eq (zTm 4) (zTm 13)) ∈ zFl := List.mem_of_getElem? (i := 202) (by decide +kernel)
theorem zn_4_14 : Cond.not (Cond.eq (zTm 4) (zTm 14)) ∈ zFl := List.mem_of_getElem? (i := 221) (by decide +kernel)
theorem zn_4_15 : Cond.not (Cond.eq (zTm 4) (zTm 15)) ∈ zFl := List.mem_of_getElem? (i := 245) (by decide +kernel)
theorem zn_5_6 : Cond.not (Cond.eq (zTm 5) (zTm 6)) ∈ zFl := List.mem_of_getElem? (i := 81) (by decide +kernel)
theorem zn_5_7 : Cond.not (Cond.eq (zTm 5) (zTm 7)) ∈ zFl := List.mem_of_getElem? (i := 96) (by decide +kernel)
theorem zn_5_8 : Cond.not (Cond.eq (zTm 5) (zTm 8)) ∈ zFl := List.mem_of_getElem? (i := 111) (by decide +kernel)
theorem zn_5_9 : Cond.not (Cond.eq (zTm 5) (zTm 9)) ∈ zFl := List.mem_of_getElem? (i := 128) (by decide +kernel)
theorem zn_5_10 : Cond.not (Cond.eq (zTm 5) (zTm 10)) ∈ zFl := List.mem_of_getElem? (i := 145) (by decide +kernel)
theorem zn_5_11 : Cond.not (Cond.eq (zTm 5) (zTm 11)) ∈ zFl := List.mem_of_getElem? (i := 165) (by decide +kernel)
theorem zn_5_12 : Cond.not (Cond.eq (zTm 5) (zTm 12)) ∈ zFl := List.mem_of_getElem? (i := 184) (by decide +kernel)
theorem zn_5_13 : Cond.not (Cond.eq (zTm 5) (zTm 13)) ∈ zFl := List.mem_of_getElem? (i := 203) (by decide +kernel)
theorem zn_5_14 : Cond.not (Cond.eq (zTm 5) (zTm 14)) ∈ zFl := List.mem_of_getElem? (i := 222) (by decide +kernel)
theorem zn_5_15 : Cond.not (Cond.eq (zTm 5) (zTm 15)) ∈ zFl := List.mem_of_getElem? (i := 246) (by decide +kernel)
theorem zn_6_7 : Cond.not (Cond.eq (zTm 6) (zTm 7)) ∈ zFl := List.mem_of_getElem? (i := 97) (by decide +kernel)
theorem zn_6_8 : Cond.not (Cond.eq (zTm 6) (zTm 8)) ∈ zFl := List.mem_of_getElem? (i := 112) (by decide +kernel)
theorem zn_6_9 : Cond.not (Cond.eq (zTm 6) (zTm 9)) ∈ zFl := List.mem_of_getElem? (i := 129) (by decide +kernel)
theorem zn_6_10 : Cond.not (Cond.eq (zTm 6) (zTm 10)) ∈ zFl := List.mem_of_getElem? (i := 146) (by decide +kernel)
theorem zn_6_11 : Cond.not (Cond.eq (zTm 6) (zTm 11)) ∈ zFl := List.mem_of_getElem? (i := 166) (by decide +kernel)
theorem zn_6_12 : Cond.not (Cond.eq (zTm 6) (zTm 12)) ∈ zFl := List.mem_of_getElem? (i := 185) (by decide +kernel)
theorem zn_6_13 : Cond.not (Cond.eq (zTm 6) (zTm 13)) ∈ zFl := List.mem_of_getElem? (i := 204) (by decide +kernel)
theorem zn_6_14 : Cond.not (Cond.eq (zTm 6) (zTm 14)) ∈ zFl := List.mem_of_getElem? (i := 223) (by decide +kernel)
theorem zn_6_15 : Cond.not (Cond.eq (zTm 6) (zTm 15)) ∈ zFl := List.mem_of_getElem? (i := 247) (by decide +kernel)
theorem zn_7_8 : Cond.not (Cond.eq (zTm 7) (zTm 8)) ∈ zFl := List.mem_of_getElem? (i := 113) (by decide +kernel)
theorem zn_7_9 : Cond.not (Cond.eq (zTm 7) (zTm 9)) ∈ zFl := List.mem_of_getElem? (i := 130) (by decide +kernel)
theorem zn_7_10 : Cond.not (Cond.eq (zTm 7) (zTm 10)) ∈ zFl := List.mem_of_getElem? (i := 147) (by decide +kernel)
theorem zn_7_11 : Cond.not (Cond.eq (zTm 7) (zTm 11)) ∈ zFl := List.mem_of_getElem? (i := 167) (by decide +kernel)
theorem zn_7_12 : Cond.not (Cond.eq (zTm 7) (zTm 12)) ∈ zFl := List.mem_of_getElem? (i := 186) (by decide +kernel)
theorem zn_7_13 : Cond.not (Cond.eq (zTm 7) (zTm 13)) ∈ zFl := List.mem_of_getElem? (i := 205) (by decide +kernel)
theorem zn_7_14 : Cond.not (Cond.eq (zTm 7) (zTm 14)) ∈ zFl := List.mem_of_getElem? (i := 224) (by decide +kernel)
theorem zn_7_15 : Cond.not (Cond.eq (zTm 7) (zTm 15)) ∈ zFl := List.mem_of_getElem? (i := 248) (by decide +kernel)
theorem zn_8_9 : Cond.not (Cond.eq (zTm 8) (zTm 9)) ∈ zFl := List.mem_of_getElem? (i := 131) (by decide +kernel)
theorem zn_8_10 : Cond.not (Cond.eq (zTm 8) (zTm 10)) ∈ zFl := List.mem_of_getElem? (i := 148) (by decide +kernel)
theorem zn_8_11 : Cond.not (Cond.eq (zTm 8) (zTm 11)) ∈ zFl := List.mem_of_getElem? (i := 168) (by decide +kernel)
theorem zn_8_12 : Cond.not (Cond.eq (zTm 8) (zTm 12)) ∈ zFl := List.mem_of_getElem? (i := 187) (by decide +kernel)
theorem zn_8_13 : Cond.not (Cond.eq (zTm 8) (zTm 13)) ∈ zFl := List.mem_of_getElem? (i := 206) (by decide +kernel)
theorem zn_8_14 : Cond.not (Cond.eq (zTm 8) (zTm 14)) ∈ zFl := List.mem_of_getElem? (i := 225) (by decide +kernel)
theorem zn_8_15 : Cond.not (Cond.eq (zTm 8) (zTm 15)) ∈ zFl := List.mem_of_getElem? (i := 249) (by decide +kernel)
theorem zn_9_10 : Cond.not (Cond.eq (zTm 9) (zTm 10)) ∈ zFl := List.mem_of_getElem? (i := 149) (by decide +kernel)
theorem zn_9_11 : Cond.not (Cond.eq (zTm 9) (zTm 11)) ∈ zFl := List.mem_of_getElem? (i := 169) (by decide +kernel)
theorem zn_9_12 : Cond.not (Cond.eq (zTm 9) (zTm 12)) ∈ zFl := List.mem_of_getElem? (i := 188) (by decide +kernel)
theorem zn_9_13 : Cond.not (Cond.eq (zTm 9) (zTm 13)) ∈ zFl := List.mem_of_getElem? (i := 207) (by decide +kernel)
theorem zn_9_14 : Cond.not (Cond.eq (zTm 9) (zTm 14)) ∈ zFl := List.mem_of_getElem? (i := 226) (by decide +kernel)
theorem zn_9_15 : Cond.not (Cond.eq (zTm 9) (zTm 15)) ∈ zFl := List.mem_of_getElem? (i := 250) (by decide +kernel)
theorem zn_10_11 : Cond.not (Cond.eq (zTm 10) (zTm 11)) ∈ zFl := List.mem_of_getElem? (i := 170) (by decide +kernel)
theorem zn_10_12 : Cond.not (Cond.eq (zTm 10) (zTm 12)) ∈ zFl := List.mem_of_getElem? (i := 189) (by decide +kernel)
theorem zn_10_13 : Cond.not (Cond.eq (zTm 10) (zTm 13)) ∈ zFl := List.mem_of_getElem? (i := 208) (by decide +kernel)
theorem zn_10_14 : Cond.not (Cond.eq (zTm 10) (zTm 14)) ∈ zFl := List.mem_of_getElem? (i := 227) (by decide +kernel)
theorem zn_10_15 : Cond.not (Cond.eq (zTm 10) (zTm 15)) ∈ zFl := List.mem_of_getElem? (i := 251) (by decide +kernel)
theorem zn_11_12 : Cond.not (Cond.eq (zTm 11) (zTm 12)) ∈ zFl := List.mem_of_getElem? (i := 190) (by decide +kernel)
theorem zn_11_13 : Cond.not (Cond.eq (zTm 11) (zTm 13)) ∈ zFl := List.mem_of_getElem? (i := 209) (by decide +kernel)
theorem zn_11_14 : Cond.not (Cond.eq (zTm 11) (zTm 14)) ∈ zFl := List.mem_of_getElem? (i := 228) (by decide +kernel)
theorem zn_11_15 : Cond.not (Cond.eq (zTm 11) (zTm 15)) ∈ zFl := List.mem_of_getElem? (i := 252) (by decide +kernel)
theorem zn_12_13 : Cond.not (Cond.eq (zTm 12) (zTm 13)) ∈ zFl := List.mem_of_getElem? (i := 210) (by decide +kernel)
theorem zn_12_14 : Cond.not (Cond.eq (zTm 12) (zTm 14)) ∈ zFl := List.mem_of_getElem? (i := 229) (by decide +kernel)
theorem zn_12_15 : Cond.not (Cond.eq (zTm 12) (zTm 15)) ∈ zFl := List.mem_of_getElem? (i := 253) (by decide +kernel)
theorem zn_13_14 : Cond.not (Cond.eq (zTm 13) (zTm 14)) ∈ zFl := List.mem_of_getElem? (i := 230) (by decide +kernel)
theorem zn_13_15 : Cond.not (Cond.eq (zTm 13) (zTm 15)) ∈ zFl := List.mem_of_getElem? (i := 254) (by decide +kernel)
theorem zn_14_15 : Cond.not (Cond.eq (zTm 14) (zTm 15)) ∈ zFl := List.mem_of_getElem? (i := 255) (by decide +kernel)
theorem zn_0 : ∀ j, j < 16 → 0 ≠ j → Cond.not (Cond.eq (zTm 0) (zTm j)) ∈ zFl ∨ Cond.not (Cond.eq (zTm j) (zTm 0)) ∈ zFl := by
  intro j hj hij
  match j, hj, hij with
  | 0, _, h => exact absurd rfl h
  | 1, _, _ => exact Or.inl zn_0_1
  | 2, _, _ => exact Or.inl zn_0_2
  | 3, _, _ => exact Or.inl zn_0_3
  | 4, _, _ => exact Or.inl zn_0_4
  | 5, _, _ => exact Or.inl zn_0_5
  | 6, _, _ => exact Or.inl zn_0_6
  | 7, _, _ => exact Or.inl zn_0_7
  | 8, _, _ => exact Or.inl zn_0_8
  | 9, _, _ => exact Or.inl zn_0_9
  | 10, _, _ => exact Or.inl zn_0_10
  | 11, _, _ => exact Or.inl zn_0_11
  | 12, _, _ => exact Or.inl zn_0_12
  | 13, _, _ => exact Or.inl zn_0_13
  | 14, _, _ => exact Or.inl zn_0_14
  | 15, _, _ => exact Or.inl zn_0_15
  | j + 16, h, _ => exact absurd h (by omega)
theorem zn_1 : ∀ j, j < 16 → 1 ≠ j → Cond.not (Cond.eq (zTm 1) (zTm j)) ∈ zFl ∨ Cond.not (Cond.eq (zTm j) (zTm 1)) ∈ zFl := by
  intro j hj hij
  match j, hj, hij with
  | 0, _, _ => exact Or.inr zn_0_1
  | 1, _, h => exact absurd rfl h
  | 2, _, _ => exact Or.inl zn_1_2
  | 3, _, _ => exact Or.inl zn_1_3
  | 4, _, _ => exact Or.inl zn_1_4
  | 5, _, _ => exact Or.inl zn_1_5
  | 6, _, _ => exact Or.inl zn_1_6
  | 7, _, _ => exact Or.inl zn_1_7
  | 8, _, _ => exact Or.inl zn_1_8
  | 9, _, _ => exact Or.inl zn_1_9
  | 10, _, _ => exact Or.inl zn_1_10
  | 11, _, _ => exact Or.inl zn_1_11
  | 12, _, _ => exact Or.inl zn_1_12
  | 13, _, _ => exact Or.inl zn_1_13
  | 14, _, _ => exact Or.inl zn_1_14
  | 15, _, _ => exact Or.inl zn_1_15
  | j + 16, h, _ => exact absurd h (by omega)
theorem zn_2 : ∀ j, j < 16 → 2 ≠ j → Cond.not (Cond.eq (zTm 2) (zTm j)) ∈ zFl ∨ Cond.not (Cond.eq (zTm j) (zTm 2)) ∈ zFl := by
  intro j hj hij
  match j, hj, hij with
  | 0, _, _ => exact Or.inr zn_0_2
  | 1, _, _ => exact Or.inr zn_1_2
  | 2, _, h => exact absurd rfl h
  | 3, _, _ => exact Or.inl zn_2_3
  | 4, _, _ => exact Or.inl zn_2_4
  | 5, _, _ => exact Or.inl zn_2_5
  | 6, _, _ => exact Or.inl zn_2_6
  | 7, _, _ => exact Or.inl zn_2_7
  | 8, _, _ => exact Or.inl zn_2_8
  | 9, _, _ => exact Or.inl zn_2_9
  | 10, _, _ => exact Or.inl zn_2_10
  | 11, _, _ => exact Or.inl zn_2_11
  | 12, _, _ => exact Or.inl zn_2_12
  | 13, _, _ => exact Or.inl zn_2_13
  | 14, _, _ => exact Or.inl zn_2_14
  | 15, _, _ => exact Or.inl zn_2_15
  | j + 16, h, _ => exact absurd h (by omega)
theorem zn_3 : ∀ j, j < 16 → 3 ≠ j → Cond.not (Cond.eq (zTm 3) (zTm j)) ∈ zFl ∨ Cond.not (Cond.eq (zTm j) (zTm 3)) ∈ zFl := by
  intro j hj hij
  match j, hj, hij with
  | 0, _, _ => exact Or.inr zn_0_3
  | 1, _, _ => exact Or.inr zn_1_3
  | 2, _, _ => exact Or.inr zn_2_3
  | 3, _, h => exact absurd rfl h
  | 4, _, _ => exact Or.inl zn_3_4
  | 5, _, _ => exact Or.inl zn_3_5
  | 6, _, _ => exact Or.inl zn_3_6
  | 7, _, _ => exact Or.inl zn_3_7
  | 8, _, _ => exact Or.inl zn_3_8
  | 9, _, _ => exact Or.inl zn_3_9
  | 10, _, _ => exact Or.inl zn_3_10
  | 11, _, _ => exact Or.inl zn_3_11
  | 12, _, _ => exact Or.inl zn_3_12
  | 13, _, _ => exact Or.inl zn_3_13
  | 14, _, _ => exact Or.inl zn_3_14
  | 15, _, _ => exact Or.inl zn_3_15
  | j + 16, h, _ => exact absurd h (by omega)
theorem zn_4 : ∀ j, j < 16 → 4 ≠ j → Cond.not (Cond.eq (zTm 4) (zTm j)) ∈ zFl ∨ Cond.not (Cond.eq (zTm j) (zTm 4)) ∈ zFl := by
  intro j hj hij
  match j, hj, hij with
  | 0, _, _ => exact Or.inr zn_0_4
  | 1, _, _ => exact Or.inr zn_1_4
  | 2, _, _ => exact Or.inr zn_2_4
  | 3, _, _ => exact Or.inr zn_3_4
  | 4, _, h => exact absurd rfl h
  | 5, _, _ => exact Or.inl zn_4_5
  | 6, _, _ => exact Or.inl zn_4_6
  | 7, _, _ => exact Or.inl zn_4_7
  | 8, _, _ => exact Or.inl zn_4_8
  | 9, _, _ => exact Or.inl zn_4_9
  | 10, _, _ => exact Or.inl zn_4_10
  | 11, _, _ => exact Or.inl zn_4_11
  | 12, _, _ => exact Or.inl zn_4_12
  | 13, _, _ => exact Or.inl zn_4_13
  | 14, _, _ => exact Or.inl zn_4_14
  | 15, _, _ => exact Or.inl zn_4_15
  | j + 16, h, _ => exact absurd h (by omega)
theorem zn_5 : ∀ j, j < 16 → 5 ≠ j → Cond.not (Cond.eq (zTm 5) (zTm j)) ∈ zFl ∨ Cond.not (Cond.eq (zTm j) (zTm 5)) ∈ zFl := by
  intro j hj hij
  match j, hj, hij with
  | 0, _, _ => exact Or.inr zn_0_5
  | 1, _, _ => exact Or.inr zn_1_5
  | 2, _, _ => exact Or.inr zn_2_5
  | 3, _, _ => exact Or.inr zn_3_5
  | 4, _, _ => exact Or.inr zn_4_5
  | 5, _, h => exact absurd rfl h
  | 6, _, _ => exact Or.inl zn_5_6
  | 7, _, _ => exact Or.inl zn_5_7
  | 8, _, _ => exact Or.inl zn_5_8
  | 9, _, _ => exact Or.inl zn_5_9
  | 10, _, _ => exact Or.inl zn_5_10
  | 11, _, _ => exact Or.inl zn_5_11
  | 12, _, _ => exact Or.inl zn_5_12
  | 13, _, _ => exact Or.inl zn_5_13
  | 14, _, _ => exact Or.inl zn_5_14
  | 15, _, _ => exact Or.inl zn_5_15
  | j + 16, h, _ => exact absurd h (by omega)
theorem zn_6 : ∀ j, j < 16 → 6 ≠ j → Cond.not (Cond.eq (zTm 6) (zTm j)) ∈ zFl ∨ Cond.not (Cond.eq (zTm j) (zTm 6)) ∈ zFl := by
  intro j hj hij
  match j, hj, hij with
  | 0, _, _ => exact Or.inr zn_0_6
  | 1, _, _ => exact Or.inr zn_1_6
  | 2, _, _ => exact Or.inr zn_2_6
  | 3, _, _ => exact Or.inr zn_3_6
  | 4, _, _ => exact Or.inr zn_4_6
  | 5, _, _ => exact Or.inr zn_5_6
  | 6, _, h => exact absurd rfl h
  | 7, _, _ => exact Or.inl zn_6_7
  | 8, _, _ => exact Or.inl zn_6_8
  | 9, _, _ => exact Or.inl zn_6_9
  | 10, _, _ => exact Or.inl zn_6_10
  | 11, _, _ => exact Or.inl zn_6_11
  | 12, _, _ => exact Or.inl zn_6_12
  | 13, _, _ => exact Or.inl zn_6_13
  | 14, _, _ => exact Or.inl zn_6_14
  | 15, _, _ => exact Or.inl zn_6_15
  | j + 16, h, _ => exact absurd h (by omega)
theorem zn_7 : ∀ j, j < 16 → 7 ≠ j → Cond.not (Cond.eq (zTm 7) (zTm j)) ∈ zFl ∨ Cond.not (Cond.eq (zTm j) (zTm 7)) ∈ zFl := by
  intro j hj hij
  match j, hj, hij with
  | 0, _, _ => exact Or.inr zn_0_7
  | 1, _, _ => exact Or.inr zn_1_7
  | 2, _, _ => exact Or.inr zn_2_7
  | 3, _, _ => exact Or.inr zn_3_7
  | 4, _, _ => exact Or.inr zn_4_7
  | 5, _, _ => exact Or.inr zn_5_7
  | 6, _, _ => exact Or.inr zn_6_7
  | 7, _, h => exact absurd rfl h
  | 8, _, _ => exact Or.inl zn_7_8
  | 9, _, _ => exact Or.inl zn_7_9
  | 10, _, _ => exact Or.inl zn_7_10
  | 11, _, _ => exact Or.inl zn_7_11
  | 12, _, _ => exact Or.inl zn_7_12
  | 13, _, _ => exact Or.inl zn_7_13
  | 14, _, _ => exact Or.inl zn_7_14
  | 15, _, _ => exact Or.inl zn_7_15
  | j + 16, h, _ => exact absurd h (by omega)
theorem zn_8 : ∀ j, j < 16 → 8 ≠ j → Cond.not (Cond.eq (zTm 8) (zTm j)) ∈ zFl ∨ Cond.not (Cond.eq (zTm j) (zTm 8)) ∈ zFl := by
  intro j hj hij
  match j, hj, hij with
  | 0, _, _ => exact Or.inr zn_0_8
  | 1, _, _ => exact Or.inr zn_1_8
  | 2, _, _ => exact Or.inr zn_2_8
  | 3, _, _ => exact Or.inr zn_3_8
  | 4, _, _ => exact Or.inr zn_4_8
  | 5, _, _ => exact Or.inr zn_5_8
  | 6, _, _ => exact Or.inr zn_6_8
  | 7, _, _ => exact Or.inr zn_7_8
  | 8, _, h => exact absurd rfl h
  | 9, _, _ => exact Or.inl zn_8_9
  | 10, _, _ => exact Or.inl zn_8_10
  | 11, _, _ => exact Or.inl zn_8_11
  | 12, _, _ => exact Or.inl zn_8_12
  | 13, _, _ => exact Or.inl zn_8_13
  | 14, _, _ => exact Or.inl zn_8_14
  | 15, _, _ => exact Or.inl zn_8_15
  | j + 16, h, _ => exact absurd h (by omega)
theorem zn_9 : ∀ j, j < 16 → 9 ≠ j → Cond.not (Cond.eq (zTm 9) (zTm j)) ∈ zFl ∨ Cond.not (Cond.eq (zTm j) (zTm 9)) ∈ zFl := by
  intro j hj hij
  match j, hj, hij with
  | 0, _, _ => exact Or.inr zn_0_9
  | 1, _, _ => exact Or.inr zn_1_9
  | 2, _, _ => exact Or.inr zn_2_9
  | 3, _, _ => exact Or.inr zn_3_9
  | 4, _, _ => exact Or.inr zn_4_9
  | 5, _, _ => exact Or.inr zn_5_9
  | 6, _, _ => exact Or.inr zn_6_9
  | 7, _, _ => exact Or.inr zn_7_9
  | 8, _, _ => exact Or.inr zn_8_9
  | 9, _, h => exact absurd rfl h
  | 10, _, _ => exact Or.inl zn_9_10
  | 11, _, _ => exact Or.inl zn_9_11
  | 12, _, _ => exact Or.inl zn_9_12
  | 13, _, _ => exact Or.inl zn_9_13
  | 14, _, _ => exact Or.inl zn_9_14
  | 15, _, _ => exact Or.inl zn_9_15
  | j + 16, h, _ => exact absurd h (by omega)
theorem zn_10 : ∀ j, j < 16 → 10 ≠ j → Cond.not (Cond.eq (zTm 10) (zTm j)) ∈ zFl ∨ Cond.not (Cond.eq (zTm j) (zTm 10)) ∈ zFl := by
  intro j hj hij
  match j, hj, hij with
  | 0, _, _ => exact Or.inr zn_0_10
  | 1, _, _ => exact Or.inr zn_1_10
  | 2, _, _ => exact Or.inr zn_2_10
  | 3, _, _ => exact Or.inr zn_3_10
  | 4, _, _ => exact Or.inr zn_4_10
  | 5, _, _ => exact Or.inr zn_5_10
  | 6, _, _ => exact Or.inr zn_6_10
  | 7, _, _ => exact Or.inr zn_7_10
  | 8, _, _ => exact Or.inr zn_8_10
  | 9, _, _ => exact Or.inr zn_9_10
  | 10, _, h => exact absurd rfl h
  | 11, _, _ => exact Or.inl zn_10_11
  | 12, _, _ => exact Or.inl zn_10_12
  | 13, _, _ => exact Or.inl zn_10_13
  | 14, _, _ => exact Or.inl zn_10_14
  | 15, _, _ => exact Or.inl zn_10_15
  | j + 16, h, _ => exact absurd h (by omega)
theorem zn_11 : ∀ j, j < 16 → 11 ≠ j → Cond.not (Cond.eq (zTm 11) (zTm j)) ∈ zFl ∨ Cond.not (Cond.eq (zTm j) (zTm 11)) ∈ zFl := by
  intro j hj hij
  match j, hj, hij with
  | 0, _, _ => exact Or.inr zn_0_11
  | 1, _, _ => exact Or.inr zn_1_11
  | 2, _, _ => exact Or.inr zn_2_11
  | 3, _, _ => exact Or.inr zn_3_11
  | 4, _, _ => exact Or.inr zn_4_11
  | 5, _, _ => exact Or.inr zn_5_11
  | 6, _, _ => exact Or.inr zn_6_11
  | 7, _, _ => exact Or.inr zn_7_11
  | 8, _, _ => exact Or.inr zn_8_11
  | 9, _, _ => exact Or.inr zn_9_11
  | 10, _, _ => exact Or.inr zn_10_11
  | 11, _, h => exact absurd rfl h
  | 12, _, _ => exact Or.inl zn_11_12
  | 13, _, _ => exact Or.inl zn_11_13
  | 14, _, _ => exact Or.inl zn_11_14
  | 15, _, _ => exact Or.inl zn_11_15
  | j + 16, h, _ => exact absurd h (by omega)
theorem zn_12 : ∀ j, j < 16 → 12 ≠ j → Cond.not (Cond.eq (zTm 12) (zTm j)) ∈ zFl ∨ Cond.not (Cond.eq (zTm j) (zTm 12)) ∈ zFl := by
  intro j hj hij
  match j, hj, hij with
  | 0, _, _ => exact Or.inr zn_0_12
  | 1, _, _ => exact Or.inr zn_1_12
  | 2, _, _ => exact Or.inr zn_2_12
  | 3, _, _ => exact Or.inr zn_3_12
  | 4, _, _ => exact Or.inr zn_4_12
  | 5, _, _ => exact Or.inr zn_5_12
  | 6, _, _ => exact Or.inr zn_6_12
  | 7, _, _ => exact Or.inr zn_7_12
  | 8, _, _ => exact Or.inr zn_8_12
  | 9, _, _ => exact Or.inr zn_9_12
  | 10, _, _ => exact Or.inr zn_10_12
  | 11, _, _ => exact Or.inr zn_11_12
  | 12, _, h => exact absurd rfl h
  | 13, _, _ => exact Or.inl zn_12_13
  | 14, _, _ => exact Or.inl zn_12_14
  | 15, _, _ => exact Or.inl zn_12_15
  | j + 16, h, _ => exact absurd h (by omega)
theorem zn_13 : ∀ j, j < 16 → 13 ≠ j → Cond.not (Cond.eq (zTm 13) (zTm j)) ∈ zFl ∨ Cond.not (Cond.eq (zTm j) (zTm 13)) ∈ zFl := by
  intro j hj hij
  match j, hj, hij with
  | 0, _, _ => exact Or.inr zn_0_13
  | 1, _, _ => exact Or.inr zn_1_13
  | 2, _, _ => exact Or.inr zn_2_13
  | 3, _, _ => exact Or.inr zn_3_13
  | 4, _, _ => exact Or.inr zn_4_13
  | 5, _, _ => exact Or.inr zn_5_13
  | 6, _, _ => exact Or.inr zn_6_13
  | 7, _, _ => exact Or.inr zn_7_13
  | 8, _, _ => exact Or.inr zn_8_13
  | 9, _, _ => exact Or.inr zn_9_13
  | 10, _, _ => exact Or.inr zn_10_13
  | 11, _, _ => exact Or.inr zn_11_13
  | 12, _, _ => exact Or.inr zn_12_13
  | 13, _, h => exact absurd rfl h
  | 14, _, _ => exact Or.inl zn_13_14
  | 15, _, _ => exact Or.inl zn_13_15
  | j + 16, h, _ => exact absurd h (by omega)
theorem zn_14 : ∀ j, j < 16 → 14 ≠ j → Cond.not (Cond.eq (zTm 14) (zTm j)) ∈ zFl ∨ Cond.not (Cond.eq (zTm j) (zTm 14)) ∈ zFl := by
  intro j hj hij
  match j, hj, hij with
  | 0, _, _ => exact Or.inr zn_0_14
  | 1, _, _ => exact Or.inr zn_1_14
  | 2, _, _ => exact Or.inr zn_2_14
  | 3, _, _ => exact Or.inr zn_3_14
  | 4, _, _ => exact Or.inr zn_4_14
  | 5, _, _ => exact Or.inr zn_5_14
  | 6, _, _ => exact Or.inr zn_6_14
  | 7, _, _ => exact Or.inr zn_7_14
  | 8, _, _ => exact Or.inr zn_8_14
  | 9, _, _ => exact Or.inr zn_9_14
  | 10, _, _ => exact Or.inr zn_10_14
  | 11, _, _ => exact Or.inr zn_11_14
  | 12, _, _ => exact Or.inr zn_12_14
  | 13, _, _ => exact Or.inr zn_13_14
  | 14, _, h => exact absurd rfl h
  | 15, _, _ => exact Or.inl zn_14_15
  | j + 16, h, _ => exact absurd h (by omega)
theorem zn_15 : ∀ j, j < 16 → 15 ≠ j → Cond.not (Cond.eq (zTm 15) (zTm j)) ∈ zFl ∨ Cond.not (Cond.eq (zTm j) (zTm 15)) ∈ zFl := by
  intro j hj hij
  match j, hj, hij with
  | 0, _, _ => exact Or.inr zn_0_15
  | 1, _, _ => exact Or.inr zn_1_15
  | 2, _, _ => exact Or.inr zn_2_15
  | 3, _, _ => exact Or.inr zn_3_15
  | 4, _, _ => exact Or.inr zn_4_15
  | 5, _, _ => exact Or.inr zn_5_15
  | 6, _, _ => exact Or.inr zn_6_15
  | 7, _, _ => exact Or.inr zn_7_15
  | 8, _, _ => exact Or.inr zn_8_15
  | 9, _, _ => exact Or.inr zn_9_15
  | 10, _, _ => exact Or.inr zn_10_15
  | 11, _, _ => exact Or.inr zn_11_15
  | 12, _, _ => exact Or.inr zn_12_15
  | 13, _, _ => exact Or.inr zn_13_15
  | 14, _, _ => exact Or.inr zn_14_15
  | 15, _, h => exact absurd rfl h
  | j + 16, h, _ => exact absurd h (by omega)
theorem lt_ne : ∀ i, i < 16 → ∀ j, j < 16 → i ≠ j → Cond.not (Cond.eq (zTm i) (zTm j)) ∈ zFl ∨ Cond.not (Cond.eq (zTm j) (zTm i)) ∈ zFl := by
  intro i hi j hj hij
  match i, hi, hij with
  | 0, _, h => exact zn_0 j hj h
  | 1, _, h => exact zn_1 j hj h
  | 2, _, h => exact zn_2 j hj h
  | 3, _, h => exact zn_3 j hj h
  | 4, _, h => exact zn_4 j hj h
  | 5, _, h => exact zn_5 j hj h
  | 6, _, h => exact zn_6 j hj h
  | 7, _, h => exact zn_7 j hj h
  | 8, _, h => exact zn_8 j hj h
  | 9, _, h => exact zn_9 j hj h
  | 10, _, h => exact zn_10 j hj h
  | 11, _, h => exact zn_11 j hj h
  | 12, _, h => exact zn_12 j hj h
  | 13, _, h => exact zn_13 j hj h
  | 14, _, h => exact zn_14 j hj h
  | 15, _, h => exact zn_15 j hj h
  | i + 16, h, _ => exact absurd h (by omega)
theorem lt_ln : ∀ i, i < 16 → jlen.getD i 0 < 2 ^ 31 := by decide +kernel
set_option maxRecDepth 20000 in
theorem lt_sr : ∀ i, i < 16 → Cond.stringRef RX5 (jlit i).1 (jlit i).2.1 ∈ lw_tbl := by
  intro i hi
  match i, hi with
  | 0, _ => exact (List.mem_append_right _ (List.mem_of_getElem? (i := 497) rfl))
  | 1, _ => exact (List.mem_append_right _ (List.mem_of_getElem? (i := 562) rfl))
  | 2, _ => exact (List.mem_append_right _ (List.mem_of_getElem? (i := 579) rfl))
  | 3, _ => exact (List.mem_append_right _ (List.mem_of_getElem? (i := 600) rfl))
  | 4, _ => exact (List.mem_append_right _ (List.mem_of_getElem? (i := 601) rfl))
  | 5, _ => exact (List.mem_append_right _ (List.mem_of_getElem? (i := 602) rfl))
  | 6, _ => exact (List.mem_append_right _ (List.mem_of_getElem? (i := 603) rfl))
  | 7, _ => exact (List.mem_append_right _ (List.mem_of_getElem? (i := 604) rfl))
  | 8, _ => exact (List.mem_append_right _ (List.mem_of_getElem? (i := 621) rfl))
  | 9, _ => exact (List.mem_append_right _ (List.mem_of_getElem? (i := 634) rfl))
  | 10, _ => exact (List.mem_append_right _ (List.mem_of_getElem? (i := 635) rfl))
  | 11, _ => exact (List.mem_append_right _ (List.mem_of_getElem? (i := 636) rfl))
  | 12, _ => exact (List.mem_append_right _ (List.mem_of_getElem? (i := 637) rfl))
  | 13, _ => exact (List.mem_append_right _ (List.mem_of_getElem? (i := 638) rfl))
  | 14, _ => exact (List.mem_append_right _ (List.mem_of_getElem? (i := 655) rfl))
  | 15, _ => exact (List.mem_append_right _ (List.mem_of_getElem? (i := 660) rfl))
  | i + 16, h => exact absurd h (by omega)
def adL (b : Nat) (adK adV : Nat → Nat) : Int → Nat := fun i => if i = -2 then b else if i ≤ -40 then adV (-40 - i).toNat else adK (-10 - i).toNat
theorem adL_2 (b : Nat) (adK adV : Nat → Nat) : adL b adK adV (-2) = b := by unfold adL; rw [if_pos rfl]
theorem adL_K {b : Nat} {adK adV : Nat → Nat} {i : Nat} (h : i < 16) : adL b adK adV (-10 - (i : Int)) = adK i := by
  unfold adL
  rw [if_neg (by omega), if_neg (by omega)]
  congr 1
  omega
theorem adL_V {b : Nat} {adK adV : Nat → Nat} {i : Nat} : adL b adK adV (-40 - (i : Int)) = adV i := by
  unfold adL
  rw [if_neg (by omega), if_pos (by omega)]
  congr 1
  omega
set_option maxHeartbeats 4000000 in
set_option maxRecDepth 20000 in
theorem ext_of {p : Program} {s : State} {m : MethodId} {meth : Method} {c : Code} {b L : Nat} {xs : Nat → Int32} (C0 : lw_At p s m meth c b L xs) : ∃ ad : Int → Nat, ad (-2) = b ∧ jExt (L, xs) ad (fun q => s.heap.size ≤ q) s := by
  obtain ⟨hx, hb, hr, hml, hown, hts, hX, hbl, hlocks, hgv⟩ := C0
  have hg := flat_of_before _ hgv
  have hA : ∀ a : Nat, a < s.heap.size → ¬ (fun q : Nat => s.heap.size ≤ q) a := fun a h z => Nat.not_le.mpr h z
  obtain ⟨adK, adV, hS, hT⟩ := vk_Sof (args := #[Value.ref b]) (s := s) (N := 16) (tm := zTm) (len := jlen) (byt := jbyt) (A := fun q : Nat => s.heap.size ≤ q) lt_ln (fun i hi => hg _ (lt_ex i hi)) (fun i hi => hg _ (lt_co i hi)) (fun i hi => hg _ (lt_ar i hi)) (fun i hi => hg _ (lt_le i hi)) (fun i hi j hj => hg _ (lt_el i hi j hj)) (fun i j hi hj hij => (lt_ne i hi j hj hij).imp (fun z => hg _ z) (fun z => hg _ z)) hA
  refine ⟨adL b adK adV, adL_2 b adK adV, ⟨by rw [adL_2]; exact hX, by rw [adL_2]; exact hbl, by rw [adL_2]; exact hA b hbl⟩, ⟨fun i hi => ?_, fun i j hi hj e => ?_⟩, fun i hi => ?_, ?_, ?_, ?_, ?_⟩
  · show va_O "java/lang/String" (adL b adK adV (-10 - (i : Int))) _ s s.heap ∧ va_OF "java/lang/String" "coder" "B" (.int 0) (adL b adK adV (-10 - (i : Int))) _ s s.heap ∧ va_OF "java/lang/String" "value" "[B" (.ref (adL b adK adV (-40 - (i : Int)))) (adL b adK adV (-10 - (i : Int))) _ s s.heap ∧ va_T .byte (adL b adK adV (-40 - (i : Int))) _ _ _ s s.heap
    rw [adL_K hi, adL_V]
    exact hS.1 i hi
  · have e' : adL b adK adV (-10 - (i : Int)) = adL b adK adV (-10 - (j : Int)) := e
    rw [adL_K hi, adL_K hj] at e'
    exact hS.2 i j hi hj e'
  · rw [adL_K hi]
    exact vk_R.of (hts _ (lt_sr i hi)) (hT i hi)
  · exact va_Zof (hts _ (List.mem_append_right _ (List.mem_of_getElem? (i := 511) rfl))) (hts _ (List.mem_append_right _ (List.mem_of_getElem? (i := 12) rfl))) (va_eqt (hg _ (by decide +kernel))) hA
  · exact va_Zqof (hts _ (List.mem_append_right _ (List.mem_of_getElem? (i := 527) rfl))) (hts _ (List.mem_append_right _ (List.mem_of_getElem? (i := 14) rfl))) (hg _ (by decide +kernel)) hA
  · exact va_Nw.of rfl (hts _ (List.mem_append_right _ (List.mem_of_getElem? (i := 27) rfl)))
  · exact va_Nw.of rfl (hts _ (List.mem_append_right _ (List.mem_of_getElem? (i := 66) rfl)))
theorem ar_of {s : State} {args : Array Value} {ty : FieldType} (h : (Cond.arrayClass ty).before args s = true) (ht : ∀ C, ty ≠ .object C) : ∃ cA : ClassId, ArrOfT s cA ty ∧ va_RA s cA ty := by
  obtain ⟨cA, kA, comp, h1, h2, h3⟩ := Cond.arrayClass_spec h
  refine ⟨cA, fun n z => ⟨fun k h => (by cases h), kA, h2, comp, h3⟩, ?_⟩
  cases ty with
  | object C => exact absurd rfl (ht C)
  | _ => exact h1
set_option maxRecDepth 20000 in
theorem known_of {p : Program} {s : State} {m : MethodId} {meth : Method} {c : Code} {b L : Nat} {xs : Nat → Int32} (C0 : lw_At p s m meth c b L xs) : ∃ (Z : va_G) (cy : Nat → ClassId), va_K Z vwCl (jtys cy) s := by
  obtain ⟨hx, hb, hr, hml, hown, hts, hX, hbl, hlocks, hgv⟩ := C0
  have htj : ∀ w ∈ jtbl, w.before #[Value.ref b] s = true := fun w hw => hts w (List.mem_filter.mp hw).1
  have hk : ∀ k : Nat, ∃ q : ClassId × (Nat → Nat), ∀ x : vw_C, vwCl[k]? = some x → u_Kn s x.1 x.2.1 x.2.2 q.1 q.2 := by
    intro k
    match k with
    | 0 => obtain ⟨a, i, h⟩ := u_known (C := RX0) (T := TX0) (N := 16) (n := 16) htj i_X0 (htj _ (jtbl_in (List.mem_of_getElem? (i := 258) rfl) rfl)); exact ⟨(a, i), fun x hx => by cases hx; exact h⟩
    | 1 => obtain ⟨a, i, h⟩ := u_known (C := RX1) (T := TX1) (N := 14) (n := 14) htj i_X1 (htj _ (jtbl_in (List.mem_of_getElem? (i := 101) rfl) rfl)); exact ⟨(a, i), fun x hx => by cases hx; exact h⟩
    | 2 => obtain ⟨a, i, h⟩ := u_known (C := RX2) (T := TX2) (N := 9) (n := 9) htj i_X2 (htj _ (jtbl_in (List.mem_of_getElem? (i := 193) rfl) rfl)); exact ⟨(a, i), fun x hx => by cases hx; exact h⟩
    | 3 => obtain ⟨a, i, h⟩ := u_known (C := RX3) (T := TX3) (N := 7) (n := 7) htj i_X3 (htj _ (jtbl_in (List.mem_of_getElem? (i := 65) rfl) rfl)); exact ⟨(a, i), fun x hx => by cases hx; exact h⟩
    | 4 => obtain ⟨a, i, h⟩ := u_known (C := RX4) (T := TX4) (N := 8) (n := 8) htj i_X4 (htj _ (jtbl_in (List.mem_of_getElem? (i := 26) rfl) rfl)); exact ⟨(a, i), fun x hx => by cases hx; exact h⟩
    | 5 => obtain ⟨a, i, h⟩ := u_known (C := RX5) (T := TX5) (N := 10) (n := 10) htj i_X5 (htj _ (jtbl_in (List.mem_of_getElem? (i := 320) rfl) rfl)); exact ⟨(a, i), fun x hx => by cases hx; exact h⟩
    | 6 => obtain ⟨a, i, h⟩ := u_known (C := RX6) (T := TX6) (N := 5) (n := 5) htj i_X6 (htj _ (jtbl_in (List.mem_of_getElem? (i := 233) rfl) rfl)); exact ⟨(a, i), fun x hx => by cases hx; exact h⟩
    | 7 => obtain ⟨a, i, h⟩ := u_known (C := RX7) (T := TX7) (N := 11) (n := 11) htj i_X7 (htj _ (jtbl_in (List.mem_of_getElem? (i := 152) rfl) rfl)); exact ⟨(a, i), fun x hx => by cases hx; exact h⟩
    | 8 => obtain ⟨a, i, h⟩ := u_known (C := RX8) (T := TX8) (N := 10) (n := 10) htj i_X8 (htj _ (jtbl_in (List.mem_of_getElem? (i := 18) rfl) rfl)); exact ⟨(a, i), fun x hx => by cases hx; exact h⟩
    | 9 => obtain ⟨a, i, h⟩ := u_known (C := RX9) (T := TX9) (N := 52) (n := 52) htj i_X9 (htj _ (jtbl_in (List.mem_of_getElem? (i := 998) rfl) rfl)); exact ⟨(a, i), fun x hx => by cases hx; exact h⟩
    | k + 10 => exact ⟨(0, fun _ => 0), fun x hx => by cases hx⟩
  obtain ⟨q, hq⟩ := Classical.axiomOfChoice hk
  obtain ⟨a0, a0h⟩ := ar_of (ty := .int) (htj _ (jtbl_in (List.mem_of_getElem? (i := 63) rfl) rfl)) (fun C h => by cases h)
  obtain ⟨a1, a1h⟩ := ar_of (ty := .long) (htj _ (jtbl_in (List.mem_of_getElem? (i := 191) rfl) rfl)) (fun C h => by cases h)
  obtain ⟨a3, a3h⟩ := ar_of (ty := .byte) (htj _ (jtbl_in (List.mem_of_getElem? (i := 357) rfl) rfl)) (fun C h => by cases h)
  obtain ⟨a4, a4h⟩ := ar_of (ty := .boolean) (htj _ (jtbl_in (List.mem_of_getElem? (i := 99) rfl) rfl)) (fun C h => by cases h)
  refine ⟨(fun k => (q k).1, fun k => (q k).2), fun k => if k = 0 then a0 else if k = 1 then a1 else if k = 3 then a3 else a4, fun k x hx => hq k x hx, fun k x hx => ?_⟩
  match k, hx with
  | 0, hx => cases hx; exact a0h
  | 1, hx => cases hx; exact a1h
  | 2, hx => cases hx; exact a3h
  | 3, hx => cases hx; exact a4h
  | k + 4, hx => cases hx
theorem mq_lw {s t : State} {below : List Frame} {b : Nat} {Z : va_G} {cy : Nat → ClassId} {ad : Int → Nat} (h : MQ below (jQc QL FL Z cy ad (fun q => s.heap.size ≤ q)) #[Value.ref b] s 111 13628 (fun q => s.heap.size ≤ q) t) : lw_Z below #[Value.ref b] s t := by
  obtain ⟨o, h1, h2, ⟨⟨r, M', ad', e, ⟨x, hx, hx1⟩, _⟩, _⟩, Lc, ⟨f1, f2, f3⟩, hf⟩ := h
  subst hx
  have hx1 : x = 1 := hx1
  subst hx1
  refine ⟨o, h1, h2, e, f1, f2, f3.1, f3.2.1, f3.2.2.1, f3.2.2.2.1, f3.2.2.2.2.1, fun a c hc => ?_⟩
  obtain ⟨c', q1, q2, q3, q4⟩ := f3.2.2.2.2.2 a c hc
  refine ⟨c', q1, q2, q3, fun i _ => q4 i (fun z => ?_)⟩
  have := hf _ z
  have hl := (Array.getElem?_eq_some_iff.mp hc).1
  exact absurd this (Nat.not_le.mpr hl)
set_option maxHeartbeats 4000000 in
theorem whole_start {p : Program} {e : Env} {s : State} {m : MethodId} {below : List Frame} {meth : Method} {c : Code} (l : Launch) {b L : Nat} {xs : Nat → Int32} (hL : L ≤ 3072) (C0 : lw_At p s m meth c b L xs) : W p l e room_1 s m #[Value.ref b] below meth c s.heap [] 0 0 (lw_Z below #[Value.ref b] s) (entryFrame m ([Value.ref b] : List Value).toArray 4) := by
  obtain ⟨ad, hab, hE⟩ := ext_of C0
  obtain ⟨Z, cy, hK⟩ := known_of C0
  obtain ⟨hx, hb, hr, hml, hown, hts, hX, hbl, hlocks, hgv⟩ := C0
  have K := law_all (X := (L, xs)) hL
  have hl := lv_entry ([Value.ref b]) (n := 4) (Nat.le_of_ble_eq_true rfl)
  rw [lg_entry_eq]
  intro T hT XS
  obtain ⟨t, a1, b1⟩ := K p l e s m #[Value.ref b] below meth c Z cy ad ad (fun q => s.heap.size ≤ q) s.heap [] _ ⟨hx, hb, hr, hml, hown, fun w hw => hts w (List.mem_filter.mp hw).1, hlocks, fun h => by cases h⟩ ⟨hE, fun _ _ => rfl, hK, fun k q h => by simp [jW] at h, ⟨fun i j p q h => by simp [jW] at h, fun k q h => by simp [jW] at h⟩, va_S.rf, fun _ h => h, fun _ _ => Or.inr (by show jr 0; decide)⟩ (fun v hv => by cases hv) (fun q hq => by rw [List.mem_singleton.mp hq]; trivial) (by show lv_has _ 4 [(0, .ref (ad (-2)))]; rw [hab]; exact hl) T hT XS
  exact ⟨t, a1, mq_lw b1⟩
set_option maxHeartbeats 4000000 in
theorem lw_walk (l : Launch) (b : Addr) (xs : List Int32) : MetFree l x (headSpec (Jvm.Cond.code x code maxLocals ret :: tables_1) room_1) (lw_P b xs) (fun _ _ _ _ _ => True) lw_Q := by
  refine MetFree.of_bodyS (code := code) (maxLocals := maxLocals) (ret := ret) (by decide) ?_ ?_
  · intro args s m h hn
    obtain ⟨meth, c, h1, h2, h3, h4, h5, h6, -, -⟩ := Cond.code_spec hn (atoms_spec (ws := Jvm.Cond.code x code maxLocals ret :: tables_1) h _ List.mem_cons_self)
    exact ⟨meth, c, h1, h2, h3, h4, h5, h6⟩
  · intro p e s m args below meth c s₁ B hml0 hP _
    obtain ⟨rfl, hx, hbd, hgv⟩ := hP
    obtain ⟨scr, harrAt, hlist, hof, hsmall⟩ := hx
    obtain ⟨hcb, hkn, -, -⟩ := State.arrayAt?_spec harrAt
    have hown : s.vm.findClass R_law = some m.cls := findClass_of_methodNamed B.named
    have hts0 : ∀ c ∈ (Jvm.Cond.code x code maxLocals ret :: tables_1), c.before #[Value.ref b] s = true := atoms_spec (ws := Jvm.Cond.code x code maxLocals ret :: tables_1) B.pre
    have hts : ∀ w ∈ lw_tbl, w.before #[Value.ref b] s = true := k2_hts_sels lw_privs (fun w hw => hts0 w (List.mem_cons_of_mem _ hw)) lw_privs_ok
    have hml : c.maxLocals = 4 := B.maxLocals_eq (hts0 _ List.mem_cons_self)
    have X₀ : Stand p l e room_1 s m #[Value.ref b] below meth c s₁ [] 0 0 := Stand.of_body B
    have hh0 : s₁.heap = s.heap := by rw [B.state]; rfl
    have hsz : scr.slots.size = xs.length := by rw [← Array.length_toList, hlist, List.length_map]
    have hval : ∀ j : Nat, j < xs.length → scr.slots[j]? = some (.int (xs.getD j 0)) := fun j hj => by
      rw [← Array.getElem?_toList, hlist]
      simp [hj]
    have hbl : b < s.heap.size := (Array.getElem?_eq_some_iff.mp hcb).1
    have hX : va_X b xs.length (fun j => xs.getD j 0) s s.heap := ⟨scr, hcb, hof, hkn, hsz, hval⟩
    have K : W p l e room_1 s m #[Value.ref b] below meth c s₁.heap [] 0 0 (lw_Z below #[Value.ref b] s) (entryFrame m ([Value.ref b] : List Value).toArray 4) := by
      rw [hh0]
      exact whole_start l hbd ⟨B.exec, B.bytes, B.returns, hml, hown, hts, hX, hbl, B.notSynchronized, hgv⟩
    obtain ⟨t, a1, o, b1, b2, b3⟩ := K s₁ rfl X₀
    exact ⟨t, o, a1, b1, b2, b3⟩
theorem lw_pre_spec {args : Array Value} {s : State} (h : (Jvm.Cond.and given_1 narrow_1).before args s = true) (hr : rest_1_c.before args s = true) : ∃ (b : Addr) (xs : List Int32), lw_P b xs args s := by
  have hs := flat_of_before _ h
  have hq := flat_of_before _ hr
  have hc : (Cond.count 1).before args s = true := hs _ (by decide +kernel)
  have harr : (Cond.arrayOf (.arg 0) .int).before args s = true := hs _ (by decide +kernel)
  have hle : (Cond.le (.length (.arg 0)) (.int 3072)).before args s = true := hs _ (by decide +kernel)
  have hlen : (Cond.isInt (.length (.arg 0))).before args s = true := hq _ (by decide +kernel)
  have hall : (Cond.all (.arg 0) (.isInt (.elem (.arg 0) (.index 0)))).before args s = true := hq _ (by decide +kernel)
  obtain ⟨b, xs, hb, hx⟩ := State.ints_of_pre rfl harr hlen hall
  have hsm : xs.length < 2 ^ 31 := hx.choose_spec.2.2.2
  have hev : (Term.length (.arg 0)).eval args s none [] s = some (.int xs.length.toInt32) := hx.length_eval hb
  have hv := Cond.le_ints hev (show (Term.int 3072).eval args s none [] s = some (.int 3072) from rfl)
  have hd : xs.length.toInt32 ≤ 3072 := by
    simpa [Cond.before, Cond.holds, hv] using hle
  have hN : xs.length ≤ 3072 := (Int32.ofNat_le_ofNat hsm (by decide)).mp (show Int32.ofNat xs.length ≤ Int32.ofNat 3072 from hd)
  exact ⟨b, xs, Cond.one_arg hc (show args[0]? = some (.ref b) from hb), hx, hN, h⟩
theorem lw_comes (l : Launch) : Comes l x (Jvm.Cond.code x code maxLocals ret :: tables_1) room_1 (fun tb e args s => Calls_1 tb e args s ∧ rest_1 tb e args s ∧ Pre_1 tb e args s)
    (fun _ _ args s o t => lw_Q args s o t) := by
  intro p e ha hc hk s m args below hf hfit hheap happ hpre
  obtain ⟨b, xs, hP⟩ := lw_pre_spec hpre.2.2 hpre.2.1
  obtain ⟨k, o, h1, h2, h3, hQ⟩ := lw_walk l b xs p e ha hc hk s m args below hf ((Spec.applies_iff_loose hf).mp happ).1 hP trivial
  exact ⟨k, o, h1, h2, h3, hQ⟩
theorem lw_frame {s t : State} {o : Outcome} {args : Array Value} (h : Framed s o t [] 111 13628) :
    Framed s o t (fieldLocs frame_1_writes args s ++ arrayLocs frame_1_arrays args s ++ staticLocs frame_1_statics s) 111 13628 := h
theorem lw_limb (L : Cond) (hL : ∀ (args : Array Value) (s t : State), L.after args s (.returned (some (.int 1))) t = true) :
    ArmFor flags0 classFile x code maxLocals ret World_1 tables_1 room_1 Calls_1 rest_1 Pre_1
      (fun tb e a s o t => postC L tb e a s o t ∧ Framed s o t (fieldLocs frame_1_writes a s ++ arrayLocs frame_1_arrays a s ++ staticLocs frame_1_statics s) 111 13628) := by
  intro l _ _ _ p e ha hc hk s m args below hf hfit hheap happ hpre
  obtain ⟨k, o, h1, h2, h3, rfl, hF⟩ := lw_comes l p e ha hc hk s m args below hf hfit hheap happ hpre
  exact ⟨k, _, h1, h2, h3, hL args s _, lw_frame hF⟩
theorem i_vc : Claimed_1_1 ∧ Claimed_1_2 := ⟨lw_limb limb_1_1 (fun args s t => by simp [limb_1_1, Cond.after, Cond.holds, Cond.value]), lw_limb limb_1_2 (fun args s t => Cond.after_iff.mpr (by
  first | (rw [show limb_1_2 = Cond.eq .result (.int 1) from rfl, Cond.eq_ints (x := 1) (y := 1) rfl rfl]; simp; done) | (simp [limb_1_2, Cond.value, Term.eval]; done)))⟩
