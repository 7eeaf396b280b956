set_option maxRecDepth 20000 in
theorem aty_int : jaty 0 .int .int 0 := ⟨fun _ => rfl, rfl, (jtbl_in (List.mem_of_getElem? (i := 63) rfl) rfl), fun U a c (h : U.vm.findClass ("[" ++ (FieldType.int).toString) = some a) (g : U.vm.findClass ("[" ++ (FieldType.int).toString) = some c) => Option.some.inj (h.symm.trans g), fun cA N => rfl⟩
set_option maxRecDepth 20000 in
theorem aty_long : jaty 1 .long .long 1 := ⟨fun _ => rfl, rfl, (jtbl_in (List.mem_of_getElem? (i := 191) rfl) rfl), fun U a c (h : U.vm.findClass ("[" ++ (FieldType.long).toString) = some a) (g : U.vm.findClass ("[" ++ (FieldType.long).toString) = some c) => Option.some.inj (h.symm.trans g), fun cA N => rfl⟩
set_option maxRecDepth 20000 in
theorem aty_byte : jaty 3 .byte .byte 2 := ⟨fun _ => rfl, rfl, (jtbl_in (List.mem_of_getElem? (i := 357) rfl) rfl), fun U a c (h : U.vm.findClass ("[" ++ (FieldType.byte).toString) = some a) (g : U.vm.findClass ("[" ++ (FieldType.byte).toString) = some c) => Option.some.inj (h.symm.trans g), fun cA N => rfl⟩
set_option maxRecDepth 20000 in
theorem aty_boolean : jaty 4 .boolean .boolean 3 := ⟨fun _ => rfl, rfl, (jtbl_in (List.mem_of_getElem? (i := 99) rfl) rfl), fun U a c (h : U.vm.findClass ("[" ++ (FieldType.boolean).toString) = some a) (g : U.vm.findClass ("[" ++ (FieldType.boolean).toString) = some c) => Option.some.inj (h.symm.trans g), fun cA N => rfl⟩
set_option maxRecDepth 20000 in
theorem nw_X8_7 : Cond.classLink RX8 7 RX4 ∈ jtbl ∧ Cond.instantiable RX4 8 ∈ jtbl ∧ Cond.initialized RX4 ∈ jtbl := ⟨(jtbl_in (List.mem_of_getElem? (i := 25) rfl) rfl), (jtbl_in (List.mem_of_getElem? (i := 26) rfl) rfl), (jtbl_in (List.mem_of_getElem? (i := 2) rfl) rfl)⟩
set_option maxRecDepth 20000 in
theorem nw_X8_16 : Cond.classLink RX8 16 RX3 ∈ jtbl ∧ Cond.instantiable RX3 7 ∈ jtbl ∧ Cond.initialized RX3 ∈ jtbl := ⟨(jtbl_in (List.mem_of_getElem? (i := 64) rfl) rfl), (jtbl_in (List.mem_of_getElem? (i := 65) rfl) rfl), (jtbl_in (List.mem_of_getElem? (i := 3) rfl) rfl)⟩
set_option maxRecDepth 20000 in
theorem nw_X8_23 : Cond.classLink RX8 23 RX1 ∈ jtbl ∧ Cond.instantiable RX1 14 ∈ jtbl ∧ Cond.initialized RX1 ∈ jtbl := ⟨(jtbl_in (List.mem_of_getElem? (i := 100) rfl) rfl), (jtbl_in (List.mem_of_getElem? (i := 101) rfl) rfl), (jtbl_in (List.mem_of_getElem? (i := 4) rfl) rfl)⟩
set_option maxRecDepth 20000 in
theorem nw_X8_32 : Cond.classLink RX8 32 RX7 ∈ jtbl ∧ Cond.instantiable RX7 11 ∈ jtbl ∧ Cond.initialized RX7 ∈ jtbl := ⟨(jtbl_in (List.mem_of_getElem? (i := 151) rfl) rfl), (jtbl_in (List.mem_of_getElem? (i := 152) rfl) rfl), (jtbl_in (List.mem_of_getElem? (i := 5) rfl) rfl)⟩
set_option maxRecDepth 20000 in
theorem nw_X8_39 : Cond.classLink RX8 39 RX2 ∈ jtbl ∧ Cond.instantiable RX2 9 ∈ jtbl ∧ Cond.initialized RX2 ∈ jtbl := ⟨(jtbl_in (List.mem_of_getElem? (i := 192) rfl) rfl), (jtbl_in (List.mem_of_getElem? (i := 193) rfl) rfl), (jtbl_in (List.mem_of_getElem? (i := 6) rfl) rfl)⟩
set_option maxRecDepth 20000 in
theorem nw_X8_46 : Cond.classLink RX8 46 RX6 ∈ jtbl ∧ Cond.instantiable RX6 5 ∈ jtbl ∧ Cond.initialized RX6 ∈ jtbl := ⟨(jtbl_in (List.mem_of_getElem? (i := 232) rfl) rfl), (jtbl_in (List.mem_of_getElem? (i := 233) rfl) rfl), (jtbl_in (List.mem_of_getElem? (i := 7) rfl) rfl)⟩
set_option maxRecDepth 20000 in
theorem nw_X8_53 : Cond.classLink RX8 53 RX0 ∈ jtbl ∧ Cond.instantiable RX0 16 ∈ jtbl ∧ Cond.initialized RX0 ∈ jtbl := ⟨(jtbl_in (List.mem_of_getElem? (i := 257) rfl) rfl), (jtbl_in (List.mem_of_getElem? (i := 258) rfl) rfl), (jtbl_in (List.mem_of_getElem? (i := 8) rfl) rfl)⟩
set_option maxRecDepth 20000 in
theorem nw_X8_65 : Cond.classLink RX8 65 RX5 ∈ jtbl ∧ Cond.instantiable RX5 10 ∈ jtbl ∧ Cond.initialized RX5 ∈ jtbl := ⟨(jtbl_in (List.mem_of_getElem? (i := 319) rfl) rfl), (jtbl_in (List.mem_of_getElem? (i := 320) rfl) rfl), (jtbl_in (List.mem_of_getElem? (i := 9) rfl) rfl)⟩
set_option maxRecDepth 20000 in
theorem nw_L_7 : Cond.classLink RL 7 RX8 ∈ jtbl ∧ Cond.instantiable RX8 10 ∈ jtbl ∧ Cond.initialized RX8 ∈ jtbl := ⟨(jtbl_in (List.mem_of_getElem? (i := 17) rfl) rfl), (jtbl_in (List.mem_of_getElem? (i := 18) rfl) rfl), (jtbl_in (List.mem_of_getElem? (i := 1) rfl) rfl)⟩
set_option maxRecDepth 20000 in
theorem nw_L_10 : Cond.classLink RL 10 RX9 ∈ jtbl ∧ Cond.instantiable RX9 52 ∈ jtbl ∧ Cond.initialized RX9 ∈ jtbl := ⟨(jtbl_in (List.mem_of_getElem? (i := 997) rfl) rfl), (jtbl_in (List.mem_of_getElem? (i := 998) rfl) rfl), (jtbl_in (List.mem_of_getElem? (i := 10) rfl) rfl)⟩
set_option maxRecDepth 20000 in
theorem lo_X8 : Cond.methodLink RX8 1 Lib.objectInit ∈ jtbl ∧ Cond.instanceMethod Lib.objectInit ∈ jtbl ∧ Cond.code Lib.objectInit ⟨#[0xb1]⟩ 1 none ∈ jtbl := ⟨(jtbl_in (List.mem_of_getElem? (i := 22) rfl) rfl), (jtbl_in (List.mem_of_getElem? (i := 23) rfl) rfl), (jtbl_in (List.mem_of_getElem? (i := 24) rfl) rfl)⟩
set_option maxRecDepth 20000 in
theorem lo_X0 : Cond.methodLink RX0 3 Lib.objectInit ∈ jtbl ∧ Cond.instanceMethod Lib.objectInit ∈ jtbl ∧ Cond.code Lib.objectInit ⟨#[0xb1]⟩ 1 none ∈ jtbl := ⟨(jtbl_in (List.mem_of_getElem? (i := 262) rfl) rfl), (jtbl_in (List.mem_of_getElem? (i := 23) rfl) rfl), (jtbl_in (List.mem_of_getElem? (i := 24) rfl) rfl)⟩
set_option maxRecDepth 20000 in
theorem lo_X1 : Cond.methodLink RX1 3 Lib.objectInit ∈ jtbl ∧ Cond.instanceMethod Lib.objectInit ∈ jtbl ∧ Cond.code Lib.objectInit ⟨#[0xb1]⟩ 1 none ∈ jtbl := ⟨(jtbl_in (List.mem_of_getElem? (i := 105) rfl) rfl), (jtbl_in (List.mem_of_getElem? (i := 23) rfl) rfl), (jtbl_in (List.mem_of_getElem? (i := 24) rfl) rfl)⟩
set_option maxRecDepth 20000 in
theorem lo_X2 : Cond.methodLink RX2 3 Lib.objectInit ∈ jtbl ∧ Cond.instanceMethod Lib.objectInit ∈ jtbl ∧ Cond.code Lib.objectInit ⟨#[0xb1]⟩ 1 none ∈ jtbl := ⟨(jtbl_in (List.mem_of_getElem? (i := 197) rfl) rfl), (jtbl_in (List.mem_of_getElem? (i := 23) rfl) rfl), (jtbl_in (List.mem_of_getElem? (i := 24) rfl) rfl)⟩
set_option maxRecDepth 20000 in
theorem lo_X3 : Cond.methodLink RX3 3 Lib.objectInit ∈ jtbl ∧ Cond.instanceMethod Lib.objectInit ∈ jtbl ∧ Cond.code Lib.objectInit ⟨#[0xb1]⟩ 1 none ∈ jtbl := ⟨(jtbl_in (List.mem_of_getElem? (i := 69) rfl) rfl), (jtbl_in (List.mem_of_getElem? (i := 23) rfl) rfl), (jtbl_in (List.mem_of_getElem? (i := 24) rfl) rfl)⟩
set_option maxRecDepth 20000 in
theorem lo_X4 : Cond.methodLink RX4 3 Lib.objectInit ∈ jtbl ∧ Cond.instanceMethod Lib.objectInit ∈ jtbl ∧ Cond.code Lib.objectInit ⟨#[0xb1]⟩ 1 none ∈ jtbl := ⟨(jtbl_in (List.mem_of_getElem? (i := 30) rfl) rfl), (jtbl_in (List.mem_of_getElem? (i := 23) rfl) rfl), (jtbl_in (List.mem_of_getElem? (i := 24) rfl) rfl)⟩
set_option maxRecDepth 20000 in
theorem lo_X5 : Cond.methodLink RX5 3 Lib.objectInit ∈ jtbl ∧ Cond.instanceMethod Lib.objectInit ∈ jtbl ∧ Cond.code Lib.objectInit ⟨#[0xb1]⟩ 1 none ∈ jtbl := ⟨(jtbl_in (List.mem_of_getElem? (i := 324) rfl) rfl), (jtbl_in (List.mem_of_getElem? (i := 23) rfl) rfl), (jtbl_in (List.mem_of_getElem? (i := 24) rfl) rfl)⟩
set_option maxRecDepth 20000 in
theorem lo_X6 : Cond.methodLink RX6 1 Lib.objectInit ∈ jtbl ∧ Cond.instanceMethod Lib.objectInit ∈ jtbl ∧ Cond.code Lib.objectInit ⟨#[0xb1]⟩ 1 none ∈ jtbl := ⟨(jtbl_in (List.mem_of_getElem? (i := 237) rfl) rfl), (jtbl_in (List.mem_of_getElem? (i := 23) rfl) rfl), (jtbl_in (List.mem_of_getElem? (i := 24) rfl) rfl)⟩
set_option maxRecDepth 20000 in
theorem lo_X7 : Cond.methodLink RX7 5 Lib.objectInit ∈ jtbl ∧ Cond.instanceMethod Lib.objectInit ∈ jtbl ∧ Cond.code Lib.objectInit ⟨#[0xb1]⟩ 1 none ∈ jtbl := ⟨(jtbl_in (List.mem_of_getElem? (i := 156) rfl) rfl), (jtbl_in (List.mem_of_getElem? (i := 23) rfl) rfl), (jtbl_in (List.mem_of_getElem? (i := 24) rfl) rfl)⟩
set_option maxRecDepth 20000 in
theorem lo_X9 : Cond.methodLink RX9 1 Lib.objectInit ∈ jtbl ∧ Cond.instanceMethod Lib.objectInit ∈ jtbl ∧ Cond.code Lib.objectInit ⟨#[0xb1]⟩ 1 none ∈ jtbl := ⟨(jtbl_in (List.mem_of_getElem? (i := 1002) rfl) rfl), (jtbl_in (List.mem_of_getElem? (i := 23) rfl) rfl), (jtbl_in (List.mem_of_getElem? (i := 24) rfl) rfl)⟩
