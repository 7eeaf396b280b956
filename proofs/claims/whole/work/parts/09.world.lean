/-! ===== the world: cells 0 .. 73 of the class, 74 .. 110 of the reference ===== -/
def shJ : List jS := [.inr (8, [11, 19, 81, 26, 38, 46, 54, 2, 2, 1]), .inr (4, [0, 12, 13, 14, 15, 16, 17, 18]), .inl (0, 6), .inl (0, 6), .inl (0, 6), .inl (0, 6), .inl (0, 6), .inl (0, 24), .inl (0, 24), .inr (3, [0, 20, 21, 22, 23, 24, 25]), .inl (0, 24), .inl (0, 24), .inl (0, 24), .inl (0, 24), .inl (4, 24), .inl (0, 24), .inr (1, [0, 27, 28, 29, 30, 31, 0, 32, 33, 34, 35, 36, 37, 11]), .inl (0, 60), .inl (0, 60), .inl (0, 60), .inl (0, 60), .inl (0, 60), .inl (0, 60), .inl (0, 60), .inl (0, 60), .inl (0, 60), .inl (0, 60), .inl (0, 12), .inr (7, [39, 40, 0, 0, 0, 41, 0, 42, 43, 44, 45]), .inl (0, 6), .inl (0, 6), .inl (0, 64), .inl (0, 64), .inl (0, 64), .inl (1, 135), .inl (1, 135), .inr (2, [0, 47, 48, 0, 49, 50, 51, 52, 53]), .inl (0, 5), .inl (0, 6), .inl (0, 20), .inl (0, 20), .inl (0, 20), .inl (4, 20), .inl (0, 20), .inr (6, [0, 0, 0, 55, 56]), .inl (0, 81), .inl (0, 384), .inr (0, [0, 58, 59, 60, 61, 62, 63, 64, 65, 0, 66, 67, 68, 0, 19, 11]), .inl (0, 16), .inl (0, 16), .inl (0, 16), .inl (0, 16), .inl (0, 16), .inl (0, 112), .inl (0, 16), .inl (0, 16), .inl (0, 900), .inl (0, 64), .inl (0, 16), .inr (0, [0, 70, 71, 72, 73, 74, 75, 76, 77, 0, 78, 79, 80, 0, 19, 11]), .inl (0, 16), .inl (0, 16), .inl (0, 16), .inl (0, 16), .inl (0, 16), .inl (0, 112), .inl (0, 16), .inl (0, 16), .inl (0, 900), .inl (0, 64), .inl (0, 16), .inr (5, [0, 82, 0, 0, 0, 0, 2, 0, 83, 0]), .inl (3, 900), .inl (0, 64), .inr (9, [0, 1, 85, 0, 86, 87, 88, 89, 0, 90, 91, 92, 93, 94, 0, 0, 0, 0, 0, 0, 0, 0, 95, 96, 0, 97, 98, 0, 99, 100, 101, 102, 103, 104, 105, 106, 107, 108, 0, 109, 110, 0, 111, 112, 113, 114, 115, 116, 117, 118, 119, 120]), .inl (1, 16), .inl (0, 6), .inl (0, 6), .inl (0, 6), .inl (0, 6), .inl (0, 24), .inl (0, 24), .inl (0, 24), .inl (0, 216), .inl (0, 900), .inl (0, 640), .inl (0, 4000), .inl (0, 1000), .inl (0, 64), .inl (0, 60), .inl (0, 60), .inl (0, 60), .inl (0, 60), .inl (0, 60), .inl (0, 6), .inl (0, 24), .inl (0, 24), .inl (0, 6), .inl (0, 6), .inl (0, 5), .inl (0, 6), .inl (0, 20), .inl (0, 20), .inl (0, 20), .inl (0, 20), .inl (4, 20), .inl (0, 81), .inl (0, 60), .inl (0, 384), .inl (1, 140), .inl (1, 140)]
abbrev FJ : jF := (jT, shJ)
/-- the places of the two ACTS -/
def jA (f : Int) : Prop := f = 47 ∨ f = 59
set_option maxRecDepth 20000 in
theorem i_X0 : ∀ w ∈ u_ws RX0 TX0 16, w ∈ jtbl := by
  intro w hw
  obtain ⟨k, hk, rfl⟩ := List.mem_map.mp hw
  have hk := List.mem_range.mp hk
  have e : [286, 288, 290, 292, 294, 296, 298, 300, 302, 304, 306, 308, 310, 312, 314, 316].map (fun i => tables_1[i]?) = (List.range 16).map (fun k => some (u_lay RX0 TX0 k)) := by rfl
  have h1 : ((List.range 16).map (fun k => some (u_lay RX0 TX0 k)))[k]? = some (some (u_lay RX0 TX0 k)) := by rw [List.getElem?_map, List.getElem?_range hk]; rfl
  rw [← e, List.getElem?_map] at h1
  cases hi : ([286, 288, 290, 292, 294, 296, 298, 300, 302, 304, 306, 308, 310, 312, 314, 316] : List Nat)[k]? with
  | none => rw [hi] at h1; cases h1
  | some i => rw [hi] at h1; exact jtbl_in (List.mem_of_getElem? (Option.some.inj h1)) (by unfold u_lay; split <;> rfl)
theorem k_X0 : jcls 0 RX0 TX0 16 tyX0 := ⟨rfl, i_X0, tyX0_ok, nmX0⟩
set_option maxRecDepth 20000 in
theorem i_X1 : ∀ w ∈ u_ws RX1 TX1 14, w ∈ jtbl := by
  intro w hw
  obtain ⟨k, hk, rfl⟩ := List.mem_map.mp hw
  have hk := List.mem_range.mp hk
  have e : [122, 124, 126, 128, 130, 132, 134, 136, 138, 140, 142, 144, 146, 148].map (fun i => tables_1[i]?) = (List.range 14).map (fun k => some (u_lay RX1 TX1 k)) := by rfl
  have h1 : ((List.range 14).map (fun k => some (u_lay RX1 TX1 k)))[k]? = some (some (u_lay RX1 TX1 k)) := by rw [List.getElem?_map, List.getElem?_range hk]; rfl
  rw [← e, List.getElem?_map] at h1
  cases hi : ([122, 124, 126, 128, 130, 132, 134, 136, 138, 140, 142, 144, 146, 148] : List Nat)[k]? with
  | none => rw [hi] at h1; cases h1
  | some i => rw [hi] at h1; exact jtbl_in (List.mem_of_getElem? (Option.some.inj h1)) (by unfold u_lay; split <;> rfl)
theorem k_X1 : jcls 1 RX1 TX1 14 tyX1 := ⟨rfl, i_X1, tyX1_ok, nmX1⟩
set_option maxRecDepth 20000 in
theorem i_X2 : ∀ w ∈ u_ws RX2 TX2 9, w ∈ jtbl := by
  intro w hw
  obtain ⟨k, hk, rfl⟩ := List.mem_map.mp hw
  have hk := List.mem_range.mp hk
  have e : [213, 215, 217, 219, 221, 223, 225, 227, 229].map (fun i => tables_1[i]?) = (List.range 9).map (fun k => some (u_lay RX2 TX2 k)) := by rfl
  have h1 : ((List.range 9).map (fun k => some (u_lay RX2 TX2 k)))[k]? = some (some (u_lay RX2 TX2 k)) := by rw [List.getElem?_map, List.getElem?_range hk]; rfl
  rw [← e, List.getElem?_map] at h1
  cases hi : ([213, 215, 217, 219, 221, 223, 225, 227, 229] : List Nat)[k]? with
  | none => rw [hi] at h1; cases h1
  | some i => rw [hi] at h1; exact jtbl_in (List.mem_of_getElem? (Option.some.inj h1)) (by unfold u_lay; split <;> rfl)
theorem k_X2 : jcls 2 RX2 TX2 9 tyX2 := ⟨rfl, i_X2, tyX2_ok, nmX2⟩
set_option maxRecDepth 20000 in
theorem i_X3 : ∀ w ∈ u_ws RX3 TX3 7, w ∈ jtbl := by
  intro w hw
  obtain ⟨k, hk, rfl⟩ := List.mem_map.mp hw
  have hk := List.mem_range.mp hk
  have e : [84, 86, 88, 90, 92, 94, 96].map (fun i => tables_1[i]?) = (List.range 7).map (fun k => some (u_lay RX3 TX3 k)) := by rfl
  have h1 : ((List.range 7).map (fun k => some (u_lay RX3 TX3 k)))[k]? = some (some (u_lay RX3 TX3 k)) := by rw [List.getElem?_map, List.getElem?_range hk]; rfl
  rw [← e, List.getElem?_map] at h1
  cases hi : ([84, 86, 88, 90, 92, 94, 96] : List Nat)[k]? with
  | none => rw [hi] at h1; cases h1
  | some i => rw [hi] at h1; exact jtbl_in (List.mem_of_getElem? (Option.some.inj h1)) (by unfold u_lay; split <;> rfl)
theorem k_X3 : jcls 3 RX3 TX3 7 tyX3 := ⟨rfl, i_X3, tyX3_ok, nmX3⟩
set_option maxRecDepth 20000 in
theorem i_X4 : ∀ w ∈ u_ws RX4 TX4 8, w ∈ jtbl := by
  intro w hw
  obtain ⟨k, hk, rfl⟩ := List.mem_map.mp hw
  have hk := List.mem_range.mp hk
  have e : [46, 48, 50, 52, 54, 56, 58, 60].map (fun i => tables_1[i]?) = (List.range 8).map (fun k => some (u_lay RX4 TX4 k)) := by rfl
  have h1 : ((List.range 8).map (fun k => some (u_lay RX4 TX4 k)))[k]? = some (some (u_lay RX4 TX4 k)) := by rw [List.getElem?_map, List.getElem?_range hk]; rfl
  rw [← e, List.getElem?_map] at h1
  cases hi : ([46, 48, 50, 52, 54, 56, 58, 60] : List Nat)[k]? with
  | none => rw [hi] at h1; cases h1
  | some i => rw [hi] at h1; exact jtbl_in (List.mem_of_getElem? (Option.some.inj h1)) (by unfold u_lay; split <;> rfl)
theorem k_X4 : jcls 4 RX4 TX4 8 tyX4 := ⟨rfl, i_X4, tyX4_ok, nmX4⟩
set_option maxRecDepth 20000 in
theorem i_X5 : ∀ w ∈ u_ws RX5 TX5 10, w ∈ jtbl := by
  intro w hw
  obtain ⟨k, hk, rfl⟩ := List.mem_map.mp hw
  have hk := List.mem_range.mp hk
  have e : [336, 338, 340, 342, 344, 346, 348, 350, 352, 354].map (fun i => tables_1[i]?) = (List.range 10).map (fun k => some (u_lay RX5 TX5 k)) := by rfl
  have h1 : ((List.range 10).map (fun k => some (u_lay RX5 TX5 k)))[k]? = some (some (u_lay RX5 TX5 k)) := by rw [List.getElem?_map, List.getElem?_range hk]; rfl
  rw [← e, List.getElem?_map] at h1
  cases hi : ([336, 338, 340, 342, 344, 346, 348, 350, 352, 354] : List Nat)[k]? with
  | none => rw [hi] at h1; cases h1
  | some i => rw [hi] at h1; exact jtbl_in (List.mem_of_getElem? (Option.some.inj h1)) (by unfold u_lay; split <;> rfl)
theorem k_X5 : jcls 5 RX5 TX5 10 tyX5 := ⟨rfl, i_X5, tyX5_ok, nmX5⟩
set_option maxRecDepth 20000 in
theorem i_X6 : ∀ w ∈ u_ws RX6 TX6 5, w ∈ jtbl := by
  intro w hw
  obtain ⟨k, hk, rfl⟩ := List.mem_map.mp hw
  have hk := List.mem_range.mp hk
  have e : [246, 248, 250, 252, 254].map (fun i => tables_1[i]?) = (List.range 5).map (fun k => some (u_lay RX6 TX6 k)) := by rfl
  have h1 : ((List.range 5).map (fun k => some (u_lay RX6 TX6 k)))[k]? = some (some (u_lay RX6 TX6 k)) := by rw [List.getElem?_map, List.getElem?_range hk]; rfl
  rw [← e, List.getElem?_map] at h1
  cases hi : ([246, 248, 250, 252, 254] : List Nat)[k]? with
  | none => rw [hi] at h1; cases h1
  | some i => rw [hi] at h1; exact jtbl_in (List.mem_of_getElem? (Option.some.inj h1)) (by unfold u_lay; split <;> rfl)
theorem k_X6 : jcls 6 RX6 TX6 5 tyX6 := ⟨rfl, i_X6, tyX6_ok, nmX6⟩
set_option maxRecDepth 20000 in
theorem i_X7 : ∀ w ∈ u_ws RX7 TX7 11, w ∈ jtbl := by
  intro w hw
  obtain ⟨k, hk, rfl⟩ := List.mem_map.mp hw
  have hk := List.mem_range.mp hk
  have e : [168, 170, 172, 174, 176, 178, 180, 182, 184, 186, 188].map (fun i => tables_1[i]?) = (List.range 11).map (fun k => some (u_lay RX7 TX7 k)) := by rfl
  have h1 : ((List.range 11).map (fun k => some (u_lay RX7 TX7 k)))[k]? = some (some (u_lay RX7 TX7 k)) := by rw [List.getElem?_map, List.getElem?_range hk]; rfl
  rw [← e, List.getElem?_map] at h1
  cases hi : ([168, 170, 172, 174, 176, 178, 180, 182, 184, 186, 188] : List Nat)[k]? with
  | none => rw [hi] at h1; cases h1
  | some i => rw [hi] at h1; exact jtbl_in (List.mem_of_getElem? (Option.some.inj h1)) (by unfold u_lay; split <;> rfl)
theorem k_X7 : jcls 7 RX7 TX7 11 tyX7 := ⟨rfl, i_X7, tyX7_ok, nmX7⟩
set_option maxRecDepth 20000 in
theorem i_X8 : ∀ w ∈ u_ws RX8 TX8 10, w ∈ jtbl := by
  intro w hw
  obtain ⟨k, hk, rfl⟩ := List.mem_map.mp hw
  have hk := List.mem_range.mp hk
  have e : [368, 370, 372, 374, 376, 378, 380, 382, 384, 386].map (fun i => tables_1[i]?) = (List.range 10).map (fun k => some (u_lay RX8 TX8 k)) := by rfl
  have h1 : ((List.range 10).map (fun k => some (u_lay RX8 TX8 k)))[k]? = some (some (u_lay RX8 TX8 k)) := by rw [List.getElem?_map, List.getElem?_range hk]; rfl
  rw [← e, List.getElem?_map] at h1
  cases hi : ([368, 370, 372, 374, 376, 378, 380, 382, 384, 386] : List Nat)[k]? with
  | none => rw [hi] at h1; cases h1
  | some i => rw [hi] at h1; exact jtbl_in (List.mem_of_getElem? (Option.some.inj h1)) (by unfold u_lay; split <;> rfl)
theorem k_X8 : jcls 8 RX8 TX8 10 tyX8 := ⟨rfl, i_X8, tyX8_ok, nmX8⟩
set_option maxRecDepth 20000 in
theorem i_X9 : ∀ w ∈ u_ws RX9 TX9 52, w ∈ jtbl := by
  intro w hw
  obtain ⟨k, hk, rfl⟩ := List.mem_map.mp hw
  have hk := List.mem_range.mp hk
  have e : [1062, 1064, 1066, 1068, 1070, 1072, 1074, 1076, 1078, 1080, 1082, 1084, 1086, 1088, 1090, 1092, 1094, 1096, 1098, 1100, 1102, 1104, 1106, 1108, 1110, 1112, 1114, 1116, 1118, 1120, 1122, 1124, 1126, 1128, 1130, 1132, 1134, 1136, 1138, 1140, 1142, 1144, 1146, 1148, 1150, 1152, 1154, 1156, 1158, 1160, 1162, 1164].map (fun i => tables_1[i]?) = (List.range 52).map (fun k => some (u_lay RX9 TX9 k)) := by rfl
  have h1 : ((List.range 52).map (fun k => some (u_lay RX9 TX9 k)))[k]? = some (some (u_lay RX9 TX9 k)) := by rw [List.getElem?_map, List.getElem?_range hk]; rfl
  rw [← e, List.getElem?_map] at h1
  cases hi : ([1062, 1064, 1066, 1068, 1070, 1072, 1074, 1076, 1078, 1080, 1082, 1084, 1086, 1088, 1090, 1092, 1094, 1096, 1098, 1100, 1102, 1104, 1106, 1108, 1110, 1112, 1114, 1116, 1118, 1120, 1122, 1124, 1126, 1128, 1130, 1132, 1134, 1136, 1138, 1140, 1142, 1144, 1146, 1148, 1150, 1152, 1154, 1156, 1158, 1160, 1162, 1164] : List Nat)[k]? with
  | none => rw [hi] at h1; cases h1
  | some i => rw [hi] at h1; exact jtbl_in (List.mem_of_getElem? (Option.some.inj h1)) (by unfold u_lay; split <;> rfl)
theorem k_X9 : jcls 9 RX9 TX9 52 tyX9 := ⟨rfl, i_X9, tyX9_ok, nmX9⟩
set_option maxRecDepth 20000 in
theorem f_X8_10 : jfl RX8 10 8 0 (.object "MillInspectors$Mills") true := ⟨RX8, TX8, 10, tyX8, k_X8, by decide, rfl, rfl, fun h => h.symm, (jtbl_in (List.mem_of_getElem? (i := 358) rfl) rfl), rfl⟩
set_option maxRecDepth 20000 in
theorem f_X8_19 : jfl RX8 19 8 1 (.object "MillInspectors$Hands") true := ⟨RX8, TX8, 10, tyX8, k_X8, by decide, rfl, rfl, fun h => h.symm, (jtbl_in (List.mem_of_getElem? (i := 359) rfl) rfl), rfl⟩
set_option maxRecDepth 20000 in
theorem f_X8_28 : jfl RX8 28 8 3 (.object "MillInspectors$Book") true := ⟨RX8, TX8, 10, tyX8, k_X8, by decide, rfl, rfl, fun h => h.symm, (jtbl_in (List.mem_of_getElem? (i := 361) rfl) rfl), rfl⟩
set_option maxRecDepth 20000 in
theorem f_X8_35 : jfl RX8 35 8 4 (.object "MillInspectors$Table") true := ⟨RX8, TX8, 10, tyX8, k_X8, by decide, rfl, rfl, fun h => h.symm, (jtbl_in (List.mem_of_getElem? (i := 362) rfl) rfl), rfl⟩
set_option maxRecDepth 20000 in
theorem f_X8_42 : jfl RX8 42 8 5 (.object "MillInspectors$Court") true := ⟨RX8, TX8, 10, tyX8, k_X8, by decide, rfl, rfl, fun h => h.symm, (jtbl_in (List.mem_of_getElem? (i := 363) rfl) rfl), rfl⟩
set_option maxRecDepth 20000 in
theorem f_X8_49 : jfl RX8 49 8 6 (.object "MillInspectors$Roads") true := ⟨RX8, TX8, 10, tyX8, k_X8, by decide, rfl, rfl, fun h => h.symm, (jtbl_in (List.mem_of_getElem? (i := 364) rfl) rfl), rfl⟩
set_option maxRecDepth 20000 in
theorem f_X8_58 : jfl RX8 58 8 7 (.object "MillInspectors$Act") false := ⟨RX8, TX8, 10, tyX8, k_X8, by decide, rfl, rfl, fun h => h.symm, (jtbl_in (List.mem_of_getElem? (i := 365) rfl) rfl), rfl⟩
set_option maxRecDepth 20000 in
theorem f_X8_62 : jfl RX8 62 8 8 (.object "MillInspectors$Act") false := ⟨RX8, TX8, 10, tyX8, k_X8, by decide, rfl, rfl, fun h => h.symm, (jtbl_in (List.mem_of_getElem? (i := 366) rfl) rfl), rfl⟩
set_option maxRecDepth 20000 in
theorem f_X8_70 : jfl RX8 70 8 2 (.object "MillInspectors$Reader") true := ⟨RX8, TX8, 10, tyX8, k_X8, by decide, rfl, rfl, fun h => h.symm, (jtbl_in (List.mem_of_getElem? (i := 360) rfl) rfl), rfl⟩
set_option maxRecDepth 20000 in
theorem f_X8_89 : jfl RX8 89 8 9 .long false := ⟨RX8, TX8, 10, tyX8, k_X8, by decide, rfl, rfl, fun h => h.symm, (jtbl_in (List.mem_of_getElem? (i := 367) rfl) rfl), rfl⟩
set_option maxRecDepth 20000 in
theorem f_X8_110 : jfl RX8 110 3 5 (.array .boolean) true := ⟨RX3, TX3, 7, tyX3, k_X3, by decide, rfl, rfl, fun h => h.symm, (jtbl_in (List.mem_of_getElem? (i := 82) rfl) rfl), rfl⟩
set_option maxRecDepth 20000 in
theorem f_X8_114 : jfl RX8 114 3 3 (.array .int) true := ⟨RX3, TX3, 7, tyX3, k_X3, by decide, rfl, rfl, fun h => h.symm, (jtbl_in (List.mem_of_getElem? (i := 78) rfl) rfl), rfl⟩
set_option maxRecDepth 20000 in
theorem f_X8_118 : jfl RX8 118 3 4 (.array .int) true := ⟨RX3, TX3, 7, tyX3, k_X3, by decide, rfl, rfl, fun h => h.symm, (jtbl_in (List.mem_of_getElem? (i := 80) rfl) rfl), rfl⟩
set_option maxRecDepth 20000 in
theorem f_X8_139 : jfl RX8 139 0 0 .int false := ⟨RX0, TX0, 16, tyX0, k_X0, by decide, rfl, rfl, fun h => h.symm, (jtbl_in (List.mem_of_getElem? (i := 265) rfl) rfl), rfl⟩
set_option maxRecDepth 20000 in
theorem f_X8_163 : jfl RX8 163 0 1 (.array .int) true := ⟨RX0, TX0, 16, tyX0, k_X0, by decide, rfl, rfl, fun h => h.symm, (jtbl_in (List.mem_of_getElem? (i := 267) rfl) rfl), rfl⟩
set_option maxRecDepth 20000 in
theorem f_X8_166 : jfl RX8 166 0 2 (.array .int) true := ⟨RX0, TX0, 16, tyX0, k_X0, by decide, rfl, rfl, fun h => h.symm, (jtbl_in (List.mem_of_getElem? (i := 269) rfl) rfl), rfl⟩
set_option maxRecDepth 20000 in
theorem f_X8_169 : jfl RX8 169 0 3 (.array .int) true := ⟨RX0, TX0, 16, tyX0, k_X0, by decide, rfl, rfl, fun h => h.symm, (jtbl_in (List.mem_of_getElem? (i := 271) rfl) rfl), rfl⟩
set_option maxRecDepth 20000 in
theorem f_X8_172 : jfl RX8 172 0 4 (.array .int) true := ⟨RX0, TX0, 16, tyX0, k_X0, by decide, rfl, rfl, fun h => h.symm, (jtbl_in (List.mem_of_getElem? (i := 273) rfl) rfl), rfl⟩
set_option maxRecDepth 20000 in
theorem f_X8_175 : jfl RX8 175 0 5 (.array .int) true := ⟨RX0, TX0, 16, tyX0, k_X0, by decide, rfl, rfl, fun h => h.symm, (jtbl_in (List.mem_of_getElem? (i := 275) rfl) rfl), rfl⟩
set_option maxRecDepth 20000 in
theorem f_X8_205 : jfl RX8 205 1 6 .int false := ⟨RX1, TX1, 14, tyX1, k_X1, by decide, rfl, rfl, fun h => h.symm, (jtbl_in (List.mem_of_getElem? (i := 114) rfl) rfl), rfl⟩
set_option maxRecDepth 20000 in
theorem f_X8_240 : jfl RX8 240 4 2 (.array .int) true := ⟨RX4, TX4, 8, tyX4, k_X4, by decide, rfl, rfl, fun h => h.symm, (jtbl_in (List.mem_of_getElem? (i := 37) rfl) rfl), rfl⟩
set_option maxRecDepth 20000 in
theorem f_X8_253 : jfl RX8 253 2 4 (.array .int) true := ⟨RX2, TX2, 9, tyX2, k_X2, by decide, rfl, rfl, fun h => h.symm, (jtbl_in (List.mem_of_getElem? (i := 205) rfl) rfl), rfl⟩
set_option maxRecDepth 20000 in
theorem f_X8_259 : jfl RX8 259 2 7 (.array .boolean) true := ⟨RX2, TX2, 9, tyX2, k_X2, by decide, rfl, rfl, fun h => h.symm, (jtbl_in (List.mem_of_getElem? (i := 211) rfl) rfl), rfl⟩
set_option maxRecDepth 20000 in
theorem f_X8_262 : jfl RX8 262 2 5 (.array .int) true := ⟨RX2, TX2, 9, tyX2, k_X2, by decide, rfl, rfl, fun h => h.symm, (jtbl_in (List.mem_of_getElem? (i := 207) rfl) rfl), rfl⟩
set_option maxRecDepth 20000 in
theorem f_X8_265 : jfl RX8 265 2 6 (.array .int) true := ⟨RX2, TX2, 9, tyX2, k_X2, by decide, rfl, rfl, fun h => h.symm, (jtbl_in (List.mem_of_getElem? (i := 209) rfl) rfl), rfl⟩
set_option maxRecDepth 20000 in
theorem f_X8_277 : jfl RX8 277 4 4 (.array .int) true := ⟨RX4, TX4, 8, tyX4, k_X4, by decide, rfl, rfl, fun h => h.symm, (jtbl_in (List.mem_of_getElem? (i := 42) rfl) rfl), rfl⟩
set_option maxRecDepth 20000 in
theorem f_X8_284 : jfl RX8 284 6 0 .int false := ⟨RX6, TX6, 5, tyX6, k_X6, by decide, rfl, rfl, fun h => h.symm, (jtbl_in (List.mem_of_getElem? (i := 239) rfl) rfl), rfl⟩
set_option maxRecDepth 20000 in
theorem f_X8_287 : jfl RX8 287 6 1 .int false := ⟨RX6, TX6, 5, tyX6, k_X6, by decide, rfl, rfl, fun h => h.symm, (jtbl_in (List.mem_of_getElem? (i := 241) rfl) rfl), rfl⟩
set_option maxRecDepth 20000 in
theorem f_X8_290 : jfl RX8 290 6 2 .int false := ⟨RX6, TX6, 5, tyX6, k_X6, by decide, rfl, rfl, fun h => h.symm, (jtbl_in (List.mem_of_getElem? (i := 243) rfl) rfl), rfl⟩
set_option maxRecDepth 20000 in
theorem f_X8_293 : jfl RX8 293 4 0 .int false := ⟨RX4, TX4, 8, tyX4, k_X4, by decide, rfl, rfl, fun h => h.symm, (jtbl_in (List.mem_of_getElem? (i := 33) rfl) rfl), rfl⟩
set_option maxRecDepth 20000 in
theorem f_X8_296 : jfl RX8 296 3 0 .int false := ⟨RX3, TX3, 7, tyX3, k_X3, by decide, rfl, rfl, fun h => h.symm, (jtbl_in (List.mem_of_getElem? (i := 71) rfl) rfl), rfl⟩
set_option maxRecDepth 20000 in
theorem f_X8_297 : jfl RX8 297 1 0 .int false := ⟨RX1, TX1, 14, tyX1, k_X1, by decide, rfl, rfl, fun h => h.symm, (jtbl_in (List.mem_of_getElem? (i := 107) rfl) rfl), rfl⟩
set_option maxRecDepth 20000 in
theorem f_X8_298 : jfl RX8 298 2 0 .int false := ⟨RX2, TX2, 9, tyX2, k_X2, by decide, rfl, rfl, fun h => h.symm, (jtbl_in (List.mem_of_getElem? (i := 199) rfl) rfl), rfl⟩
set_option maxRecDepth 20000 in
theorem f_X8_301 : jfl RX8 301 2 3 .int false := ⟨RX2, TX2, 9, tyX2, k_X2, by decide, rfl, rfl, fun h => h.symm, (jtbl_in (List.mem_of_getElem? (i := 203) rfl) rfl), rfl⟩
set_option maxRecDepth 20000 in
theorem f_X8_307 : jfl RX8 307 5 0 .int false := ⟨RX5, TX5, 10, tyX5, k_X5, by decide, rfl, rfl, fun h => h.symm, (jtbl_in (List.mem_of_getElem? (i := 326) rfl) rfl), rfl⟩
set_option maxRecDepth 20000 in
theorem f_X8_320 : jfl RX8 320 3 2 (.array .int) true := ⟨RX3, TX3, 7, tyX3, k_X3, by decide, rfl, rfl, fun h => h.symm, (jtbl_in (List.mem_of_getElem? (i := 76) rfl) rfl), rfl⟩
set_option maxRecDepth 20000 in
theorem f_X0_11 : jfl RX0 11 0 1 (.array .int) true := ⟨RX0, TX0, 16, tyX0, k_X0, by decide, rfl, rfl, fun h => h.symm, (jtbl_in (List.mem_of_getElem? (i := 266) rfl) rfl), rfl⟩
set_option maxRecDepth 20000 in
theorem f_X0_15 : jfl RX0 15 0 2 (.array .int) true := ⟨RX0, TX0, 16, tyX0, k_X0, by decide, rfl, rfl, fun h => h.symm, (jtbl_in (List.mem_of_getElem? (i := 268) rfl) rfl), rfl⟩
set_option maxRecDepth 20000 in
theorem f_X0_18 : jfl RX0 18 0 3 (.array .int) true := ⟨RX0, TX0, 16, tyX0, k_X0, by decide, rfl, rfl, fun h => h.symm, (jtbl_in (List.mem_of_getElem? (i := 270) rfl) rfl), rfl⟩
set_option maxRecDepth 20000 in
theorem f_X0_21 : jfl RX0 21 0 4 (.array .int) true := ⟨RX0, TX0, 16, tyX0, k_X0, by decide, rfl, rfl, fun h => h.symm, (jtbl_in (List.mem_of_getElem? (i := 272) rfl) rfl), rfl⟩
set_option maxRecDepth 20000 in
theorem f_X0_24 : jfl RX0 24 0 5 (.array .int) true := ⟨RX0, TX0, 16, tyX0, k_X0, by decide, rfl, rfl, fun h => h.symm, (jtbl_in (List.mem_of_getElem? (i := 274) rfl) rfl), rfl⟩
set_option maxRecDepth 20000 in
theorem f_X0_27 : jfl RX0 27 0 6 (.array .int) true := ⟨RX0, TX0, 16, tyX0, k_X0, by decide, rfl, rfl, fun h => h.symm, (jtbl_in (List.mem_of_getElem? (i := 276) rfl) rfl), rfl⟩
set_option maxRecDepth 20000 in
theorem f_X0_30 : jfl RX0 30 0 7 (.array .int) true := ⟨RX0, TX0, 16, tyX0, k_X0, by decide, rfl, rfl, fun h => h.symm, (jtbl_in (List.mem_of_getElem? (i := 277) rfl) rfl), rfl⟩
set_option maxRecDepth 20000 in
theorem f_X0_33 : jfl RX0 33 0 8 (.array .int) true := ⟨RX0, TX0, 16, tyX0, k_X0, by decide, rfl, rfl, fun h => h.symm, (jtbl_in (List.mem_of_getElem? (i := 278) rfl) rfl), rfl⟩
set_option maxRecDepth 20000 in
theorem f_X0_36 : jfl RX0 36 0 10 (.array .int) true := ⟨RX0, TX0, 16, tyX0, k_X0, by decide, rfl, rfl, fun h => h.symm, (jtbl_in (List.mem_of_getElem? (i := 280) rfl) rfl), rfl⟩
set_option maxRecDepth 20000 in
theorem f_X0_39 : jfl RX0 39 0 11 (.array .int) true := ⟨RX0, TX0, 16, tyX0, k_X0, by decide, rfl, rfl, fun h => h.symm, (jtbl_in (List.mem_of_getElem? (i := 281) rfl) rfl), rfl⟩
set_option maxRecDepth 20000 in
theorem f_X0_42 : jfl RX0 42 0 12 (.array .int) true := ⟨RX0, TX0, 16, tyX0, k_X0, by decide, rfl, rfl, fun h => h.symm, (jtbl_in (List.mem_of_getElem? (i := 282) rfl) rfl), rfl⟩
set_option maxRecDepth 20000 in
theorem f_X0_45 : jfl RX0 45 0 14 (.object "MillInspectors$Hands") true := ⟨RX0, TX0, 16, tyX0, k_X0, by decide, rfl, rfl, fun h => h.symm, (jtbl_in (List.mem_of_getElem? (i := 284) rfl) rfl), rfl⟩
set_option maxRecDepth 20000 in
theorem f_X0_49 : jfl RX0 49 0 15 (.object "MillInspectors$Mills") true := ⟨RX0, TX0, 16, tyX0, k_X0, by decide, rfl, rfl, fun h => h.symm, (jtbl_in (List.mem_of_getElem? (i := 285) rfl) rfl), rfl⟩
set_option maxRecDepth 20000 in
theorem f_X0_53 : jfl RX0 53 0 0 .int false := ⟨RX0, TX0, 16, tyX0, k_X0, by decide, rfl, rfl, fun h => h.symm, (jtbl_in (List.mem_of_getElem? (i := 263) rfl) rfl), rfl⟩
set_option maxRecDepth 20000 in
theorem f_X0_57 : jfl RX0 57 0 9 .int false := ⟨RX0, TX0, 16, tyX0, k_X0, by decide, rfl, rfl, fun h => h.symm, (jtbl_in (List.mem_of_getElem? (i := 279) rfl) rfl), rfl⟩
set_option maxRecDepth 20000 in
theorem f_X0_85 : jfl RX0 85 3 1 (.array .int) true := ⟨RX3, TX3, 7, tyX3, k_X3, by decide, rfl, rfl, fun h => h.symm, (jtbl_in (List.mem_of_getElem? (i := 73) rfl) rfl), rfl⟩
set_option maxRecDepth 20000 in
theorem f_X0_88 : jfl RX0 88 4 1 (.array .int) true := ⟨RX4, TX4, 8, tyX4, k_X4, by decide, rfl, rfl, fun h => h.symm, (jtbl_in (List.mem_of_getElem? (i := 35) rfl) rfl), rfl⟩
set_option maxRecDepth 20000 in
theorem f_X0_93 : jfl RX0 93 3 2 (.array .int) true := ⟨RX3, TX3, 7, tyX3, k_X3, by decide, rfl, rfl, fun h => h.symm, (jtbl_in (List.mem_of_getElem? (i := 75) rfl) rfl), rfl⟩
set_option maxRecDepth 20000 in
theorem f_X0_99 : jfl RX0 99 0 13 .int false := ⟨RX0, TX0, 16, tyX0, k_X0, by decide, rfl, rfl, fun h => h.symm, (jtbl_in (List.mem_of_getElem? (i := 283) rfl) rfl), rfl⟩
set_option maxRecDepth 20000 in
theorem f_X1_11 : jfl RX1 11 1 1 (.array .int) true := ⟨RX1, TX1, 14, tyX1, k_X1, by decide, rfl, rfl, fun h => h.symm, (jtbl_in (List.mem_of_getElem? (i := 108) rfl) rfl), rfl⟩
set_option maxRecDepth 20000 in
theorem f_X1_15 : jfl RX1 15 1 2 (.array .int) true := ⟨RX1, TX1, 14, tyX1, k_X1, by decide, rfl, rfl, fun h => h.symm, (jtbl_in (List.mem_of_getElem? (i := 109) rfl) rfl), rfl⟩
set_option maxRecDepth 20000 in
theorem f_X1_18 : jfl RX1 18 1 3 (.array .int) true := ⟨RX1, TX1, 14, tyX1, k_X1, by decide, rfl, rfl, fun h => h.symm, (jtbl_in (List.mem_of_getElem? (i := 110) rfl) rfl), rfl⟩
set_option maxRecDepth 20000 in
theorem f_X1_21 : jfl RX1 21 1 4 (.array .int) true := ⟨RX1, TX1, 14, tyX1, k_X1, by decide, rfl, rfl, fun h => h.symm, (jtbl_in (List.mem_of_getElem? (i := 111) rfl) rfl), rfl⟩
set_option maxRecDepth 20000 in
theorem f_X1_24 : jfl RX1 24 1 5 (.array .int) true := ⟨RX1, TX1, 14, tyX1, k_X1, by decide, rfl, rfl, fun h => h.symm, (jtbl_in (List.mem_of_getElem? (i := 112) rfl) rfl), rfl⟩
set_option maxRecDepth 20000 in
theorem f_X1_27 : jfl RX1 27 1 7 (.array .int) true := ⟨RX1, TX1, 14, tyX1, k_X1, by decide, rfl, rfl, fun h => h.symm, (jtbl_in (List.mem_of_getElem? (i := 115) rfl) rfl), rfl⟩
set_option maxRecDepth 20000 in
theorem f_X1_30 : jfl RX1 30 1 8 (.array .int) true := ⟨RX1, TX1, 14, tyX1, k_X1, by decide, rfl, rfl, fun h => h.symm, (jtbl_in (List.mem_of_getElem? (i := 116) rfl) rfl), rfl⟩
set_option maxRecDepth 20000 in
theorem f_X1_33 : jfl RX1 33 1 9 (.array .int) true := ⟨RX1, TX1, 14, tyX1, k_X1, by decide, rfl, rfl, fun h => h.symm, (jtbl_in (List.mem_of_getElem? (i := 117) rfl) rfl), rfl⟩
set_option maxRecDepth 20000 in
theorem f_X1_36 : jfl RX1 36 1 10 (.array .int) true := ⟨RX1, TX1, 14, tyX1, k_X1, by decide, rfl, rfl, fun h => h.symm, (jtbl_in (List.mem_of_getElem? (i := 118) rfl) rfl), rfl⟩
set_option maxRecDepth 20000 in
theorem f_X1_39 : jfl RX1 39 1 11 (.array .int) true := ⟨RX1, TX1, 14, tyX1, k_X1, by decide, rfl, rfl, fun h => h.symm, (jtbl_in (List.mem_of_getElem? (i := 119) rfl) rfl), rfl⟩
set_option maxRecDepth 20000 in
theorem f_X1_42 : jfl RX1 42 1 12 (.array .int) true := ⟨RX1, TX1, 14, tyX1, k_X1, by decide, rfl, rfl, fun h => h.symm, (jtbl_in (List.mem_of_getElem? (i := 120) rfl) rfl), rfl⟩
set_option maxRecDepth 20000 in
theorem f_X1_45 : jfl RX1 45 1 13 (.object "MillInspectors$Mills") true := ⟨RX1, TX1, 14, tyX1, k_X1, by decide, rfl, rfl, fun h => h.symm, (jtbl_in (List.mem_of_getElem? (i := 121) rfl) rfl), rfl⟩
set_option maxRecDepth 20000 in
theorem f_X1_49 : jfl RX1 49 1 0 .int false := ⟨RX1, TX1, 14, tyX1, k_X1, by decide, rfl, rfl, fun h => h.symm, (jtbl_in (List.mem_of_getElem? (i := 106) rfl) rfl), rfl⟩
set_option maxRecDepth 20000 in
theorem f_X1_53 : jfl RX1 53 1 6 .int false := ⟨RX1, TX1, 14, tyX1, k_X1, by decide, rfl, rfl, fun h => h.symm, (jtbl_in (List.mem_of_getElem? (i := 113) rfl) rfl), rfl⟩
set_option maxRecDepth 20000 in
theorem f_X2_11 : jfl RX2 11 2 1 (.array .int) true := ⟨RX2, TX2, 9, tyX2, k_X2, by decide, rfl, rfl, fun h => h.symm, (jtbl_in (List.mem_of_getElem? (i := 200) rfl) rfl), rfl⟩
set_option maxRecDepth 20000 in
theorem f_X2_15 : jfl RX2 15 2 2 (.array .int) true := ⟨RX2, TX2, 9, tyX2, k_X2, by decide, rfl, rfl, fun h => h.symm, (jtbl_in (List.mem_of_getElem? (i := 201) rfl) rfl), rfl⟩
set_option maxRecDepth 20000 in
theorem f_X2_18 : jfl RX2 18 2 4 (.array .int) true := ⟨RX2, TX2, 9, tyX2, k_X2, by decide, rfl, rfl, fun h => h.symm, (jtbl_in (List.mem_of_getElem? (i := 204) rfl) rfl), rfl⟩
set_option maxRecDepth 20000 in
theorem f_X2_21 : jfl RX2 21 2 5 (.array .int) true := ⟨RX2, TX2, 9, tyX2, k_X2, by decide, rfl, rfl, fun h => h.symm, (jtbl_in (List.mem_of_getElem? (i := 206) rfl) rfl), rfl⟩
set_option maxRecDepth 20000 in
theorem f_X2_24 : jfl RX2 24 2 6 (.array .int) true := ⟨RX2, TX2, 9, tyX2, k_X2, by decide, rfl, rfl, fun h => h.symm, (jtbl_in (List.mem_of_getElem? (i := 208) rfl) rfl), rfl⟩
set_option maxRecDepth 20000 in
theorem f_X2_27 : jfl RX2 27 2 7 (.array .boolean) true := ⟨RX2, TX2, 9, tyX2, k_X2, by decide, rfl, rfl, fun h => h.symm, (jtbl_in (List.mem_of_getElem? (i := 210) rfl) rfl), rfl⟩
set_option maxRecDepth 20000 in
theorem f_X2_31 : jfl RX2 31 2 8 (.array .int) true := ⟨RX2, TX2, 9, tyX2, k_X2, by decide, rfl, rfl, fun h => h.symm, (jtbl_in (List.mem_of_getElem? (i := 212) rfl) rfl), rfl⟩
set_option maxRecDepth 20000 in
theorem f_X2_34 : jfl RX2 34 2 3 .int false := ⟨RX2, TX2, 9, tyX2, k_X2, by decide, rfl, rfl, fun h => h.symm, (jtbl_in (List.mem_of_getElem? (i := 202) rfl) rfl), rfl⟩
set_option maxRecDepth 20000 in
theorem f_X2_38 : jfl RX2 38 2 0 .int false := ⟨RX2, TX2, 9, tyX2, k_X2, by decide, rfl, rfl, fun h => h.symm, (jtbl_in (List.mem_of_getElem? (i := 198) rfl) rfl), rfl⟩
set_option maxRecDepth 20000 in
theorem f_X3_11 : jfl RX3 11 3 1 (.array .int) true := ⟨RX3, TX3, 7, tyX3, k_X3, by decide, rfl, rfl, fun h => h.symm, (jtbl_in (List.mem_of_getElem? (i := 72) rfl) rfl), rfl⟩
set_option maxRecDepth 20000 in
theorem f_X3_15 : jfl RX3 15 3 2 (.array .int) true := ⟨RX3, TX3, 7, tyX3, k_X3, by decide, rfl, rfl, fun h => h.symm, (jtbl_in (List.mem_of_getElem? (i := 74) rfl) rfl), rfl⟩
set_option maxRecDepth 20000 in
theorem f_X3_18 : jfl RX3 18 3 3 (.array .int) true := ⟨RX3, TX3, 7, tyX3, k_X3, by decide, rfl, rfl, fun h => h.symm, (jtbl_in (List.mem_of_getElem? (i := 77) rfl) rfl), rfl⟩
set_option maxRecDepth 20000 in
theorem f_X3_21 : jfl RX3 21 3 4 (.array .int) true := ⟨RX3, TX3, 7, tyX3, k_X3, by decide, rfl, rfl, fun h => h.symm, (jtbl_in (List.mem_of_getElem? (i := 79) rfl) rfl), rfl⟩
set_option maxRecDepth 20000 in
theorem f_X3_24 : jfl RX3 24 3 5 (.array .boolean) true := ⟨RX3, TX3, 7, tyX3, k_X3, by decide, rfl, rfl, fun h => h.symm, (jtbl_in (List.mem_of_getElem? (i := 81) rfl) rfl), rfl⟩
set_option maxRecDepth 20000 in
theorem f_X3_28 : jfl RX3 28 3 6 (.array .int) true := ⟨RX3, TX3, 7, tyX3, k_X3, by decide, rfl, rfl, fun h => h.symm, (jtbl_in (List.mem_of_getElem? (i := 83) rfl) rfl), rfl⟩
set_option maxRecDepth 20000 in
theorem f_X3_31 : jfl RX3 31 3 0 .int false := ⟨RX3, TX3, 7, tyX3, k_X3, by decide, rfl, rfl, fun h => h.symm, (jtbl_in (List.mem_of_getElem? (i := 70) rfl) rfl), rfl⟩
set_option maxRecDepth 20000 in
theorem f_X4_11 : jfl RX4 11 4 1 (.array .int) true := ⟨RX4, TX4, 8, tyX4, k_X4, by decide, rfl, rfl, fun h => h.symm, (jtbl_in (List.mem_of_getElem? (i := 34) rfl) rfl), rfl⟩
set_option maxRecDepth 20000 in
theorem f_X4_15 : jfl RX4 15 4 2 (.array .int) true := ⟨RX4, TX4, 8, tyX4, k_X4, by decide, rfl, rfl, fun h => h.symm, (jtbl_in (List.mem_of_getElem? (i := 36) rfl) rfl), rfl⟩
set_option maxRecDepth 20000 in
theorem f_X4_18 : jfl RX4 18 4 3 (.array .int) true := ⟨RX4, TX4, 8, tyX4, k_X4, by decide, rfl, rfl, fun h => h.symm, (jtbl_in (List.mem_of_getElem? (i := 38) rfl) rfl), rfl⟩
set_option maxRecDepth 20000 in
theorem f_X4_21 : jfl RX4 21 4 4 (.array .int) true := ⟨RX4, TX4, 8, tyX4, k_X4, by decide, rfl, rfl, fun h => h.symm, (jtbl_in (List.mem_of_getElem? (i := 40) rfl) rfl), rfl⟩
set_option maxRecDepth 20000 in
theorem f_X4_24 : jfl RX4 24 4 5 (.array .int) true := ⟨RX4, TX4, 8, tyX4, k_X4, by decide, rfl, rfl, fun h => h.symm, (jtbl_in (List.mem_of_getElem? (i := 43) rfl) rfl), rfl⟩
set_option maxRecDepth 20000 in
theorem f_X4_27 : jfl RX4 27 4 6 (.array .int) true := ⟨RX4, TX4, 8, tyX4, k_X4, by decide, rfl, rfl, fun h => h.symm, (jtbl_in (List.mem_of_getElem? (i := 44) rfl) rfl), rfl⟩
set_option maxRecDepth 20000 in
theorem f_X4_30 : jfl RX4 30 4 7 (.array .int) true := ⟨RX4, TX4, 8, tyX4, k_X4, by decide, rfl, rfl, fun h => h.symm, (jtbl_in (List.mem_of_getElem? (i := 45) rfl) rfl), rfl⟩
set_option maxRecDepth 20000 in
theorem f_X4_33 : jfl RX4 33 4 0 .int false := ⟨RX4, TX4, 8, tyX4, k_X4, by decide, rfl, rfl, fun h => h.symm, (jtbl_in (List.mem_of_getElem? (i := 31) rfl) rfl), rfl⟩
set_option maxRecDepth 20000 in
theorem f_X5_11 : jfl RX5 11 5 1 (.array .byte) true := ⟨RX5, TX5, 10, tyX5, k_X5, by decide, rfl, rfl, fun h => h.symm, (jtbl_in (List.mem_of_getElem? (i := 327) rfl) rfl), rfl⟩
set_option maxRecDepth 20000 in
theorem f_X5_15 : jfl RX5 15 5 8 (.array .int) true := ⟨RX5, TX5, 10, tyX5, k_X5, by decide, rfl, rfl, fun h => h.symm, (jtbl_in (List.mem_of_getElem? (i := 334) rfl) rfl), rfl⟩
set_option maxRecDepth 20000 in
theorem f_X5_19 : jfl RX5 19 5 6 (.object "MillInspectors$Act") false := ⟨RX5, TX5, 10, tyX5, k_X5, by decide, rfl, rfl, fun h => h.symm, (jtbl_in (List.mem_of_getElem? (i := 332) rfl) rfl), rfl⟩
set_option maxRecDepth 20000 in
theorem f_X5_23 : jfl RX5 23 5 0 .int false := ⟨RX5, TX5, 10, tyX5, k_X5, by decide, rfl, rfl, fun h => h.symm, (jtbl_in (List.mem_of_getElem? (i := 325) rfl) rfl), rfl⟩
set_option maxRecDepth 20000 in
theorem f_X5_32 : jfl RX5 32 5 3 .int false := ⟨RX5, TX5, 10, tyX5, k_X5, by decide, rfl, rfl, fun h => h.symm, (jtbl_in (List.mem_of_getElem? (i := 329) rfl) rfl), rfl⟩
set_option maxRecDepth 20000 in
theorem f_X5_35 : jfl RX5 35 5 4 .int false := ⟨RX5, TX5, 10, tyX5, k_X5, by decide, rfl, rfl, fun h => h.symm, (jtbl_in (List.mem_of_getElem? (i := 330) rfl) rfl), rfl⟩
set_option maxRecDepth 20000 in
theorem f_X5_41 : jfl RX5 41 5 2 .int false := ⟨RX5, TX5, 10, tyX5, k_X5, by decide, rfl, rfl, fun h => h.symm, (jtbl_in (List.mem_of_getElem? (i := 328) rfl) rfl), rfl⟩
set_option maxRecDepth 20000 in
theorem f_X5_50 : jfl RX5 50 0 0 .int false := ⟨RX0, TX0, 16, tyX0, k_X0, by decide, rfl, rfl, fun h => h.symm, (jtbl_in (List.mem_of_getElem? (i := 264) rfl) rfl), rfl⟩
set_option maxRecDepth 20000 in
theorem f_X5_68 : jfl RX5 68 5 5 .int false := ⟨RX5, TX5, 10, tyX5, k_X5, by decide, rfl, rfl, fun h => h.symm, (jtbl_in (List.mem_of_getElem? (i := 331) rfl) rfl), rfl⟩
set_option maxRecDepth 20000 in
theorem f_X5_153 : jfl RX5 153 5 7 .int false := ⟨RX5, TX5, 10, tyX5, k_X5, by decide, rfl, rfl, fun h => h.symm, (jtbl_in (List.mem_of_getElem? (i := 333) rfl) rfl), rfl⟩
set_option maxRecDepth 20000 in
theorem f_X5_156 : jfl RX5 156 5 9 .int false := ⟨RX5, TX5, 10, tyX5, k_X5, by decide, rfl, rfl, fun h => h.symm, (jtbl_in (List.mem_of_getElem? (i := 335) rfl) rfl), rfl⟩
set_option maxRecDepth 20000 in
theorem f_X6_9 : jfl RX6 9 6 3 (.array .int) true := ⟨RX6, TX6, 5, tyX6, k_X6, by decide, rfl, rfl, fun h => h.symm, (jtbl_in (List.mem_of_getElem? (i := 244) rfl) rfl), rfl⟩
set_option maxRecDepth 20000 in
theorem f_X6_15 : jfl RX6 15 6 4 (.array .int) true := ⟨RX6, TX6, 5, tyX6, k_X6, by decide, rfl, rfl, fun h => h.symm, (jtbl_in (List.mem_of_getElem? (i := 245) rfl) rfl), rfl⟩
set_option maxRecDepth 20000 in
theorem f_X6_18 : jfl RX6 18 6 0 .int false := ⟨RX6, TX6, 5, tyX6, k_X6, by decide, rfl, rfl, fun h => h.symm, (jtbl_in (List.mem_of_getElem? (i := 238) rfl) rfl), rfl⟩
set_option maxRecDepth 20000 in
theorem f_X6_22 : jfl RX6 22 6 1 .int false := ⟨RX6, TX6, 5, tyX6, k_X6, by decide, rfl, rfl, fun h => h.symm, (jtbl_in (List.mem_of_getElem? (i := 240) rfl) rfl), rfl⟩
set_option maxRecDepth 20000 in
theorem f_X6_25 : jfl RX6 25 6 2 .int false := ⟨RX6, TX6, 5, tyX6, k_X6, by decide, rfl, rfl, fun h => h.symm, (jtbl_in (List.mem_of_getElem? (i := 242) rfl) rfl), rfl⟩
set_option maxRecDepth 20000 in
theorem f_X6_28 : jfl RX6 28 4 0 .int false := ⟨RX4, TX4, 8, tyX4, k_X4, by decide, rfl, rfl, fun h => h.symm, (jtbl_in (List.mem_of_getElem? (i := 32) rfl) rfl), rfl⟩
set_option maxRecDepth 20000 in
theorem f_X6_32 : jfl RX6 32 4 4 (.array .int) true := ⟨RX4, TX4, 8, tyX4, k_X4, by decide, rfl, rfl, fun h => h.symm, (jtbl_in (List.mem_of_getElem? (i := 41) rfl) rfl), rfl⟩
set_option maxRecDepth 20000 in
theorem f_X6_45 : jfl RX6 45 4 3 (.array .int) true := ⟨RX4, TX4, 8, tyX4, k_X4, by decide, rfl, rfl, fun h => h.symm, (jtbl_in (List.mem_of_getElem? (i := 39) rfl) rfl), rfl⟩
set_option maxRecDepth 20000 in
theorem f_X7_11 : jfl RX7 11 7 0 (.array .int) true := ⟨RX7, TX7, 11, tyX7, k_X7, by decide, rfl, rfl, fun h => h.symm, (jtbl_in (List.mem_of_getElem? (i := 157) rfl) rfl), rfl⟩
set_option maxRecDepth 20000 in
theorem f_X7_15 : jfl RX7 15 7 1 (.array .int) true := ⟨RX7, TX7, 11, tyX7, k_X7, by decide, rfl, rfl, fun h => h.symm, (jtbl_in (List.mem_of_getElem? (i := 158) rfl) rfl), rfl⟩
set_option maxRecDepth 20000 in
theorem f_X7_18 : jfl RX7 18 7 5 (.array .int) true := ⟨RX7, TX7, 11, tyX7, k_X7, by decide, rfl, rfl, fun h => h.symm, (jtbl_in (List.mem_of_getElem? (i := 162) rfl) rfl), rfl⟩
set_option maxRecDepth 20000 in
theorem f_X7_21 : jfl RX7 21 7 7 (.array .int) true := ⟨RX7, TX7, 11, tyX7, k_X7, by decide, rfl, rfl, fun h => h.symm, (jtbl_in (List.mem_of_getElem? (i := 164) rfl) rfl), rfl⟩
set_option maxRecDepth 20000 in
theorem f_X7_24 : jfl RX7 24 7 8 (.array .int) true := ⟨RX7, TX7, 11, tyX7, k_X7, by decide, rfl, rfl, fun h => h.symm, (jtbl_in (List.mem_of_getElem? (i := 165) rfl) rfl), rfl⟩
set_option maxRecDepth 20000 in
theorem f_X7_27 : jfl RX7 27 7 9 (.array .long) true := ⟨RX7, TX7, 11, tyX7, k_X7, by decide, rfl, rfl, fun h => h.symm, (jtbl_in (List.mem_of_getElem? (i := 166) rfl) rfl), rfl⟩
set_option maxRecDepth 20000 in
theorem f_X7_31 : jfl RX7 31 7 10 (.array .long) true := ⟨RX7, TX7, 11, tyX7, k_X7, by decide, rfl, rfl, fun h => h.symm, (jtbl_in (List.mem_of_getElem? (i := 167) rfl) rfl), rfl⟩
set_option maxRecDepth 20000 in
theorem f_X7_38 : jfl RX7 38 7 2 .int false := ⟨RX7, TX7, 11, tyX7, k_X7, by decide, rfl, rfl, fun h => h.symm, (jtbl_in (List.mem_of_getElem? (i := 159) rfl) rfl), rfl⟩
set_option maxRecDepth 20000 in
theorem f_X7_42 : jfl RX7 42 7 3 .int false := ⟨RX7, TX7, 11, tyX7, k_X7, by decide, rfl, rfl, fun h => h.symm, (jtbl_in (List.mem_of_getElem? (i := 160) rfl) rfl), rfl⟩
set_option maxRecDepth 20000 in
theorem f_X7_45 : jfl RX7 45 7 4 .int false := ⟨RX7, TX7, 11, tyX7, k_X7, by decide, rfl, rfl, fun h => h.symm, (jtbl_in (List.mem_of_getElem? (i := 161) rfl) rfl), rfl⟩
set_option maxRecDepth 20000 in
theorem f_X7_48 : jfl RX7 48 7 6 .int false := ⟨RX7, TX7, 11, tyX7, k_X7, by decide, rfl, rfl, fun h => h.symm, (jtbl_in (List.mem_of_getElem? (i := 163) rfl) rfl), rfl⟩
set_option maxRecDepth 20000 in
theorem f_X9_7 : jfl RX9 7 9 2 (.array .long) true := ⟨RX9, TX9, 52, tyX9, k_X9, by decide, rfl, rfl, fun h => h.symm, (jtbl_in (List.mem_of_getElem? (i := 1012) rfl) rfl), rfl⟩
set_option maxRecDepth 20000 in
theorem f_X9_13 : jfl RX9 13 9 4 (.array .int) true := ⟨RX9, TX9, 52, tyX9, k_X9, by decide, rfl, rfl, fun h => h.symm, (jtbl_in (List.mem_of_getElem? (i := 1014) rfl) rfl), rfl⟩
set_option maxRecDepth 20000 in
theorem f_X9_17 : jfl RX9 17 9 5 (.array .int) true := ⟨RX9, TX9, 52, tyX9, k_X9, by decide, rfl, rfl, fun h => h.symm, (jtbl_in (List.mem_of_getElem? (i := 1015) rfl) rfl), rfl⟩
set_option maxRecDepth 20000 in
theorem f_X9_20 : jfl RX9 20 9 6 (.array .int) true := ⟨RX9, TX9, 52, tyX9, k_X9, by decide, rfl, rfl, fun h => h.symm, (jtbl_in (List.mem_of_getElem? (i := 1016) rfl) rfl), rfl⟩
set_option maxRecDepth 20000 in
theorem f_X9_23 : jfl RX9 23 9 7 (.array .int) true := ⟨RX9, TX9, 52, tyX9, k_X9, by decide, rfl, rfl, fun h => h.symm, (jtbl_in (List.mem_of_getElem? (i := 1017) rfl) rfl), rfl⟩
set_option maxRecDepth 20000 in
theorem f_X9_26 : jfl RX9 26 9 9 (.array .int) true := ⟨RX9, TX9, 52, tyX9, k_X9, by decide, rfl, rfl, fun h => h.symm, (jtbl_in (List.mem_of_getElem? (i := 1019) rfl) rfl), rfl⟩
set_option maxRecDepth 20000 in
theorem f_X9_29 : jfl RX9 29 9 10 (.array .int) true := ⟨RX9, TX9, 52, tyX9, k_X9, by decide, rfl, rfl, fun h => h.symm, (jtbl_in (List.mem_of_getElem? (i := 1020) rfl) rfl), rfl⟩
set_option maxRecDepth 20000 in
theorem f_X9_32 : jfl RX9 32 9 11 (.array .int) true := ⟨RX9, TX9, 52, tyX9, k_X9, by decide, rfl, rfl, fun h => h.symm, (jtbl_in (List.mem_of_getElem? (i := 1021) rfl) rfl), rfl⟩
set_option maxRecDepth 20000 in
theorem f_X9_35 : jfl RX9 35 9 12 (.array .int) true := ⟨RX9, TX9, 52, tyX9, k_X9, by decide, rfl, rfl, fun h => h.symm, (jtbl_in (List.mem_of_getElem? (i := 1022) rfl) rfl), rfl⟩
set_option maxRecDepth 20000 in
theorem f_X9_38 : jfl RX9 38 9 13 (.array .int) true := ⟨RX9, TX9, 52, tyX9, k_X9, by decide, rfl, rfl, fun h => h.symm, (jtbl_in (List.mem_of_getElem? (i := 1023) rfl) rfl), rfl⟩
set_option maxRecDepth 20000 in
theorem f_X9_41 : jfl RX9 41 9 22 (.array .int) true := ⟨RX9, TX9, 52, tyX9, k_X9, by decide, rfl, rfl, fun h => h.symm, (jtbl_in (List.mem_of_getElem? (i := 1032) rfl) rfl), rfl⟩
set_option maxRecDepth 20000 in
theorem f_X9_44 : jfl RX9 44 9 23 (.array .int) true := ⟨RX9, TX9, 52, tyX9, k_X9, by decide, rfl, rfl, fun h => h.symm, (jtbl_in (List.mem_of_getElem? (i := 1033) rfl) rfl), rfl⟩
set_option maxRecDepth 20000 in
theorem f_X9_47 : jfl RX9 47 9 25 (.array .int) true := ⟨RX9, TX9, 52, tyX9, k_X9, by decide, rfl, rfl, fun h => h.symm, (jtbl_in (List.mem_of_getElem? (i := 1035) rfl) rfl), rfl⟩
set_option maxRecDepth 20000 in
theorem f_X9_50 : jfl RX9 50 9 26 (.array .int) true := ⟨RX9, TX9, 52, tyX9, k_X9, by decide, rfl, rfl, fun h => h.symm, (jtbl_in (List.mem_of_getElem? (i := 1036) rfl) rfl), rfl⟩
set_option maxRecDepth 20000 in
theorem f_X9_53 : jfl RX9 53 9 28 (.array .int) true := ⟨RX9, TX9, 52, tyX9, k_X9, by decide, rfl, rfl, fun h => h.symm, (jtbl_in (List.mem_of_getElem? (i := 1038) rfl) rfl), rfl⟩
set_option maxRecDepth 20000 in
theorem f_X9_56 : jfl RX9 56 9 29 (.array .int) true := ⟨RX9, TX9, 52, tyX9, k_X9, by decide, rfl, rfl, fun h => h.symm, (jtbl_in (List.mem_of_getElem? (i := 1039) rfl) rfl), rfl⟩
set_option maxRecDepth 20000 in
theorem f_X9_59 : jfl RX9 59 9 30 (.array .int) true := ⟨RX9, TX9, 52, tyX9, k_X9, by decide, rfl, rfl, fun h => h.symm, (jtbl_in (List.mem_of_getElem? (i := 1040) rfl) rfl), rfl⟩
set_option maxRecDepth 20000 in
theorem f_X9_62 : jfl RX9 62 9 31 (.array .int) true := ⟨RX9, TX9, 52, tyX9, k_X9, by decide, rfl, rfl, fun h => h.symm, (jtbl_in (List.mem_of_getElem? (i := 1041) rfl) rfl), rfl⟩
set_option maxRecDepth 20000 in
theorem f_X9_65 : jfl RX9 65 9 32 (.array .int) true := ⟨RX9, TX9, 52, tyX9, k_X9, by decide, rfl, rfl, fun h => h.symm, (jtbl_in (List.mem_of_getElem? (i := 1042) rfl) rfl), rfl⟩
set_option maxRecDepth 20000 in
theorem f_X9_68 : jfl RX9 68 9 33 (.array .int) true := ⟨RX9, TX9, 52, tyX9, k_X9, by decide, rfl, rfl, fun h => h.symm, (jtbl_in (List.mem_of_getElem? (i := 1043) rfl) rfl), rfl⟩
set_option maxRecDepth 20000 in
theorem f_X9_71 : jfl RX9 71 9 34 (.array .int) true := ⟨RX9, TX9, 52, tyX9, k_X9, by decide, rfl, rfl, fun h => h.symm, (jtbl_in (List.mem_of_getElem? (i := 1044) rfl) rfl), rfl⟩
set_option maxRecDepth 20000 in
theorem f_X9_74 : jfl RX9 74 9 35 (.array .int) true := ⟨RX9, TX9, 52, tyX9, k_X9, by decide, rfl, rfl, fun h => h.symm, (jtbl_in (List.mem_of_getElem? (i := 1045) rfl) rfl), rfl⟩
set_option maxRecDepth 20000 in
theorem f_X9_77 : jfl RX9 77 9 36 (.array .int) true := ⟨RX9, TX9, 52, tyX9, k_X9, by decide, rfl, rfl, fun h => h.symm, (jtbl_in (List.mem_of_getElem? (i := 1046) rfl) rfl), rfl⟩
set_option maxRecDepth 20000 in
theorem f_X9_80 : jfl RX9 80 9 37 (.array .int) true := ⟨RX9, TX9, 52, tyX9, k_X9, by decide, rfl, rfl, fun h => h.symm, (jtbl_in (List.mem_of_getElem? (i := 1047) rfl) rfl), rfl⟩
set_option maxRecDepth 20000 in
theorem f_X9_83 : jfl RX9 83 9 39 (.array .int) true := ⟨RX9, TX9, 52, tyX9, k_X9, by decide, rfl, rfl, fun h => h.symm, (jtbl_in (List.mem_of_getElem? (i := 1049) rfl) rfl), rfl⟩
set_option maxRecDepth 20000 in
theorem f_X9_86 : jfl RX9 86 9 40 (.array .int) true := ⟨RX9, TX9, 52, tyX9, k_X9, by decide, rfl, rfl, fun h => h.symm, (jtbl_in (List.mem_of_getElem? (i := 1050) rfl) rfl), rfl⟩
set_option maxRecDepth 20000 in
theorem f_X9_89 : jfl RX9 89 9 42 (.array .int) true := ⟨RX9, TX9, 52, tyX9, k_X9, by decide, rfl, rfl, fun h => h.symm, (jtbl_in (List.mem_of_getElem? (i := 1052) rfl) rfl), rfl⟩
set_option maxRecDepth 20000 in
theorem f_X9_92 : jfl RX9 92 9 43 (.array .int) true := ⟨RX9, TX9, 52, tyX9, k_X9, by decide, rfl, rfl, fun h => h.symm, (jtbl_in (List.mem_of_getElem? (i := 1053) rfl) rfl), rfl⟩
set_option maxRecDepth 20000 in
theorem f_X9_95 : jfl RX9 95 9 44 (.array .int) true := ⟨RX9, TX9, 52, tyX9, k_X9, by decide, rfl, rfl, fun h => h.symm, (jtbl_in (List.mem_of_getElem? (i := 1054) rfl) rfl), rfl⟩
set_option maxRecDepth 20000 in
theorem f_X9_98 : jfl RX9 98 9 45 (.array .int) true := ⟨RX9, TX9, 52, tyX9, k_X9, by decide, rfl, rfl, fun h => h.symm, (jtbl_in (List.mem_of_getElem? (i := 1055) rfl) rfl), rfl⟩
set_option maxRecDepth 20000 in
theorem f_X9_101 : jfl RX9 101 9 46 (.array .boolean) true := ⟨RX9, TX9, 52, tyX9, k_X9, by decide, rfl, rfl, fun h => h.symm, (jtbl_in (List.mem_of_getElem? (i := 1056) rfl) rfl), rfl⟩
set_option maxRecDepth 20000 in
theorem f_X9_105 : jfl RX9 105 9 47 (.array .int) true := ⟨RX9, TX9, 52, tyX9, k_X9, by decide, rfl, rfl, fun h => h.symm, (jtbl_in (List.mem_of_getElem? (i := 1057) rfl) rfl), rfl⟩
set_option maxRecDepth 20000 in
theorem f_X9_108 : jfl RX9 108 9 48 (.array .int) true := ⟨RX9, TX9, 52, tyX9, k_X9, by decide, rfl, rfl, fun h => h.symm, (jtbl_in (List.mem_of_getElem? (i := 1058) rfl) rfl), rfl⟩
set_option maxRecDepth 20000 in
theorem f_X9_111 : jfl RX9 111 9 49 (.array .int) true := ⟨RX9, TX9, 52, tyX9, k_X9, by decide, rfl, rfl, fun h => h.symm, (jtbl_in (List.mem_of_getElem? (i := 1059) rfl) rfl), rfl⟩
set_option maxRecDepth 20000 in
theorem f_X9_114 : jfl RX9 114 9 50 (.array .long) true := ⟨RX9, TX9, 52, tyX9, k_X9, by decide, rfl, rfl, fun h => h.symm, (jtbl_in (List.mem_of_getElem? (i := 1060) rfl) rfl), rfl⟩
set_option maxRecDepth 20000 in
theorem f_X9_117 : jfl RX9 117 9 51 (.array .long) true := ⟨RX9, TX9, 52, tyX9, k_X9, by decide, rfl, rfl, fun h => h.symm, (jtbl_in (List.mem_of_getElem? (i := 1061) rfl) rfl), rfl⟩
set_option maxRecDepth 20000 in
theorem f_X9_124 : jfl RX9 124 9 0 .int false := ⟨RX9, TX9, 52, tyX9, k_X9, by decide, rfl, rfl, fun h => h.symm, (jtbl_in (List.mem_of_getElem? (i := 1010) rfl) rfl), rfl⟩
set_option maxRecDepth 20000 in
theorem f_X9_134 : jfl RX9 134 9 3 .int false := ⟨RX9, TX9, 52, tyX9, k_X9, by decide, rfl, rfl, fun h => h.symm, (jtbl_in (List.mem_of_getElem? (i := 1013) rfl) rfl), rfl⟩
set_option maxRecDepth 20000 in
theorem f_X9_141 : jfl RX9 141 9 8 .int false := ⟨RX9, TX9, 52, tyX9, k_X9, by decide, rfl, rfl, fun h => h.symm, (jtbl_in (List.mem_of_getElem? (i := 1018) rfl) rfl), rfl⟩
set_option maxRecDepth 20000 in
theorem f_X9_148 : jfl RX9 148 9 1 .long false := ⟨RX9, TX9, 52, tyX9, k_X9, by decide, rfl, rfl, fun h => h.symm, (jtbl_in (List.mem_of_getElem? (i := 1011) rfl) rfl), rfl⟩
set_option maxRecDepth 20000 in
theorem f_X9_176 : jfl RX9 176 9 14 .int false := ⟨RX9, TX9, 52, tyX9, k_X9, by decide, rfl, rfl, fun h => h.symm, (jtbl_in (List.mem_of_getElem? (i := 1024) rfl) rfl), rfl⟩
set_option maxRecDepth 20000 in
theorem f_X9_181 : jfl RX9 181 9 15 .int false := ⟨RX9, TX9, 52, tyX9, k_X9, by decide, rfl, rfl, fun h => h.symm, (jtbl_in (List.mem_of_getElem? (i := 1025) rfl) rfl), rfl⟩
set_option maxRecDepth 20000 in
theorem f_X9_188 : jfl RX9 188 9 17 .int false := ⟨RX9, TX9, 52, tyX9, k_X9, by decide, rfl, rfl, fun h => h.symm, (jtbl_in (List.mem_of_getElem? (i := 1027) rfl) rfl), rfl⟩
set_option maxRecDepth 20000 in
theorem f_X9_191 : jfl RX9 191 9 16 .int false := ⟨RX9, TX9, 52, tyX9, k_X9, by decide, rfl, rfl, fun h => h.symm, (jtbl_in (List.mem_of_getElem? (i := 1026) rfl) rfl), rfl⟩
set_option maxRecDepth 20000 in
theorem f_X9_194 : jfl RX9 194 9 18 .int false := ⟨RX9, TX9, 52, tyX9, k_X9, by decide, rfl, rfl, fun h => h.symm, (jtbl_in (List.mem_of_getElem? (i := 1028) rfl) rfl), rfl⟩
set_option maxRecDepth 20000 in
theorem f_X9_200 : jfl RX9 200 9 19 .int false := ⟨RX9, TX9, 52, tyX9, k_X9, by decide, rfl, rfl, fun h => h.symm, (jtbl_in (List.mem_of_getElem? (i := 1029) rfl) rfl), rfl⟩
set_option maxRecDepth 20000 in
theorem f_X9_219 : jfl RX9 219 9 21 .int false := ⟨RX9, TX9, 52, tyX9, k_X9, by decide, rfl, rfl, fun h => h.symm, (jtbl_in (List.mem_of_getElem? (i := 1031) rfl) rfl), rfl⟩
set_option maxRecDepth 20000 in
theorem f_X9_222 : jfl RX9 222 9 24 .int false := ⟨RX9, TX9, 52, tyX9, k_X9, by decide, rfl, rfl, fun h => h.symm, (jtbl_in (List.mem_of_getElem? (i := 1034) rfl) rfl), rfl⟩
set_option maxRecDepth 20000 in
theorem f_X9_252 : jfl RX9 252 9 20 .int false := ⟨RX9, TX9, 52, tyX9, k_X9, by decide, rfl, rfl, fun h => h.symm, (jtbl_in (List.mem_of_getElem? (i := 1030) rfl) rfl), rfl⟩
set_option maxRecDepth 20000 in
theorem f_X9_275 : jfl RX9 275 9 27 .int false := ⟨RX9, TX9, 52, tyX9, k_X9, by decide, rfl, rfl, fun h => h.symm, (jtbl_in (List.mem_of_getElem? (i := 1037) rfl) rfl), rfl⟩
set_option maxRecDepth 20000 in
theorem f_X9_324 : jfl RX9 324 9 38 .int false := ⟨RX9, TX9, 52, tyX9, k_X9, by decide, rfl, rfl, fun h => h.symm, (jtbl_in (List.mem_of_getElem? (i := 1048) rfl) rfl), rfl⟩
set_option maxRecDepth 20000 in
theorem f_X9_327 : jfl RX9 327 9 41 .int false := ⟨RX9, TX9, 52, tyX9, k_X9, by decide, rfl, rfl, fun h => h.symm, (jtbl_in (List.mem_of_getElem? (i := 1051) rfl) rfl), rfl⟩
theorem o_0_0 : jfk shJ 0 8 0 11 := ⟨by decide, _, rfl, rfl⟩
theorem r_0_0 : jft shJ 0 8 0 1 := ⟨11, o_0_0, by decide, by decide⟩
theorem o_0_1 : jfk shJ 0 8 1 19 := ⟨by decide, _, rfl, rfl⟩
theorem r_0_1 : jft shJ 0 8 1 9 := ⟨19, o_0_1, by decide, by decide⟩
theorem o_0_2 : jfk shJ 0 8 2 81 := ⟨by decide, _, rfl, rfl⟩
theorem r_0_2 : jft shJ 0 8 2 71 := ⟨81, o_0_2, by decide, by decide⟩
theorem o_0_3 : jfk shJ 0 8 3 26 := ⟨by decide, _, rfl, rfl⟩
theorem r_0_3 : jft shJ 0 8 3 16 := ⟨26, o_0_3, by decide, by decide⟩
theorem o_0_4 : jfk shJ 0 8 4 38 := ⟨by decide, _, rfl, rfl⟩
theorem r_0_4 : jft shJ 0 8 4 28 := ⟨38, o_0_4, by decide, by decide⟩
theorem o_0_5 : jfk shJ 0 8 5 46 := ⟨by decide, _, rfl, rfl⟩
theorem r_0_5 : jft shJ 0 8 5 36 := ⟨46, o_0_5, by decide, by decide⟩
theorem o_0_6 : jfk shJ 0 8 6 54 := ⟨by decide, _, rfl, rfl⟩
theorem r_0_6 : jft shJ 0 8 6 44 := ⟨54, o_0_6, by decide, by decide⟩
theorem o_0_7 : jfk shJ 0 8 7 2 := ⟨by decide, _, rfl, rfl⟩
theorem o_0_8 : jfk shJ 0 8 8 2 := ⟨by decide, _, rfl, rfl⟩
theorem o_0_9 : jfk shJ 0 8 9 1 := ⟨by decide, _, rfl, rfl⟩
theorem ob_0 : (0 : Int) ≤ 0 ∧ shJ[(0 : Int).toNat]? = some (.inr (8, [11, 19, 81, 26, 38, 46, 54, 2, 2, 1])) := ⟨by decide, rfl⟩
theorem o_1_0 : jfk shJ 1 4 0 0 := ⟨by decide, _, rfl, rfl⟩
theorem o_1_1 : jfk shJ 1 4 1 12 := ⟨by decide, _, rfl, rfl⟩
theorem r_1_1 : jft shJ 1 4 1 2 := ⟨12, o_1_1, by decide, by decide⟩
theorem o_1_2 : jfk shJ 1 4 2 13 := ⟨by decide, _, rfl, rfl⟩
theorem r_1_2 : jft shJ 1 4 2 3 := ⟨13, o_1_2, by decide, by decide⟩
theorem o_1_3 : jfk shJ 1 4 3 14 := ⟨by decide, _, rfl, rfl⟩
theorem r_1_3 : jft shJ 1 4 3 4 := ⟨14, o_1_3, by decide, by decide⟩
theorem o_1_4 : jfk shJ 1 4 4 15 := ⟨by decide, _, rfl, rfl⟩
theorem r_1_4 : jft shJ 1 4 4 5 := ⟨15, o_1_4, by decide, by decide⟩
theorem o_1_5 : jfk shJ 1 4 5 16 := ⟨by decide, _, rfl, rfl⟩
theorem r_1_5 : jft shJ 1 4 5 6 := ⟨16, o_1_5, by decide, by decide⟩
theorem o_1_6 : jfk shJ 1 4 6 17 := ⟨by decide, _, rfl, rfl⟩
theorem r_1_6 : jft shJ 1 4 6 7 := ⟨17, o_1_6, by decide, by decide⟩
theorem o_1_7 : jfk shJ 1 4 7 18 := ⟨by decide, _, rfl, rfl⟩
theorem r_1_7 : jft shJ 1 4 7 8 := ⟨18, o_1_7, by decide, by decide⟩
theorem ob_1 : (0 : Int) ≤ 1 ∧ shJ[(1 : Int).toNat]? = some (.inr (4, [0, 12, 13, 14, 15, 16, 17, 18])) := ⟨by decide, rfl⟩
theorem a_2 : jar shJ 2 0 6 := ⟨by decide, by decide, rfl⟩
theorem a_3 : jar shJ 3 0 6 := ⟨by decide, by decide, rfl⟩
theorem a_4 : jar shJ 4 0 6 := ⟨by decide, by decide, rfl⟩
theorem a_5 : jar shJ 5 0 6 := ⟨by decide, by decide, rfl⟩
theorem a_6 : jar shJ 6 0 6 := ⟨by decide, by decide, rfl⟩
theorem a_7 : jar shJ 7 0 24 := ⟨by decide, by decide, rfl⟩
theorem a_8 : jar shJ 8 0 24 := ⟨by decide, by decide, rfl⟩
theorem o_9_0 : jfk shJ 9 3 0 0 := ⟨by decide, _, rfl, rfl⟩
theorem o_9_1 : jfk shJ 9 3 1 20 := ⟨by decide, _, rfl, rfl⟩
theorem r_9_1 : jft shJ 9 3 1 10 := ⟨20, o_9_1, by decide, by decide⟩
theorem o_9_2 : jfk shJ 9 3 2 21 := ⟨by decide, _, rfl, rfl⟩
theorem r_9_2 : jft shJ 9 3 2 11 := ⟨21, o_9_2, by decide, by decide⟩
theorem o_9_3 : jfk shJ 9 3 3 22 := ⟨by decide, _, rfl, rfl⟩
theorem r_9_3 : jft shJ 9 3 3 12 := ⟨22, o_9_3, by decide, by decide⟩
theorem o_9_4 : jfk shJ 9 3 4 23 := ⟨by decide, _, rfl, rfl⟩
theorem r_9_4 : jft shJ 9 3 4 13 := ⟨23, o_9_4, by decide, by decide⟩
theorem o_9_5 : jfk shJ 9 3 5 24 := ⟨by decide, _, rfl, rfl⟩
theorem r_9_5 : jft shJ 9 3 5 14 := ⟨24, o_9_5, by decide, by decide⟩
theorem o_9_6 : jfk shJ 9 3 6 25 := ⟨by decide, _, rfl, rfl⟩
theorem r_9_6 : jft shJ 9 3 6 15 := ⟨25, o_9_6, by decide, by decide⟩
theorem ob_9 : (0 : Int) ≤ 9 ∧ shJ[(9 : Int).toNat]? = some (.inr (3, [0, 20, 21, 22, 23, 24, 25])) := ⟨by decide, rfl⟩
theorem a_10 : jar shJ 10 0 24 := ⟨by decide, by decide, rfl⟩
theorem a_11 : jar shJ 11 0 24 := ⟨by decide, by decide, rfl⟩
theorem a_12 : jar shJ 12 0 24 := ⟨by decide, by decide, rfl⟩
theorem a_13 : jar shJ 13 0 24 := ⟨by decide, by decide, rfl⟩
theorem a_14 : jar shJ 14 4 24 := ⟨by decide, by decide, rfl⟩
theorem a_15 : jar shJ 15 0 24 := ⟨by decide, by decide, rfl⟩
theorem o_16_0 : jfk shJ 16 1 0 0 := ⟨by decide, _, rfl, rfl⟩
theorem o_16_1 : jfk shJ 16 1 1 27 := ⟨by decide, _, rfl, rfl⟩
theorem r_16_1 : jft shJ 16 1 1 17 := ⟨27, o_16_1, by decide, by decide⟩
theorem o_16_2 : jfk shJ 16 1 2 28 := ⟨by decide, _, rfl, rfl⟩
theorem r_16_2 : jft shJ 16 1 2 18 := ⟨28, o_16_2, by decide, by decide⟩
theorem o_16_3 : jfk shJ 16 1 3 29 := ⟨by decide, _, rfl, rfl⟩
theorem r_16_3 : jft shJ 16 1 3 19 := ⟨29, o_16_3, by decide, by decide⟩
theorem o_16_4 : jfk shJ 16 1 4 30 := ⟨by decide, _, rfl, rfl⟩
theorem r_16_4 : jft shJ 16 1 4 20 := ⟨30, o_16_4, by decide, by decide⟩
theorem o_16_5 : jfk shJ 16 1 5 31 := ⟨by decide, _, rfl, rfl⟩
theorem r_16_5 : jft shJ 16 1 5 21 := ⟨31, o_16_5, by decide, by decide⟩
theorem o_16_6 : jfk shJ 16 1 6 0 := ⟨by decide, _, rfl, rfl⟩
theorem o_16_7 : jfk shJ 16 1 7 32 := ⟨by decide, _, rfl, rfl⟩
theorem r_16_7 : jft shJ 16 1 7 22 := ⟨32, o_16_7, by decide, by decide⟩
theorem o_16_8 : jfk shJ 16 1 8 33 := ⟨by decide, _, rfl, rfl⟩
theorem r_16_8 : jft shJ 16 1 8 23 := ⟨33, o_16_8, by decide, by decide⟩
theorem o_16_9 : jfk shJ 16 1 9 34 := ⟨by decide, _, rfl, rfl⟩
theorem r_16_9 : jft shJ 16 1 9 24 := ⟨34, o_16_9, by decide, by decide⟩
theorem o_16_10 : jfk shJ 16 1 10 35 := ⟨by decide, _, rfl, rfl⟩
theorem r_16_10 : jft shJ 16 1 10 25 := ⟨35, o_16_10, by decide, by decide⟩
theorem o_16_11 : jfk shJ 16 1 11 36 := ⟨by decide, _, rfl, rfl⟩
theorem r_16_11 : jft shJ 16 1 11 26 := ⟨36, o_16_11, by decide, by decide⟩
theorem o_16_12 : jfk shJ 16 1 12 37 := ⟨by decide, _, rfl, rfl⟩
theorem r_16_12 : jft shJ 16 1 12 27 := ⟨37, o_16_12, by decide, by decide⟩
theorem o_16_13 : jfk shJ 16 1 13 11 := ⟨by decide, _, rfl, rfl⟩
theorem r_16_13 : jft shJ 16 1 13 1 := ⟨11, o_16_13, by decide, by decide⟩
theorem ob_16 : (0 : Int) ≤ 16 ∧ shJ[(16 : Int).toNat]? = some (.inr (1, [0, 27, 28, 29, 30, 31, 0, 32, 33, 34, 35, 36, 37, 11])) := ⟨by decide, rfl⟩
theorem a_17 : jar shJ 17 0 60 := ⟨by decide, by decide, rfl⟩
theorem a_18 : jar shJ 18 0 60 := ⟨by decide, by decide, rfl⟩
theorem a_19 : jar shJ 19 0 60 := ⟨by decide, by decide, rfl⟩
theorem a_20 : jar shJ 20 0 60 := ⟨by decide, by decide, rfl⟩
theorem a_21 : jar shJ 21 0 60 := ⟨by decide, by decide, rfl⟩
theorem a_22 : jar shJ 22 0 60 := ⟨by decide, by decide, rfl⟩
theorem a_23 : jar shJ 23 0 60 := ⟨by decide, by decide, rfl⟩
theorem a_24 : jar shJ 24 0 60 := ⟨by decide, by decide, rfl⟩
theorem a_25 : jar shJ 25 0 60 := ⟨by decide, by decide, rfl⟩
theorem a_26 : jar shJ 26 0 60 := ⟨by decide, by decide, rfl⟩
theorem a_27 : jar shJ 27 0 12 := ⟨by decide, by decide, rfl⟩
theorem o_28_0 : jfk shJ 28 7 0 39 := ⟨by decide, _, rfl, rfl⟩
theorem r_28_0 : jft shJ 28 7 0 29 := ⟨39, o_28_0, by decide, by decide⟩
theorem o_28_1 : jfk shJ 28 7 1 40 := ⟨by decide, _, rfl, rfl⟩
theorem r_28_1 : jft shJ 28 7 1 30 := ⟨40, o_28_1, by decide, by decide⟩
theorem o_28_2 : jfk shJ 28 7 2 0 := ⟨by decide, _, rfl, rfl⟩
theorem o_28_3 : jfk shJ 28 7 3 0 := ⟨by decide, _, rfl, rfl⟩
theorem o_28_4 : jfk shJ 28 7 4 0 := ⟨by decide, _, rfl, rfl⟩
theorem o_28_5 : jfk shJ 28 7 5 41 := ⟨by decide, _, rfl, rfl⟩
theorem r_28_5 : jft shJ 28 7 5 31 := ⟨41, o_28_5, by decide, by decide⟩
theorem o_28_6 : jfk shJ 28 7 6 0 := ⟨by decide, _, rfl, rfl⟩
theorem o_28_7 : jfk shJ 28 7 7 42 := ⟨by decide, _, rfl, rfl⟩
theorem r_28_7 : jft shJ 28 7 7 32 := ⟨42, o_28_7, by decide, by decide⟩
theorem o_28_8 : jfk shJ 28 7 8 43 := ⟨by decide, _, rfl, rfl⟩
theorem r_28_8 : jft shJ 28 7 8 33 := ⟨43, o_28_8, by decide, by decide⟩
theorem o_28_9 : jfk shJ 28 7 9 44 := ⟨by decide, _, rfl, rfl⟩
theorem r_28_9 : jft shJ 28 7 9 34 := ⟨44, o_28_9, by decide, by decide⟩
theorem o_28_10 : jfk shJ 28 7 10 45 := ⟨by decide, _, rfl, rfl⟩
theorem r_28_10 : jft shJ 28 7 10 35 := ⟨45, o_28_10, by decide, by decide⟩
theorem ob_28 : (0 : Int) ≤ 28 ∧ shJ[(28 : Int).toNat]? = some (.inr (7, [39, 40, 0, 0, 0, 41, 0, 42, 43, 44, 45])) := ⟨by decide, rfl⟩
theorem a_29 : jar shJ 29 0 6 := ⟨by decide, by decide, rfl⟩
theorem a_30 : jar shJ 30 0 6 := ⟨by decide, by decide, rfl⟩
theorem a_31 : jar shJ 31 0 64 := ⟨by decide, by decide, rfl⟩
theorem a_32 : jar shJ 32 0 64 := ⟨by decide, by decide, rfl⟩
theorem a_33 : jar shJ 33 0 64 := ⟨by decide, by decide, rfl⟩
theorem a_34 : jar shJ 34 1 135 := ⟨by decide, by decide, rfl⟩
theorem a_35 : jar shJ 35 1 135 := ⟨by decide, by decide, rfl⟩
theorem o_36_0 : jfk shJ 36 2 0 0 := ⟨by decide, _, rfl, rfl⟩
theorem o_36_1 : jfk shJ 36 2 1 47 := ⟨by decide, _, rfl, rfl⟩
theorem r_36_1 : jft shJ 36 2 1 37 := ⟨47, o_36_1, by decide, by decide⟩
theorem o_36_2 : jfk shJ 36 2 2 48 := ⟨by decide, _, rfl, rfl⟩
theorem r_36_2 : jft shJ 36 2 2 38 := ⟨48, o_36_2, by decide, by decide⟩
theorem o_36_3 : jfk shJ 36 2 3 0 := ⟨by decide, _, rfl, rfl⟩
theorem o_36_4 : jfk shJ 36 2 4 49 := ⟨by decide, _, rfl, rfl⟩
theorem r_36_4 : jft shJ 36 2 4 39 := ⟨49, o_36_4, by decide, by decide⟩
theorem o_36_5 : jfk shJ 36 2 5 50 := ⟨by decide, _, rfl, rfl⟩
theorem r_36_5 : jft shJ 36 2 5 40 := ⟨50, o_36_5, by decide, by decide⟩
theorem o_36_6 : jfk shJ 36 2 6 51 := ⟨by decide, _, rfl, rfl⟩
theorem r_36_6 : jft shJ 36 2 6 41 := ⟨51, o_36_6, by decide, by decide⟩
theorem o_36_7 : jfk shJ 36 2 7 52 := ⟨by decide, _, rfl, rfl⟩
theorem r_36_7 : jft shJ 36 2 7 42 := ⟨52, o_36_7, by decide, by decide⟩
theorem o_36_8 : jfk shJ 36 2 8 53 := ⟨by decide, _, rfl, rfl⟩
theorem r_36_8 : jft shJ 36 2 8 43 := ⟨53, o_36_8, by decide, by decide⟩
theorem ob_36 : (0 : Int) ≤ 36 ∧ shJ[(36 : Int).toNat]? = some (.inr (2, [0, 47, 48, 0, 49, 50, 51, 52, 53])) := ⟨by decide, rfl⟩
theorem a_37 : jar shJ 37 0 5 := ⟨by decide, by decide, rfl⟩
theorem a_38 : jar shJ 38 0 6 := ⟨by decide, by decide, rfl⟩
theorem a_39 : jar shJ 39 0 20 := ⟨by decide, by decide, rfl⟩
theorem a_40 : jar shJ 40 0 20 := ⟨by decide, by decide, rfl⟩
theorem a_41 : jar shJ 41 0 20 := ⟨by decide, by decide, rfl⟩
theorem a_42 : jar shJ 42 4 20 := ⟨by decide, by decide, rfl⟩
theorem a_43 : jar shJ 43 0 20 := ⟨by decide, by decide, rfl⟩
theorem o_44_0 : jfk shJ 44 6 0 0 := ⟨by decide, _, rfl, rfl⟩
theorem o_44_1 : jfk shJ 44 6 1 0 := ⟨by decide, _, rfl, rfl⟩
theorem o_44_2 : jfk shJ 44 6 2 0 := ⟨by decide, _, rfl, rfl⟩
theorem o_44_3 : jfk shJ 44 6 3 55 := ⟨by decide, _, rfl, rfl⟩
theorem r_44_3 : jft shJ 44 6 3 45 := ⟨55, o_44_3, by decide, by decide⟩
theorem o_44_4 : jfk shJ 44 6 4 56 := ⟨by decide, _, rfl, rfl⟩
theorem r_44_4 : jft shJ 44 6 4 46 := ⟨56, o_44_4, by decide, by decide⟩
theorem ob_44 : (0 : Int) ≤ 44 ∧ shJ[(44 : Int).toNat]? = some (.inr (6, [0, 0, 0, 55, 56])) := ⟨by decide, rfl⟩
theorem a_45 : jar shJ 45 0 81 := ⟨by decide, by decide, rfl⟩
theorem a_46 : jar shJ 46 0 384 := ⟨by decide, by decide, rfl⟩
theorem o_71_0 : jfk shJ 71 5 0 0 := ⟨by decide, _, rfl, rfl⟩
theorem o_71_1 : jfk shJ 71 5 1 82 := ⟨by decide, _, rfl, rfl⟩
theorem r_71_1 : jft shJ 71 5 1 72 := ⟨82, o_71_1, by decide, by decide⟩
theorem o_71_2 : jfk shJ 71 5 2 0 := ⟨by decide, _, rfl, rfl⟩
theorem o_71_3 : jfk shJ 71 5 3 0 := ⟨by decide, _, rfl, rfl⟩
theorem o_71_4 : jfk shJ 71 5 4 0 := ⟨by decide, _, rfl, rfl⟩
theorem o_71_5 : jfk shJ 71 5 5 0 := ⟨by decide, _, rfl, rfl⟩
theorem o_71_6 : jfk shJ 71 5 6 2 := ⟨by decide, _, rfl, rfl⟩
theorem o_71_7 : jfk shJ 71 5 7 0 := ⟨by decide, _, rfl, rfl⟩
theorem o_71_8 : jfk shJ 71 5 8 83 := ⟨by decide, _, rfl, rfl⟩
theorem r_71_8 : jft shJ 71 5 8 73 := ⟨83, o_71_8, by decide, by decide⟩
theorem o_71_9 : jfk shJ 71 5 9 0 := ⟨by decide, _, rfl, rfl⟩
theorem ob_71 : (0 : Int) ≤ 71 ∧ shJ[(71 : Int).toNat]? = some (.inr (5, [0, 82, 0, 0, 0, 0, 2, 0, 83, 0])) := ⟨by decide, rfl⟩
theorem a_72 : jar shJ 72 3 900 := ⟨by decide, by decide, rfl⟩
theorem a_73 : jar shJ 73 0 64 := ⟨by decide, by decide, rfl⟩
theorem o_74_0 : jfk shJ 74 9 0 0 := ⟨by decide, _, rfl, rfl⟩
theorem o_74_1 : jfk shJ 74 9 1 1 := ⟨by decide, _, rfl, rfl⟩
theorem o_74_2 : jfk shJ 74 9 2 85 := ⟨by decide, _, rfl, rfl⟩
theorem r_74_2 : jft shJ 74 9 2 75 := ⟨85, o_74_2, by decide, by decide⟩
theorem o_74_3 : jfk shJ 74 9 3 0 := ⟨by decide, _, rfl, rfl⟩
theorem o_74_4 : jfk shJ 74 9 4 86 := ⟨by decide, _, rfl, rfl⟩
theorem r_74_4 : jft shJ 74 9 4 76 := ⟨86, o_74_4, by decide, by decide⟩
theorem o_74_5 : jfk shJ 74 9 5 87 := ⟨by decide, _, rfl, rfl⟩
theorem r_74_5 : jft shJ 74 9 5 77 := ⟨87, o_74_5, by decide, by decide⟩
theorem o_74_6 : jfk shJ 74 9 6 88 := ⟨by decide, _, rfl, rfl⟩
theorem r_74_6 : jft shJ 74 9 6 78 := ⟨88, o_74_6, by decide, by decide⟩
theorem o_74_7 : jfk shJ 74 9 7 89 := ⟨by decide, _, rfl, rfl⟩
theorem r_74_7 : jft shJ 74 9 7 79 := ⟨89, o_74_7, by decide, by decide⟩
theorem o_74_8 : jfk shJ 74 9 8 0 := ⟨by decide, _, rfl, rfl⟩
theorem o_74_9 : jfk shJ 74 9 9 90 := ⟨by decide, _, rfl, rfl⟩
theorem r_74_9 : jft shJ 74 9 9 80 := ⟨90, o_74_9, by decide, by decide⟩
theorem o_74_10 : jfk shJ 74 9 10 91 := ⟨by decide, _, rfl, rfl⟩
theorem r_74_10 : jft shJ 74 9 10 81 := ⟨91, o_74_10, by decide, by decide⟩
theorem o_74_11 : jfk shJ 74 9 11 92 := ⟨by decide, _, rfl, rfl⟩
theorem r_74_11 : jft shJ 74 9 11 82 := ⟨92, o_74_11, by decide, by decide⟩
theorem o_74_12 : jfk shJ 74 9 12 93 := ⟨by decide, _, rfl, rfl⟩
theorem r_74_12 : jft shJ 74 9 12 83 := ⟨93, o_74_12, by decide, by decide⟩
theorem o_74_13 : jfk shJ 74 9 13 94 := ⟨by decide, _, rfl, rfl⟩
theorem r_74_13 : jft shJ 74 9 13 84 := ⟨94, o_74_13, by decide, by decide⟩
theorem o_74_14 : jfk shJ 74 9 14 0 := ⟨by decide, _, rfl, rfl⟩
theorem o_74_15 : jfk shJ 74 9 15 0 := ⟨by decide, _, rfl, rfl⟩
theorem o_74_16 : jfk shJ 74 9 16 0 := ⟨by decide, _, rfl, rfl⟩
theorem o_74_17 : jfk shJ 74 9 17 0 := ⟨by decide, _, rfl, rfl⟩
theorem o_74_18 : jfk shJ 74 9 18 0 := ⟨by decide, _, rfl, rfl⟩
theorem o_74_19 : jfk shJ 74 9 19 0 := ⟨by decide, _, rfl, rfl⟩
theorem o_74_20 : jfk shJ 74 9 20 0 := ⟨by decide, _, rfl, rfl⟩
theorem o_74_21 : jfk shJ 74 9 21 0 := ⟨by decide, _, rfl, rfl⟩
theorem o_74_22 : jfk shJ 74 9 22 95 := ⟨by decide, _, rfl, rfl⟩
theorem r_74_22 : jft shJ 74 9 22 85 := ⟨95, o_74_22, by decide, by decide⟩
theorem o_74_23 : jfk shJ 74 9 23 96 := ⟨by decide, _, rfl, rfl⟩
theorem r_74_23 : jft shJ 74 9 23 86 := ⟨96, o_74_23, by decide, by decide⟩
theorem o_74_24 : jfk shJ 74 9 24 0 := ⟨by decide, _, rfl, rfl⟩
theorem o_74_25 : jfk shJ 74 9 25 97 := ⟨by decide, _, rfl, rfl⟩
theorem r_74_25 : jft shJ 74 9 25 87 := ⟨97, o_74_25, by decide, by decide⟩
theorem o_74_26 : jfk shJ 74 9 26 98 := ⟨by decide, _, rfl, rfl⟩
theorem r_74_26 : jft shJ 74 9 26 88 := ⟨98, o_74_26, by decide, by decide⟩
theorem o_74_27 : jfk shJ 74 9 27 0 := ⟨by decide, _, rfl, rfl⟩
theorem o_74_28 : jfk shJ 74 9 28 99 := ⟨by decide, _, rfl, rfl⟩
theorem r_74_28 : jft shJ 74 9 28 89 := ⟨99, o_74_28, by decide, by decide⟩
theorem o_74_29 : jfk shJ 74 9 29 100 := ⟨by decide, _, rfl, rfl⟩
theorem r_74_29 : jft shJ 74 9 29 90 := ⟨100, o_74_29, by decide, by decide⟩
theorem o_74_30 : jfk shJ 74 9 30 101 := ⟨by decide, _, rfl, rfl⟩
theorem r_74_30 : jft shJ 74 9 30 91 := ⟨101, o_74_30, by decide, by decide⟩
theorem o_74_31 : jfk shJ 74 9 31 102 := ⟨by decide, _, rfl, rfl⟩
theorem r_74_31 : jft shJ 74 9 31 92 := ⟨102, o_74_31, by decide, by decide⟩
theorem o_74_32 : jfk shJ 74 9 32 103 := ⟨by decide, _, rfl, rfl⟩
theorem r_74_32 : jft shJ 74 9 32 93 := ⟨103, o_74_32, by decide, by decide⟩
theorem o_74_33 : jfk shJ 74 9 33 104 := ⟨by decide, _, rfl, rfl⟩
theorem r_74_33 : jft shJ 74 9 33 94 := ⟨104, o_74_33, by decide, by decide⟩
theorem o_74_34 : jfk shJ 74 9 34 105 := ⟨by decide, _, rfl, rfl⟩
theorem r_74_34 : jft shJ 74 9 34 95 := ⟨105, o_74_34, by decide, by decide⟩
theorem o_74_35 : jfk shJ 74 9 35 106 := ⟨by decide, _, rfl, rfl⟩
theorem r_74_35 : jft shJ 74 9 35 96 := ⟨106, o_74_35, by decide, by decide⟩
theorem o_74_36 : jfk shJ 74 9 36 107 := ⟨by decide, _, rfl, rfl⟩
theorem r_74_36 : jft shJ 74 9 36 97 := ⟨107, o_74_36, by decide, by decide⟩
theorem o_74_37 : jfk shJ 74 9 37 108 := ⟨by decide, _, rfl, rfl⟩
theorem r_74_37 : jft shJ 74 9 37 98 := ⟨108, o_74_37, by decide, by decide⟩
theorem o_74_38 : jfk shJ 74 9 38 0 := ⟨by decide, _, rfl, rfl⟩
theorem o_74_39 : jfk shJ 74 9 39 109 := ⟨by decide, _, rfl, rfl⟩
theorem r_74_39 : jft shJ 74 9 39 99 := ⟨109, o_74_39, by decide, by decide⟩
theorem o_74_40 : jfk shJ 74 9 40 110 := ⟨by decide, _, rfl, rfl⟩
theorem r_74_40 : jft shJ 74 9 40 100 := ⟨110, o_74_40, by decide, by decide⟩
theorem o_74_41 : jfk shJ 74 9 41 0 := ⟨by decide, _, rfl, rfl⟩
theorem o_74_42 : jfk shJ 74 9 42 111 := ⟨by decide, _, rfl, rfl⟩
theorem r_74_42 : jft shJ 74 9 42 101 := ⟨111, o_74_42, by decide, by decide⟩
theorem o_74_43 : jfk shJ 74 9 43 112 := ⟨by decide, _, rfl, rfl⟩
theorem r_74_43 : jft shJ 74 9 43 102 := ⟨112, o_74_43, by decide, by decide⟩
theorem o_74_44 : jfk shJ 74 9 44 113 := ⟨by decide, _, rfl, rfl⟩
theorem r_74_44 : jft shJ 74 9 44 103 := ⟨113, o_74_44, by decide, by decide⟩
theorem o_74_45 : jfk shJ 74 9 45 114 := ⟨by decide, _, rfl, rfl⟩
theorem r_74_45 : jft shJ 74 9 45 104 := ⟨114, o_74_45, by decide, by decide⟩
theorem o_74_46 : jfk shJ 74 9 46 115 := ⟨by decide, _, rfl, rfl⟩
theorem r_74_46 : jft shJ 74 9 46 105 := ⟨115, o_74_46, by decide, by decide⟩
theorem o_74_47 : jfk shJ 74 9 47 116 := ⟨by decide, _, rfl, rfl⟩
theorem r_74_47 : jft shJ 74 9 47 106 := ⟨116, o_74_47, by decide, by decide⟩
theorem o_74_48 : jfk shJ 74 9 48 117 := ⟨by decide, _, rfl, rfl⟩
theorem r_74_48 : jft shJ 74 9 48 107 := ⟨117, o_74_48, by decide, by decide⟩
theorem o_74_49 : jfk shJ 74 9 49 118 := ⟨by decide, _, rfl, rfl⟩
theorem r_74_49 : jft shJ 74 9 49 108 := ⟨118, o_74_49, by decide, by decide⟩
theorem o_74_50 : jfk shJ 74 9 50 119 := ⟨by decide, _, rfl, rfl⟩
theorem r_74_50 : jft shJ 74 9 50 109 := ⟨119, o_74_50, by decide, by decide⟩
theorem o_74_51 : jfk shJ 74 9 51 120 := ⟨by decide, _, rfl, rfl⟩
theorem r_74_51 : jft shJ 74 9 51 110 := ⟨120, o_74_51, by decide, by decide⟩
theorem ob_74 : (0 : Int) ≤ 74 ∧ shJ[(74 : Int).toNat]? = some (.inr (9, [0, 1, 85, 0, 86, 87, 88, 89, 0, 90, 91, 92, 93, 94, 0, 0, 0, 0, 0, 0, 0, 0, 95, 96, 0, 97, 98, 0, 99, 100, 101, 102, 103, 104, 105, 106, 107, 108, 0, 109, 110, 0, 111, 112, 113, 114, 115, 116, 117, 118, 119, 120])) := ⟨by decide, rfl⟩
theorem a_75 : jar shJ 75 1 16 := ⟨by decide, by decide, rfl⟩
theorem a_76 : jar shJ 76 0 6 := ⟨by decide, by decide, rfl⟩
theorem a_77 : jar shJ 77 0 6 := ⟨by decide, by decide, rfl⟩
theorem a_78 : jar shJ 78 0 6 := ⟨by decide, by decide, rfl⟩
theorem a_79 : jar shJ 79 0 6 := ⟨by decide, by decide, rfl⟩
theorem a_80 : jar shJ 80 0 24 := ⟨by decide, by decide, rfl⟩
theorem a_81 : jar shJ 81 0 24 := ⟨by decide, by decide, rfl⟩
theorem a_82 : jar shJ 82 0 24 := ⟨by decide, by decide, rfl⟩
theorem a_83 : jar shJ 83 0 216 := ⟨by decide, by decide, rfl⟩
theorem a_84 : jar shJ 84 0 900 := ⟨by decide, by decide, rfl⟩
theorem a_85 : jar shJ 85 0 640 := ⟨by decide, by decide, rfl⟩
theorem a_86 : jar shJ 86 0 4000 := ⟨by decide, by decide, rfl⟩
theorem a_87 : jar shJ 87 0 1000 := ⟨by decide, by decide, rfl⟩
theorem a_88 : jar shJ 88 0 64 := ⟨by decide, by decide, rfl⟩
theorem a_89 : jar shJ 89 0 60 := ⟨by decide, by decide, rfl⟩
theorem a_90 : jar shJ 90 0 60 := ⟨by decide, by decide, rfl⟩
theorem a_91 : jar shJ 91 0 60 := ⟨by decide, by decide, rfl⟩
theorem a_92 : jar shJ 92 0 60 := ⟨by decide, by decide, rfl⟩
theorem a_93 : jar shJ 93 0 60 := ⟨by decide, by decide, rfl⟩
theorem a_94 : jar shJ 94 0 6 := ⟨by decide, by decide, rfl⟩
theorem a_95 : jar shJ 95 0 24 := ⟨by decide, by decide, rfl⟩
theorem a_96 : jar shJ 96 0 24 := ⟨by decide, by decide, rfl⟩
theorem a_97 : jar shJ 97 0 6 := ⟨by decide, by decide, rfl⟩
theorem a_98 : jar shJ 98 0 6 := ⟨by decide, by decide, rfl⟩
theorem a_99 : jar shJ 99 0 5 := ⟨by decide, by decide, rfl⟩
theorem a_100 : jar shJ 100 0 6 := ⟨by decide, by decide, rfl⟩
theorem a_101 : jar shJ 101 0 20 := ⟨by decide, by decide, rfl⟩
theorem a_102 : jar shJ 102 0 20 := ⟨by decide, by decide, rfl⟩
theorem a_103 : jar shJ 103 0 20 := ⟨by decide, by decide, rfl⟩
theorem a_104 : jar shJ 104 0 20 := ⟨by decide, by decide, rfl⟩
theorem a_105 : jar shJ 105 4 20 := ⟨by decide, by decide, rfl⟩
theorem a_106 : jar shJ 106 0 81 := ⟨by decide, by decide, rfl⟩
theorem a_107 : jar shJ 107 0 60 := ⟨by decide, by decide, rfl⟩
theorem a_108 : jar shJ 108 0 384 := ⟨by decide, by decide, rfl⟩
theorem a_109 : jar shJ 109 1 140 := ⟨by decide, by decide, rfl⟩
theorem a_110 : jar shJ 110 1 140 := ⟨by decide, by decide, rfl⟩
theorem oa_0 {f : Int} (h : jA f) : jfk shJ f 0 0 0 := by rcases h with rfl | rfl <;> exact ⟨by decide, _, rfl, rfl⟩
theorem oa_1 {f : Int} (h : jA f) : jfk shJ f 0 1 (f + 11).toNat := by rcases h with rfl | rfl <;> exact ⟨by decide, _, rfl, rfl⟩
theorem oa_2 {f : Int} (h : jA f) : jfk shJ f 0 2 (f + 12).toNat := by rcases h with rfl | rfl <;> exact ⟨by decide, _, rfl, rfl⟩
theorem oa_3 {f : Int} (h : jA f) : jfk shJ f 0 3 (f + 13).toNat := by rcases h with rfl | rfl <;> exact ⟨by decide, _, rfl, rfl⟩
theorem oa_4 {f : Int} (h : jA f) : jfk shJ f 0 4 (f + 14).toNat := by rcases h with rfl | rfl <;> exact ⟨by decide, _, rfl, rfl⟩
theorem oa_5 {f : Int} (h : jA f) : jfk shJ f 0 5 (f + 15).toNat := by rcases h with rfl | rfl <;> exact ⟨by decide, _, rfl, rfl⟩
theorem oa_6 {f : Int} (h : jA f) : jfk shJ f 0 6 (f + 16).toNat := by rcases h with rfl | rfl <;> exact ⟨by decide, _, rfl, rfl⟩
theorem oa_7 {f : Int} (h : jA f) : jfk shJ f 0 7 (f + 17).toNat := by rcases h with rfl | rfl <;> exact ⟨by decide, _, rfl, rfl⟩
theorem oa_8 {f : Int} (h : jA f) : jfk shJ f 0 8 (f + 18).toNat := by rcases h with rfl | rfl <;> exact ⟨by decide, _, rfl, rfl⟩
theorem oa_9 {f : Int} (h : jA f) : jfk shJ f 0 9 0 := by rcases h with rfl | rfl <;> exact ⟨by decide, _, rfl, rfl⟩
theorem oa_10 {f : Int} (h : jA f) : jfk shJ f 0 10 (f + 19).toNat := by rcases h with rfl | rfl <;> exact ⟨by decide, _, rfl, rfl⟩
theorem oa_11 {f : Int} (h : jA f) : jfk shJ f 0 11 (f + 20).toNat := by rcases h with rfl | rfl <;> exact ⟨by decide, _, rfl, rfl⟩
theorem oa_12 {f : Int} (h : jA f) : jfk shJ f 0 12 (f + 21).toNat := by rcases h with rfl | rfl <;> exact ⟨by decide, _, rfl, rfl⟩
theorem oa_13 {f : Int} (h : jA f) : jfk shJ f 0 13 0 := by rcases h with rfl | rfl <;> exact ⟨by decide, _, rfl, rfl⟩
theorem oa_14 {f : Int} (h : jA f) : jfk shJ f 0 14 19 := by rcases h with rfl | rfl <;> exact ⟨by decide, _, rfl, rfl⟩
theorem oa_15 {f : Int} (h : jA f) : jfk shJ f 0 15 11 := by rcases h with rfl | rfl <;> exact ⟨by decide, _, rfl, rfl⟩
theorem ra_1 {f : Int} (h : jA f) : jft shJ f 0 1 (f + 1) := ⟨(f + 11).toNat, oa_1 h, by rcases h with rfl | rfl <;> decide, by rcases h with rfl | rfl <;> decide⟩
theorem ra_2 {f : Int} (h : jA f) : jft shJ f 0 2 (f + 2) := ⟨(f + 12).toNat, oa_2 h, by rcases h with rfl | rfl <;> decide, by rcases h with rfl | rfl <;> decide⟩
theorem ra_3 {f : Int} (h : jA f) : jft shJ f 0 3 (f + 3) := ⟨(f + 13).toNat, oa_3 h, by rcases h with rfl | rfl <;> decide, by rcases h with rfl | rfl <;> decide⟩
theorem ra_4 {f : Int} (h : jA f) : jft shJ f 0 4 (f + 4) := ⟨(f + 14).toNat, oa_4 h, by rcases h with rfl | rfl <;> decide, by rcases h with rfl | rfl <;> decide⟩
theorem ra_5 {f : Int} (h : jA f) : jft shJ f 0 5 (f + 5) := ⟨(f + 15).toNat, oa_5 h, by rcases h with rfl | rfl <;> decide, by rcases h with rfl | rfl <;> decide⟩
theorem ra_6 {f : Int} (h : jA f) : jft shJ f 0 6 (f + 6) := ⟨(f + 16).toNat, oa_6 h, by rcases h with rfl | rfl <;> decide, by rcases h with rfl | rfl <;> decide⟩
theorem ra_7 {f : Int} (h : jA f) : jft shJ f 0 7 (f + 7) := ⟨(f + 17).toNat, oa_7 h, by rcases h with rfl | rfl <;> decide, by rcases h with rfl | rfl <;> decide⟩
theorem ra_8 {f : Int} (h : jA f) : jft shJ f 0 8 (f + 8) := ⟨(f + 18).toNat, oa_8 h, by rcases h with rfl | rfl <;> decide, by rcases h with rfl | rfl <;> decide⟩
theorem ra_10 {f : Int} (h : jA f) : jft shJ f 0 10 (f + 9) := ⟨(f + 19).toNat, oa_10 h, by rcases h with rfl | rfl <;> decide, by rcases h with rfl | rfl <;> decide⟩
theorem ra_11 {f : Int} (h : jA f) : jft shJ f 0 11 (f + 10) := ⟨(f + 20).toNat, oa_11 h, by rcases h with rfl | rfl <;> decide, by rcases h with rfl | rfl <;> decide⟩
theorem ra_12 {f : Int} (h : jA f) : jft shJ f 0 12 (f + 11) := ⟨(f + 21).toNat, oa_12 h, by rcases h with rfl | rfl <;> decide, by rcases h with rfl | rfl <;> decide⟩
theorem ra_14 {f : Int} (h : jA f) : jft shJ f 0 14 9 := ⟨19, oa_14 h, by rcases h with rfl | rfl <;> decide, by rcases h with rfl | rfl <;> decide⟩
theorem ra_15 {f : Int} (h : jA f) : jft shJ f 0 15 1 := ⟨11, oa_15 h, by rcases h with rfl | rfl <;> decide, by rcases h with rfl | rfl <;> decide⟩
theorem oba {f : Int} (h : jA f) : 0 ≤ f ∧ shJ[f.toNat]? = some (.inr (0, [0, (f + 11).toNat, (f + 12).toNat, (f + 13).toNat, (f + 14).toNat, (f + 15).toNat, (f + 16).toNat, (f + 17).toNat, (f + 18).toNat, 0, (f + 19).toNat, (f + 20).toNat, (f + 21).toNat, 0, 19, 11])) := by rcases h with rfl | rfl <;> exact ⟨by decide, rfl⟩
theorem aa_1 {f : Int} (h : jA f) : jar shJ (f + 1) 0 16 := by rcases h with rfl | rfl <;> exact ⟨by decide, by decide, rfl⟩
theorem aa_2 {f : Int} (h : jA f) : jar shJ (f + 2) 0 16 := by rcases h with rfl | rfl <;> exact ⟨by decide, by decide, rfl⟩
theorem aa_3 {f : Int} (h : jA f) : jar shJ (f + 3) 0 16 := by rcases h with rfl | rfl <;> exact ⟨by decide, by decide, rfl⟩
theorem aa_4 {f : Int} (h : jA f) : jar shJ (f + 4) 0 16 := by rcases h with rfl | rfl <;> exact ⟨by decide, by decide, rfl⟩
theorem aa_5 {f : Int} (h : jA f) : jar shJ (f + 5) 0 16 := by rcases h with rfl | rfl <;> exact ⟨by decide, by decide, rfl⟩
theorem aa_6 {f : Int} (h : jA f) : jar shJ (f + 6) 0 112 := by rcases h with rfl | rfl <;> exact ⟨by decide, by decide, rfl⟩
theorem aa_7 {f : Int} (h : jA f) : jar shJ (f + 7) 0 16 := by rcases h with rfl | rfl <;> exact ⟨by decide, by decide, rfl⟩
theorem aa_8 {f : Int} (h : jA f) : jar shJ (f + 8) 0 16 := by rcases h with rfl | rfl <;> exact ⟨by decide, by decide, rfl⟩
theorem aa_9 {f : Int} (h : jA f) : jar shJ (f + 9) 0 900 := by rcases h with rfl | rfl <;> exact ⟨by decide, by decide, rfl⟩
theorem aa_10 {f : Int} (h : jA f) : jar shJ (f + 10) 0 64 := by rcases h with rfl | rfl <;> exact ⟨by decide, by decide, rfl⟩
theorem aa_11 {f : Int} (h : jA f) : jar shJ (f + 11) 0 16 := by rcases h with rfl | rfl <;> exact ⟨by decide, by decide, rfl⟩
abbrev D_J0_charAt_5068e : jD := (RJ0, cJ0_charAt_5068e, 2, (some .char), { frames := 3, cells := 0, slots := 0, locals := 64 }, false)
abbrev D_J0_checkIndex_df160 : jD := (RJ0, cJ0_checkIndex_df160, 2, none, { frames := 1, cells := 0, slots := 0, locals := 22 }, false)
abbrev D_J0_coder_7d493 : jD := (RJ0, cJ0_coder_7d493, 1, (some .byte), { frames := 0, cells := 0, slots := 0, locals := 0 }, false)
abbrev D_J0_isLatin1_aae02 : jD := (RJ0, cJ0_isLatin1_aae02, 1, (some .boolean), { frames := 0, cells := 0, slots := 0, locals := 0 }, false)
abbrev D_J0_length_8abf5 : jD := (RJ0, cJ0_length_8abf5, 1, (some .int), { frames := 1, cells := 0, slots := 0, locals := 20 }, false)
abbrev D_J1_charAt_3b067 : jD := (RJ1, cJ1_charAt_3b067, 2, (some .char), { frames := 2, cells := 0, slots := 0, locals := 43 }, false)
abbrev D_J2_charAt_3b067 : jD := (RJ2, cJ2_charAt_3b067, 2, (some .char), { frames := 0, cells := 0, slots := 0, locals := 0 }, false)
abbrev D_J2_checkIndex_2214a : jD := (RJ2, cJ2_checkIndex_2214a, 2, none, { frames := 2, cells := 0, slots := 0, locals := 43 }, false)
abbrev D_J2_getChar_3b067 : jD := (RJ2, cJ2_getChar_3b067, 2, (some .char), { frames := 0, cells := 0, slots := 0, locals := 0 }, false)
abbrev D_J2_length_9d52b : jD := (RJ2, cJ2_length_9d52b, 1, (some .int), { frames := 0, cells := 0, slots := 0, locals := 0 }, false)
abbrev D_J3_checkIndex_8e157 : jD := (RJ3, cJ3_checkIndex_8e157, 3, (some .int), { frames := 0, cells := 0, slots := 0, locals := 0 }, false)
abbrev D_J6_bitCount_0f7a4 : jD := (RJ6, cJ6_bitCount_0f7a4, 1, (some .int), { frames := 0, cells := 0, slots := 0, locals := 0 }, false)
abbrev D_J9_max_7cf53 : jD := (RJ9, cJ9_max_7cf53, 2, (some .int), { frames := 0, cells := 0, slots := 0, locals := 0 }, false)
abbrev D_J9_min_7cf53 : jD := (RJ9, cJ9_min_7cf53, 2, (some .int), { frames := 0, cells := 0, slots := 0, locals := 0 }, false)
abbrev D_X0_add : jD := (RX0, cX0_add, 5, none, { frames := 0, cells := 0, slots := 0, locals := 0 }, false)
abbrev D_X0_addStep : jD := (RX0, cX0_addStep, 3, none, { frames := 0, cells := 0, slots := 0, locals := 0 }, false)
abbrev D_X0_ask : jD := (RX0, cX0_ask, 5, none, { frames := 3, cells := 0, slots := 0, locals := 76 }, false)
abbrev D_X0_asked : jD := (RX0, cX0_asked, 7, (some .int), { frames := 1, cells := 0, slots := 0, locals := 23 }, false)
abbrev D_X0_binding : jD := (RX0, cX0_binding, 8, (some .int), { frames := 2, cells := 0, slots := 0, locals := 49 }, false)
abbrev D_X0_countDuty : jD := (RX0, cX0_countDuty, 1, none, { frames := 0, cells := 0, slots := 0, locals := 0 }, false)
abbrev D_X0_find : jD := (RX0, cX0_find, 3, (some .int), { frames := 0, cells := 0, slots := 0, locals := 0 }, false)
abbrev D_X0_firstQuarrel : jD := (RX0, cX0_firstQuarrel, 3, (some .int), { frames := 2, cells := 0, slots := 0, locals := 45 }, false)
abbrev D_X0_forget : jD := (RX0, cX0_forget, 1, none, { frames := 0, cells := 0, slots := 0, locals := 0 }, false)
abbrev D_X0_init : jD := (RX0, cX0_init, 3, none, { frames := 1, cells := 11, slots := 1204, locals := 20 }, true)
abbrev D_X0_knows : jD := (RX0, cX0_knows, 2, (some .boolean), { frames := 0, cells := 0, slots := 0, locals := 0 }, false)
abbrev D_X0_reason : jD := (RX0, cX0_reason, 7, (some .int), { frames := 2, cells := 0, slots := 0, locals := 49 }, false)
abbrev D_X0_speaks : jD := (RX0, cX0_speaks, 4, (some .boolean), { frames := 0, cells := 0, slots := 0, locals := 0 }, false)
abbrev D_X0_startsTooLate : jD := (RX0, cX0_startsTooLate, 3, (some .boolean), { frames := 1, cells := 0, slots := 0, locals := 23 }, false)
abbrev D_X0_strike : jD := (RX0, cX0_strike, 3, none, { frames := 0, cells := 0, slots := 0, locals := 0 }, false)
abbrev D_X0_tell : jD := (RX0, cX0_tell, 3, none, { frames := 0, cells := 0, slots := 0, locals := 0 }, false)
abbrev D_X0_tellsLast : jD := (RX0, cX0_tellsLast, 2, (some .boolean), { frames := 0, cells := 0, slots := 0, locals := 0 }, false)
abbrev D_X0_test : jD := (RX0, cX0_test, 8, (some .int), { frames := 1, cells := 0, slots := 0, locals := 22 }, false)
abbrev D_X0_value : jD := (RX0, cX0_value, 2, (some .int), { frames := 0, cells := 0, slots := 0, locals := 0 }, false)
abbrev D_X1_add : jD := (RX1, cX1_add, 6, (some .int), { frames := 0, cells := 0, slots := 0, locals := 0 }, false)
abbrev D_X1_bothIn : jD := (RX1, cX1_bothIn, 3, (some .boolean), { frames := 1, cells := 0, slots := 0, locals := 21 }, false)
abbrev D_X1_clashes : jD := (RX1, cX1_clashes, 4, (some .int), { frames := 2, cells := 0, slots := 0, locals := 43 }, false)
abbrev D_X1_init : jD := (RX1, cX1_init, 2, none, { frames := 1, cells := 11, slots := 612, locals := 20 }, true)
abbrev D_X1_isPeaceful : jD := (RX1, cX1_isPeaceful, 4, (some .boolean), { frames := 0, cells := 0, slots := 0, locals := 0 }, false)
abbrev D_X1_lasts : jD := (RX1, cX1_lasts, 4, (some .int), { frames := 1, cells := 0, slots := 0, locals := 21 }, false)
abbrev D_X1_leastDoubted : jD := (RX1, cX1_leastDoubted, 5, (some .int), { frames := 2, cells := 0, slots := 0, locals := 43 }, false)
abbrev D_X1_leaves : jD := (RX1, cX1_leaves, 8, (some .boolean), { frames := 0, cells := 0, slots := 0, locals := 0 }, false)
abbrev D_X1_longestAt : jD := (RX1, cX1_longestAt, 5, (some .int), { frames := 2, cells := 0, slots := 0, locals := 44 }, false)
abbrev D_X1_pick : jD := (RX1, cX1_pick, 4, none, { frames := 2, cells := 0, slots := 0, locals := 52 }, false)
abbrev D_X1_pickedAt : jD := (RX1, cX1_pickedAt, 3, (some .boolean), { frames := 0, cells := 0, slots := 0, locals := 0 }, false)
abbrev D_X1_schooled : jD := (RX1, cX1_schooled, 3, (some .int), { frames := 2, cells := 0, slots := 0, locals := 44 }, false)
abbrev D_X1_worked : jD := (RX1, cX1_worked, 4, (some .int), { frames := 2, cells := 0, slots := 0, locals := 44 }, false)
abbrev D_X2_addBench : jD := (RX2, cX2_addBench, 2, (some .int), { frames := 0, cells := 0, slots := 0, locals := 0 }, false)
abbrev D_X2_addCase : jD := (RX2, cX2_addCase, 5, (some .int), { frames := 0, cells := 0, slots := 0, locals := 0 }, false)
abbrev D_X2_benchFor : jD := (RX2, cX2_benchFor, 3, (some .int), { frames := 0, cells := 0, slots := 0, locals := 0 }, false)
abbrev D_X2_fine : jD := (RX2, cX2_fine, 4, (some .int), { frames := 0, cells := 0, slots := 0, locals := 0 }, false)
abbrev D_X2_finesOf : jD := (RX2, cX2_finesOf, 4, (some .int), { frames := 1, cells := 0, slots := 0, locals := 23 }, false)
abbrev D_X2_init : jD := (RX2, cX2_init, 2, none, { frames := 1, cells := 7, slots := 111, locals := 20 }, true)
abbrev D_X2_knows : jD := (RX2, cX2_knows, 2, (some .boolean), { frames := 0, cells := 0, slots := 0, locals := 0 }, false)
abbrev D_X2_overturn : jD := (RX2, cX2_overturn, 4, (some .int), { frames := 0, cells := 0, slots := 0, locals := 0 }, false)
abbrev D_X2_setBase : jD := (RX2, cX2_setBase, 4, (some .int), { frames := 0, cells := 0, slots := 0, locals := 0 }, false)
abbrev D_X2_standing : jD := (RX2, cX2_standing, 3, (some .int), { frames := 0, cells := 0, slots := 0, locals := 0 }, false)
abbrev D_X3_add : jD := (RX3, cX3_add, 3, (some .int), { frames := 0, cells := 0, slots := 0, locals := 0 }, false)
abbrev D_X3_addPaper : jD := (RX3, cX3_addPaper, 5, (some .int), { frames := 2, cells := 0, slots := 0, locals := 44 }, false)
abbrev D_X3_ageFrom : jD := (RX3, cX3_ageFrom, 3, (some .int), { frames := 0, cells := 0, slots := 0, locals := 0 }, false)
abbrev D_X3_ageTo : jD := (RX3, cX3_ageTo, 3, (some .int), { frames := 0, cells := 0, slots := 0, locals := 0 }, false)
abbrev D_X3_customAs : jD := (RX3, cX3_customAs, 5, (some .int), { frames := 0, cells := 0, slots := 0, locals := 0 }, false)
abbrev D_X3_init : jD := (RX3, cX3_init, 1, none, { frames := 1, cells := 6, slots := 144, locals := 20 }, true)
abbrev D_X3_knows : jD := (RX3, cX3_knows, 2, (some .boolean), { frames := 0, cells := 0, slots := 0, locals := 0 }, false)
abbrev D_X3_mostOf : jD := (RX3, cX3_mostOf, 1, (some .int), { frames := 0, cells := 0, slots := 0, locals := 0 }, false)
abbrev D_X3_narrow : jD := (RX3, cX3_narrow, 4, none, { frames := 1, cells := 0, slots := 0, locals := 21 }, false)
abbrev D_X3_traceOf : jD := (RX3, cX3_traceOf, 1, (some .int), { frames := 0, cells := 0, slots := 0, locals := 0 }, false)
abbrev D_X4_add : jD := (RX4, cX4_add, 4, (some .int), { frames := 0, cells := 0, slots := 0, locals := 0 }, false)
abbrev D_X4_addCheck : jD := (RX4, cX4_addCheck, 5, (some .int), { frames := 0, cells := 0, slots := 0, locals := 0 }, false)
abbrev D_X4_checkAhead : jD := (RX4, cX4_checkAhead, 6, (some .int), { frames := 0, cells := 0, slots := 0, locals := 0 }, false)
abbrev D_X4_checkBehind : jD := (RX4, cX4_checkBehind, 6, (some .int), { frames := 0, cells := 0, slots := 0, locals := 0 }, false)
abbrev D_X4_inTruth : jD := (RX4, cX4_inTruth, 8, (some .int), { frames := 1, cells := 0, slots := 0, locals := 25 }, false)
abbrev D_X4_init : jD := (RX4, cX4_init, 1, none, { frames := 1, cells := 7, slots := 78, locals := 20 }, true)
abbrev D_X4_knows : jD := (RX4, cX4_knows, 2, (some .boolean), { frames := 0, cells := 0, slots := 0, locals := 0 }, false)
abbrev D_X5_ageSign : jD := (RX5, cX5_ageSign, 1, (some .int), { frames := 0, cells := 0, slots := 0, locals := 0 }, false)
abbrev D_X5_append : jD := (RX5, cX5_append, 5, (some .int), { frames := 0, cells := 0, slots := 0, locals := 0 }, false)
abbrev D_X5_close : jD := (RX5, cX5_close, 1, none, { frames := 2, cells := 0, slots := 0, locals := 43 }, false)
abbrev D_X5_dutyWord : jD := (RX5, cX5_dutyWord, 1, (some .int), { frames := 5, cells := 0, slots := 0, locals := 107 }, false)
abbrev D_X5_empty : jD := (RX5, cX5_empty, 2, (some .int), { frames := 0, cells := 0, slots := 0, locals := 0 }, false)
abbrev D_X5_init : jD := (RX5, cX5_init, 2, none, { frames := 1, cells := 2, slots := 964, locals := 20 }, true)
abbrev D_X5_isWord : jD := (RX5, cX5_isWord, 3, (some .boolean), { frames := 4, cells := 0, slots := 0, locals := 85 }, false)
abbrev D_X5_readCond : jD := (RX5, cX5_readCond, 4, (some .boolean), { frames := 7, cells := 0, slots := 0, locals := 149 }, false)
abbrev D_X5_readDuties : jD := (RX5, cX5_readDuties, 2, (some .boolean), { frames := 8, cells := 0, slots := 0, locals := 171 }, false)
abbrev D_X5_readDuty : jD := (RX5, cX5_readDuty, 2, (some .boolean), { frames := 7, cells := 0, slots := 0, locals := 150 }, false)
abbrev D_X5_readHead : jD := (RX5, cX5_readHead, 4, (some .boolean), { frames := 6, cells := 0, slots := 0, locals := 128 }, false)
abbrev D_X5_readIf : jD := (RX5, cX5_readIf, 1, (some .boolean), { frames := 8, cells := 0, slots := 0, locals := 172 }, false)
abbrev D_X5_readInto : jD := (RX5, cX5_readInto, 4, (some .int), { frames := 9, cells := 0, slots := 0, locals := 192 }, false)
abbrev D_X5_readSpan : jD := (RX5, cX5_readSpan, 3, (some .boolean), { frames := 6, cells := 0, slots := 0, locals := 128 }, false)
abbrev D_X5_readStrike : jD := (RX5, cX5_readStrike, 3, (some .boolean), { frames := 6, cells := 0, slots := 0, locals := 128 }, false)
abbrev D_X5_readTest : jD := (RX5, cX5_readTest, 3, (some .boolean), { frames := 6, cells := 0, slots := 0, locals := 127 }, false)
abbrev D_X5_readTold : jD := (RX5, cX5_readTold, 5, (some .boolean), { frames := 3, cells := 0, slots := 0, locals := 65 }, false)
abbrev D_X5_release : jD := (RX5, cX5_release, 2, none, { frames := 1, cells := 0, slots := 0, locals := 22 }, false)
abbrev D_X5_step : jD := (RX5, cX5_step, 2, none, { frames := 1, cells := 0, slots := 0, locals := 21 }, false)
abbrev D_X5_takeNumber : jD := (RX5, cX5_takeNumber, 4, (some .int), { frames := 2, cells := 0, slots := 0, locals := 42 }, false)
abbrev D_X5_takeSign : jD := (RX5, cX5_takeSign, 2, (some .boolean), { frames := 2, cells := 0, slots := 0, locals := 42 }, false)
abbrev D_X5_takeWord : jD := (RX5, cX5_takeWord, 2, (some .boolean), { frames := 5, cells := 0, slots := 0, locals := 107 }, false)
abbrev D_X5_testWord : jD := (RX5, cX5_testWord, 1, (some .int), { frames := 5, cells := 0, slots := 0, locals := 107 }, false)
abbrev D_X5_turnNext : jD := (RX5, cX5_turnNext, 1, none, { frames := 1, cells := 0, slots := 0, locals := 21 }, false)
abbrev D_X5_waitFor : jD := (RX5, cX5_waitFor, 2, none, { frames := 0, cells := 0, slots := 0, locals := 0 }, false)
abbrev D_X6_fewestTo : jD := (RX6, cX6_fewestTo, 8, (some .int), { frames := 1, cells := 0, slots := 0, locals := 21 }, false)
abbrev D_X6_init : jD := (RX6, cX6_init, 3, none, { frames := 1, cells := 2, slots := 465, locals := 20 }, true)
abbrev D_X6_seek : jD := (RX6, cX6_seek, 8, none, { frames := 2, cells := 0, slots := 0, locals := 48 }, false)
abbrev D_X6_setHours : jD := (RX6, cX6_setHours, 5, (some .int), { frames := 0, cells := 0, slots := 0, locals := 0 }, false)
abbrev D_X7_init : jD := (RX7, cX7_init, 2, none, { frames := 1, cells := 7, slots := 474, locals := 20 }, true)
abbrev D_X7_isShift : jD := (RX7, cX7_isShift, 9, (some .boolean), { frames := 1, cells := 0, slots := 0, locals := 21 }, false)
abbrev D_X7_leastTable : jD := (RX7, cX7_leastTable, 7, (some .int), { frames := 1, cells := 0, slots := 0, locals := 24 }, false)
abbrev D_X7_needing : jD := (RX7, cX7_needing, 5, (some .int), { frames := 0, cells := 0, slots := 0, locals := 0 }, false)
abbrev D_X7_prepare : jD := (RX7, cX7_prepare, 6, none, { frames := 2, cells := 0, slots := 0, locals := 49 }, false)
abbrev D_X7_setPeriod : jD := (RX7, cX7_setPeriod, 4, (some .int), { frames := 0, cells := 0, slots := 0, locals := 0 }, false)
abbrev D_X7_tables : jD := (RX7, cX7_tables, 8, (some .int), { frames := 1, cells := 0, slots := 0, locals := 24 }, false)
abbrev D_X7_wanted : jD := (RX7, cX7_wanted, 5, (some .int), { frames := 0, cells := 0, slots := 0, locals := 0 }, false)
abbrev D_X7_waysToMakeUp : jD := (RX7, cX7_waysToMakeUp, 12, (some .long), { frames := 1, cells := 0, slots := 0, locals := 21 }, false)
abbrev D_X8_act : jD := (RX8, cX8_act, 3, (some .int), { frames := 10, cells := 0, slots := 0, locals := 215 }, false)
abbrev D_X8_age : jD := (RX8, cX8_age, 4, (some .int), { frames := 2, cells := 0, slots := 0, locals := 42 }, false)
abbrev D_X8_appeal : jD := (RX8, cX8_appeal, 2, (some .int), { frames := 1, cells := 0, slots := 0, locals := 23 }, false)
abbrev D_X8_base : jD := (RX8, cX8_base, 3, (some .int), { frames := 1, cells := 0, slots := 0, locals := 23 }, false)
abbrev D_X8_bench : jD := (RX8, cX8_bench, 2, (some .int), { frames := 1, cells := 0, slots := 0, locals := 22 }, false)
abbrev D_X8_binds : jD := (RX8, cX8_binds, 5, (some .int), { frames := 3, cells := 0, slots := 0, locals := 76 }, false)
abbrev D_X8_born : jD := (RX8, cX8_born, 3, (some .int), { frames := 1, cells := 0, slots := 0, locals := 22 }, false)
abbrev D_X8_breach : jD := (RX8, cX8_breach, 4, (some .int), { frames := 5, cells := 0, slots := 0, locals := 125 }, false)
abbrev D_X8_breaks : jD := (RX8, cX8_breaks, 5, (some .boolean), { frames := 3, cells := 0, slots := 0, locals := 68 }, false)
abbrev D_X8_can : jD := (RX8, cX8_can, 6, (some .int), { frames := 3, cells := 0, slots := 0, locals := 74 }, false)
abbrev D_X8_check : jD := (RX8, cX8_check, 4, (some .int), { frames := 1, cells := 0, slots := 0, locals := 24 }, false)
abbrev D_X8_clash : jD := (RX8, cX8_clash, 3, (some .int), { frames := 3, cells := 0, slots := 0, locals := 75 }, false)
abbrev D_X8_clear : jD := (RX8, cX8_clear, 1, (some .int), { frames := 1, cells := 0, slots := 0, locals := 21 }, false)
abbrev D_X8_count : jD := (RX8, cX8_count, 2, (some .int), { frames := 1, cells := 0, slots := 0, locals := 22 }, false)
abbrev D_X8_custom : jD := (RX8, cX8_custom, 3, (some .int), { frames := 1, cells := 0, slots := 0, locals := 24 }, false)
abbrev D_X8_doubt : jD := (RX8, cX8_doubt, 4, (some .int), { frames := 1, cells := 0, slots := 0, locals := 22 }, false)
abbrev D_X8_doubted : jD := (RX8, cX8_doubted, 5, (some .int), { frames := 3, cells := 0, slots := 0, locals := 75 }, false)
abbrev D_X8_duty : jD := (RX8, cX8_duty, 6, (some .int), { frames := 4, cells := 0, slots := 0, locals := 100 }, false)
abbrev D_X8_fines : jD := (RX8, cX8_fines, 2, (some .int), { frames := 2, cells := 0, slots := 0, locals := 46 }, false)
abbrev D_X8_hand : jD := (RX8, cX8_hand, 3, (some .int), { frames := 1, cells := 0, slots := 0, locals := 22 }, false)
abbrev D_X8_init : jD := (RX8, cX8_init, 1, none, { frames := 2, cells := 73, slots := 5352, locals := 42 }, true)
abbrev D_X8_isDay : jD := (RX8, cX8_isDay, 1, (some .boolean), { frames := 1, cells := 0, slots := 0, locals := 22 }, false)
abbrev D_X8_isPlaced : jD := (RX8, cX8_isPlaced, 4, (some .boolean), { frames := 2, cells := 0, slots := 0, locals := 42 }, false)
abbrev D_X8_line : jD := (RX8, cX8_line, 6, (some .int), { frames := 2, cells := 0, slots := 0, locals := 42 }, false)
abbrev D_X8_lost : jD := (RX8, cX8_lost, 4, (some .long), { frames := 2, cells := 0, slots := 0, locals := 52 }, false)
abbrev D_X8_mill : jD := (RX8, cX8_mill, 4, (some .int), { frames := 1, cells := 0, slots := 0, locals := 23 }, false)
abbrev D_X8_paper : jD := (RX8, cX8_paper, 5, (some .int), { frames := 3, cells := 0, slots := 0, locals := 68 }, false)
abbrev D_X8_period : jD := (RX8, cX8_period, 4, (some .int), { frames := 1, cells := 0, slots := 0, locals := 23 }, false)
abbrev D_X8_quarrel : jD := (RX8, cX8_quarrel, 4, (some .int), { frames := 4, cells := 0, slots := 0, locals := 100 }, false)
abbrev D_X8_road : jD := (RX8, cX8_road, 4, (some .int), { frames := 1, cells := 0, slots := 0, locals := 24 }, false)
abbrev D_X8_rule : jD := (RX8, cX8_rule, 3, (some .int), { frames := 1, cells := 0, slots := 0, locals := 21 }, false)
abbrev D_X8_sue : jD := (RX8, cX8_sue, 6, (some .int), { frames := 5, cells := 0, slots := 0, locals := 125 }, false)
abbrev D_X8_suit : jD := (RX8, cX8_suit, 3, (some .int), { frames := 1, cells := 0, slots := 0, locals := 23 }, false)
abbrev D_X8_trace : jD := (RX8, cX8_trace, 1, (some .long), { frames := 0, cells := 0, slots := 0, locals := 0 }, false)
abbrev D_X8_truth : jD := (RX8, cX8_truth, 4, (some .int), { frames := 2, cells := 0, slots := 0, locals := 52 }, false)
abbrev D_X8_type : jD := (RX8, cX8_type, 4, (some .int), { frames := 1, cells := 0, slots := 0, locals := 24 }, false)
abbrev D_X8_way : jD := (RX8, cX8_way, 3, (some .int), { frames := 3, cells := 0, slots := 0, locals := 75 }, false)
abbrev D_X8_why : jD := (RX8, cX8_why, 6, (some .int), { frames := 4, cells := 0, slots := 0, locals := 100 }, false)
abbrev D_X8_within : jD := (RX8, cX8_within, 3, (some .boolean), { frames := 0, cells := 0, slots := 0, locals := 0 }, false)
abbrev D_X8_work : jD := (RX8, cX8_work, 4, (some .int), { frames := 3, cells := 0, slots := 0, locals := 75 }, false)
abbrev D_X8_worstBreach : jD := (RX8, cX8_worstBreach, 6, (some .int), { frames := 4, cells := 0, slots := 0, locals := 100 }, false)
abbrev D_X9_act : jD := (RX9, cX9_act, 2, (some .int), { frames := 6, cells := 0, slots := 0, locals := 142 }, false)
abbrev D_X9_add : jD := (RX9, cX9_add, 3, (some .long), { frames := 0, cells := 0, slots := 0, locals := 0 }, false)
abbrev D_X9_advances : jD := (RX9, cX9_advances, 6, none, { frames := 2, cells := 0, slots := 0, locals := 42 }, false)
abbrev D_X9_age : jD := (RX9, cX9_age, 4, (some .int), { frames := 2, cells := 0, slots := 0, locals := 52 }, false)
abbrev D_X9_ageOf : jD := (RX9, cX9_ageOf, 4, (some .int), { frames := 1, cells := 0, slots := 0, locals := 29 }, false)
abbrev D_X9_appeal : jD := (RX9, cX9_appeal, 4, (some .int), { frames := 1, cells := 0, slots := 0, locals := 22 }, false)
abbrev D_X9_base : jD := (RX9, cX9_base, 4, (some .int), { frames := 1, cells := 0, slots := 0, locals := 22 }, false)
abbrev D_X9_bench : jD := (RX9, cX9_bench, 2, (some .int), { frames := 1, cells := 0, slots := 0, locals := 22 }, false)
abbrev D_X9_binds : jD := (RX9, cX9_binds, 5, (some .int), { frames := 4, cells := 0, slots := 0, locals := 108 }, false)
abbrev D_X9_bindsOf : jD := (RX9, cX9_bindsOf, 10, (some .int), { frames := 3, cells := 0, slots := 0, locals := 79 }, false)
abbrev D_X9_born : jD := (RX9, cX9_born, 3, (some .int), { frames := 2, cells := 0, slots := 0, locals := 43 }, false)
abbrev D_X9_bornOf : jD := (RX9, cX9_bornOf, 10, (some .int), { frames := 0, cells := 0, slots := 0, locals := 0 }, false)
abbrev D_X9_breach : jD := (RX9, cX9_breach, 4, (some .int), { frames := 7, cells := 0, slots := 0, locals := 190 }, false)
abbrev D_X9_breachOf : jD := (RX9, cX9_breachOf, 7, (some .int), { frames := 6, cells := 0, slots := 0, locals := 164 }, false)
abbrev D_X9_byteAt : jD := (RX9, cX9_byteAt, 2, (some .int), { frames := 0, cells := 0, slots := 0, locals := 0 }, false)
abbrev D_X9_can : jD := (RX9, cX9_can, 14, (some .int), { frames := 1, cells := 0, slots := 0, locals := 29 }, false)
abbrev D_X9_check : jD := (RX9, cX9_check, 4, (some .int), { frames := 2, cells := 0, slots := 0, locals := 43 }, false)
abbrev D_X9_clash : jD := (RX9, cX9_clash, 7, (some .int), { frames := 3, cells := 0, slots := 0, locals := 71 }, false)
abbrev D_X9_clear : jD := (RX9, cX9_clear, 2, (some .int), { frames := 0, cells := 0, slots := 0, locals := 0 }, false)
abbrev D_X9_cond : jD := (RX9, cX9_cond, 11, none, { frames := 4, cells := 0, slots := 0, locals := 90 }, false)
abbrev D_X9_count : jD := (RX9, cX9_count, 4, (some .int), { frames := 0, cells := 0, slots := 0, locals := 0 }, false)
abbrev D_X9_custom : jD := (RX9, cX9_custom, 3, (some .int), { frames := 2, cells := 0, slots := 0, locals := 43 }, false)
abbrev D_X9_customOf : jD := (RX9, cX9_customOf, 5, (some .int), { frames := 0, cells := 0, slots := 0, locals := 0 }, false)
abbrev D_X9_doubt : jD := (RX9, cX9_doubt, 4, (some .int), { frames := 2, cells := 0, slots := 0, locals := 43 }, false)
abbrev D_X9_doubted : jD := (RX9, cX9_doubted, 10, (some .int), { frames := 3, cells := 0, slots := 0, locals := 71 }, false)
abbrev D_X9_duties : jD := (RX9, cX9_duties, 7, none, { frames := 4, cells := 0, slots := 0, locals := 90 }, false)
abbrev D_X9_duty : jD := (RX9, cX9_duty, 6, (some .int), { frames := 5, cells := 0, slots := 0, locals := 137 }, false)
abbrev D_X9_dutyOf : jD := (RX9, cX9_dutyOf, 10, (some .int), { frames := 4, cells := 0, slots := 0, locals := 108 }, false)
abbrev D_X9_fails : jD := (RX9, cX9_fails, 1, none, { frames := 0, cells := 0, slots := 0, locals := 0 }, false)
abbrev D_X9_find : jD := (RX9, cX9_find, 3, (some .int), { frames := 0, cells := 0, slots := 0, locals := 0 }, false)
abbrev D_X9_fineOf : jD := (RX9, cX9_fineOf, 4, (some .int), { frames := 0, cells := 0, slots := 0, locals := 0 }, false)
abbrev D_X9_fines : jD := (RX9, cX9_fines, 4, (some .int), { frames := 2, cells := 0, slots := 0, locals := 43 }, false)
abbrev D_X9_gathers : jD := (RX9, cX9_gathers, 5, (some .int), { frames := 1, cells := 0, slots := 0, locals := 23 }, false)
abbrev D_X9_greatest : jD := (RX9, cX9_greatest, 2, (some .int), { frames := 0, cells := 0, slots := 0, locals := 0 }, false)
abbrev D_X9_hand : jD := (RX9, cX9_hand, 3, (some .int), { frames := 1, cells := 0, slots := 0, locals := 22 }, false)
abbrev D_X9_in : jD := (RX9, cX9_in, 3, (some .boolean), { frames := 0, cells := 0, slots := 0, locals := 0 }, false)
abbrev D_X9_inOf : jD := (RX9, cX9_inOf, 3, (some .int), { frames := 1, cells := 0, slots := 0, locals := 27 }, false)
abbrev D_X9_init : jD := (RX9, cX9_init, 2, none, { frames := 2, cells := 36, slots := 8214, locals := 47 }, true)
abbrev D_X9_isBroken : jD := (RX9, cX9_isBroken, 8, (some .boolean), { frames := 5, cells := 0, slots := 0, locals := 137 }, false)
abbrev D_X9_isClash : jD := (RX9, cX9_isClash, 3, (some .boolean), { frames := 2, cells := 0, slots := 0, locals := 49 }, false)
abbrev D_X9_isDay : jD := (RX9, cX9_isDay, 1, (some .boolean), { frames := 1, cells := 0, slots := 0, locals := 22 }, false)
abbrev D_X9_isDigit : jD := (RX9, cX9_isDigit, 1, (some .boolean), { frames := 1, cells := 0, slots := 0, locals := 22 }, false)
abbrev D_X9_isHand : jD := (RX9, cX9_isHand, 2, (some .boolean), { frames := 1, cells := 0, slots := 0, locals := 22 }, false)
abbrev D_X9_isLine : jD := (RX9, cX9_isLine, 4, (some .boolean), { frames := 0, cells := 0, slots := 0, locals := 0 }, false)
abbrev D_X9_isMill : jD := (RX9, cX9_isMill, 2, (some .boolean), { frames := 1, cells := 0, slots := 0, locals := 22 }, false)
abbrev D_X9_isPlace : jD := (RX9, cX9_isPlace, 4, (some .boolean), { frames := 2, cells := 0, slots := 0, locals := 43 }, false)
abbrev D_X9_isRow : jD := (RX9, cX9_isRow, 10, (some .boolean), { frames := 0, cells := 0, slots := 0, locals := 0 }, false)
abbrev D_X9_isSign : jD := (RX9, cX9_isSign, 2, (some .boolean), { frames := 1, cells := 0, slots := 0, locals := 20 }, false)
abbrev D_X9_isWell : jD := (RX9, cX9_isWell, 1, (some .boolean), { frames := 0, cells := 0, slots := 0, locals := 0 }, false)
abbrev D_X9_isWord : jD := (RX9, cX9_isWord, 2, (some .boolean), { frames := 1, cells := 0, slots := 0, locals := 20 }, false)
abbrev D_X9_joins : jD := (RX9, cX9_joins, 3, (some .int), { frames := 0, cells := 0, slots := 0, locals := 0 }, false)
abbrev D_X9_least : jD := (RX9, cX9_least, 2, (some .int), { frames := 0, cells := 0, slots := 0, locals := 0 }, false)
abbrev D_X9_line : jD := (RX9, cX9_line, 6, (some .int), { frames := 2, cells := 0, slots := 0, locals := 43 }, false)
abbrev D_X9_longOf : jD := (RX9, cX9_longOf, 4, (some .int), { frames := 2, cells := 0, slots := 0, locals := 49 }, false)
abbrev D_X9_lost : jD := (RX9, cX9_lost, 8, (some .long), { frames := 1, cells := 0, slots := 0, locals := 22 }, false)
abbrev D_X9_mill : jD := (RX9, cX9_mill, 4, (some .int), { frames := 1, cells := 0, slots := 0, locals := 22 }, false)
abbrev D_X9_ones : jD := (RX9, cX9_ones, 3, (some .int), { frames := 0, cells := 0, slots := 0, locals := 0 }, false)
abbrev D_X9_outOf : jD := (RX9, cX9_outOf, 3, (some .int), { frames := 1, cells := 0, slots := 0, locals := 27 }, false)
abbrev D_X9_paper : jD := (RX9, cX9_paper, 6, (some .int), { frames := 2, cells := 0, slots := 0, locals := 43 }, false)
abbrev D_X9_partOf : jD := (RX9, cX9_partOf, 8, (some .int), { frames := 2, cells := 0, slots := 0, locals := 52 }, false)
abbrev D_X9_period : jD := (RX9, cX9_period, 4, (some .int), { frames := 1, cells := 0, slots := 0, locals := 22 }, false)
abbrev D_X9_quarrel : jD := (RX9, cX9_quarrel, 9, (some .int), { frames := 4, cells := 0, slots := 0, locals := 108 }, false)
abbrev D_X9_readsRule : jD := (RX9, cX9_readsRule, 3, none, { frames := 5, cells := 0, slots := 0, locals := 120 }, false)
abbrev D_X9_readsStrike : jD := (RX9, cX9_readsStrike, 4, none, { frames := 4, cells := 0, slots := 0, locals := 90 }, false)
abbrev D_X9_road : jD := (RX9, cX9_road, 5, (some .int), { frames := 1, cells := 0, slots := 0, locals := 22 }, false)
abbrev D_X9_rule : jD := (RX9, cX9_rule, 3, (some .int), { frames := 1, cells := 0, slots := 0, locals := 22 }, false)
abbrev D_X9_sue : jD := (RX9, cX9_sue, 7, (some .int), { frames := 7, cells := 0, slots := 0, locals := 190 }, false)
abbrev D_X9_suit : jD := (RX9, cX9_suit, 3, (some .int), { frames := 1, cells := 0, slots := 0, locals := 23 }, false)
abbrev D_X9_takesNumber : jD := (RX9, cX9_takesNumber, 4, (some .int), { frames := 3, cells := 0, slots := 0, locals := 67 }, false)
abbrev D_X9_takesSign : jD := (RX9, cX9_takesSign, 2, none, { frames := 3, cells := 0, slots := 0, locals := 67 }, false)
abbrev D_X9_takesWord : jD := (RX9, cX9_takesWord, 2, none, { frames := 3, cells := 0, slots := 0, locals := 67 }, false)
abbrev D_X9_trace : jD := (RX9, cX9_trace, 1, (some .long), { frames := 0, cells := 0, slots := 0, locals := 0 }, false)
abbrev D_X9_truth : jD := (RX9, cX9_truth, 4, (some .int), { frames := 2, cells := 0, slots := 0, locals := 43 }, false)
abbrev D_X9_truthOf : jD := (RX9, cX9_truthOf, 8, (some .int), { frames := 0, cells := 0, slots := 0, locals := 0 }, false)
abbrev D_X9_type : jD := (RX9, cX9_type, 5, (some .int), { frames := 1, cells := 0, slots := 0, locals := 22 }, false)
abbrev D_X9_waits : jD := (RX9, cX9_waits, 4, (some .int), { frames := 0, cells := 0, slots := 0, locals := 0 }, false)
abbrev D_X9_way : jD := (RX9, cX9_way, 13, (some .int), { frames := 1, cells := 0, slots := 0, locals := 22 }, false)
abbrev D_X9_why : jD := (RX9, cX9_why, 10, (some .int), { frames := 5, cells := 0, slots := 0, locals := 137 }, false)
abbrev D_X9_word : jD := (RX9, cX9_word, 6, (some .long), { frames := 1, cells := 0, slots := 0, locals := 22 }, false)
abbrev D_X9_work : jD := (RX9, cX9_work, 4, (some .int), { frames := 4, cells := 0, slots := 0, locals := 98 }, false)
abbrev D_X9_workOf : jD := (RX9, cX9_workOf, 7, (some .int), { frames := 3, cells := 0, slots := 0, locals := 72 }, false)
set_option maxRecDepth 20000 in
theorem l_X8_25 : jlC RX8 25 yX1_init D_X1_init 1 := ⟨(jtbl_in (List.mem_of_getElem? (i := 102) rfl) rfl), (jtbl_in (List.mem_of_getElem? (i := 103) rfl) rfl), (jtbl_in (List.mem_of_getElem? (i := 4) rfl) rfl), (jtbl_in (List.mem_of_getElem? (i := 104) rfl) rfl), rfl, ⟨by decide +kernel, by decide +kernel, by decide +kernel⟩⟩
set_option maxRecDepth 20000 in
theorem l_X8_34 : jlC RX8 34 yX7_init D_X7_init 0 := ⟨(jtbl_in (List.mem_of_getElem? (i := 153) rfl) rfl), (jtbl_in (List.mem_of_getElem? (i := 154) rfl) rfl), (jtbl_in (List.mem_of_getElem? (i := 5) rfl) rfl), (jtbl_in (List.mem_of_getElem? (i := 155) rfl) rfl), rfl, ⟨by decide +kernel, by decide +kernel, by decide +kernel⟩⟩
set_option maxRecDepth 20000 in
theorem l_X8_41 : jlC RX8 41 yX2_init D_X2_init 0 := ⟨(jtbl_in (List.mem_of_getElem? (i := 194) rfl) rfl), (jtbl_in (List.mem_of_getElem? (i := 195) rfl) rfl), (jtbl_in (List.mem_of_getElem? (i := 6) rfl) rfl), (jtbl_in (List.mem_of_getElem? (i := 196) rfl) rfl), rfl, ⟨by decide +kernel, by decide +kernel, by decide +kernel⟩⟩
set_option maxRecDepth 20000 in
theorem l_X8_48 : jlC RX8 48 yX6_init D_X6_init 0 := ⟨(jtbl_in (List.mem_of_getElem? (i := 234) rfl) rfl), (jtbl_in (List.mem_of_getElem? (i := 235) rfl) rfl), (jtbl_in (List.mem_of_getElem? (i := 7) rfl) rfl), (jtbl_in (List.mem_of_getElem? (i := 236) rfl) rfl), rfl, ⟨by decide +kernel, by decide +kernel, by decide +kernel⟩⟩
set_option maxRecDepth 20000 in
theorem l_X8_55 : jlC RX8 55 yX0_init D_X0_init 2 := ⟨(jtbl_in (List.mem_of_getElem? (i := 259) rfl) rfl), (jtbl_in (List.mem_of_getElem? (i := 260) rfl) rfl), (jtbl_in (List.mem_of_getElem? (i := 8) rfl) rfl), (jtbl_in (List.mem_of_getElem? (i := 261) rfl) rfl), rfl, ⟨by decide +kernel, by decide +kernel, by decide +kernel⟩⟩
set_option maxRecDepth 20000 in
theorem l_X8_67 : jlC RX8 67 yX5_init D_X5_init 1 := ⟨(jtbl_in (List.mem_of_getElem? (i := 321) rfl) rfl), (jtbl_in (List.mem_of_getElem? (i := 322) rfl) rfl), (jtbl_in (List.mem_of_getElem? (i := 9) rfl) rfl), (jtbl_in (List.mem_of_getElem? (i := 323) rfl) rfl), rfl, ⟨by decide +kernel, by decide +kernel, by decide +kernel⟩⟩
set_option maxRecDepth 20000 in
theorem l_X8_74 : jlS RX8 74 yX8_within D_X8_within 3 := ⟨(jtbl_in (List.mem_of_getElem? (i := 393) rfl) rfl), (jtbl_in (List.mem_of_getElem? (i := 394) rfl) rfl), (jtbl_in (List.mem_of_getElem? (i := 1) rfl) rfl), (jtbl_in (List.mem_of_getElem? (i := 395) rfl) rfl), ⟨by decide +kernel, by decide +kernel, by decide +kernel⟩⟩
set_option maxRecDepth 20000 in
theorem l_X8_78 : jlV RX8 78 4 yX4_add D_X4_add 3 := ⟨⟨_, _, rfl⟩, (jtbl_in (List.mem_of_getElem? (i := 396) rfl) rfl), (jtbl_in (List.mem_of_getElem? (i := 397) rfl) rfl), (jtbl_in (List.mem_of_getElem? (i := 398) rfl) rfl), (jtbl_in (List.mem_of_getElem? (i := 2) rfl) rfl), (jtbl_in (List.mem_of_getElem? (i := 399) rfl) rfl), ⟨by decide +kernel, by decide +kernel, by decide +kernel⟩⟩
set_option maxRecDepth 20000 in
theorem l_X8_82 : jlV RX8 82 3 yX3_add D_X3_add 2 := ⟨⟨_, _, rfl⟩, (jtbl_in (List.mem_of_getElem? (i := 404) rfl) rfl), (jtbl_in (List.mem_of_getElem? (i := 405) rfl) rfl), (jtbl_in (List.mem_of_getElem? (i := 406) rfl) rfl), (jtbl_in (List.mem_of_getElem? (i := 3) rfl) rfl), (jtbl_in (List.mem_of_getElem? (i := 407) rfl) rfl), ⟨by decide +kernel, by decide +kernel, by decide +kernel⟩⟩
set_option maxRecDepth 20000 in
theorem l_X8_85 : jlV RX8 85 3 yX3_knows D_X3_knows 1 := ⟨⟨_, _, rfl⟩, (jtbl_in (List.mem_of_getElem? (i := 412) rfl) rfl), (jtbl_in (List.mem_of_getElem? (i := 413) rfl) rfl), (jtbl_in (List.mem_of_getElem? (i := 414) rfl) rfl), (jtbl_in (List.mem_of_getElem? (i := 3) rfl) rfl), (jtbl_in (List.mem_of_getElem? (i := 415) rfl) rfl), ⟨by decide +kernel, by decide +kernel, by decide +kernel⟩⟩
set_option maxRecDepth 20000 in
theorem l_X8_93 : jlS RX8 93 yX3_traceOf D_X3_traceOf 1 := ⟨(jtbl_in (List.mem_of_getElem? (i := 416) rfl) rfl), (jtbl_in (List.mem_of_getElem? (i := 417) rfl) rfl), (jtbl_in (List.mem_of_getElem? (i := 3) rfl) rfl), (jtbl_in (List.mem_of_getElem? (i := 418) rfl) rfl), ⟨by decide +kernel, by decide +kernel, by decide +kernel⟩⟩
set_option maxRecDepth 20000 in
theorem l_X8_97 : jlV RX8 97 3 yX3_customAs D_X3_customAs 2 := ⟨⟨_, _, rfl⟩, (jtbl_in (List.mem_of_getElem? (i := 420) rfl) rfl), (jtbl_in (List.mem_of_getElem? (i := 421) rfl) rfl), (jtbl_in (List.mem_of_getElem? (i := 422) rfl) rfl), (jtbl_in (List.mem_of_getElem? (i := 3) rfl) rfl), (jtbl_in (List.mem_of_getElem? (i := 423) rfl) rfl), ⟨by decide +kernel, by decide +kernel, by decide +kernel⟩⟩
set_option maxRecDepth 20000 in
theorem l_X8_100 : jlS RX8 100 yX3_mostOf D_X3_mostOf 1 := ⟨(jtbl_in (List.mem_of_getElem? (i := 428) rfl) rfl), (jtbl_in (List.mem_of_getElem? (i := 429) rfl) rfl), (jtbl_in (List.mem_of_getElem? (i := 3) rfl) rfl), (jtbl_in (List.mem_of_getElem? (i := 430) rfl) rfl), ⟨by decide +kernel, by decide +kernel, by decide +kernel⟩⟩
set_option maxRecDepth 20000 in
theorem l_X8_103 : jlS RX8 103 yX8_isDay D_X8_isDay 1 := ⟨(jtbl_in (List.mem_of_getElem? (i := 431) rfl) rfl), (jtbl_in (List.mem_of_getElem? (i := 432) rfl) rfl), (jtbl_in (List.mem_of_getElem? (i := 1) rfl) rfl), (jtbl_in (List.mem_of_getElem? (i := 433) rfl) rfl), ⟨by decide +kernel, by decide +kernel, by decide +kernel⟩⟩
set_option maxRecDepth 20000 in
theorem l_X8_106 : jlV RX8 106 3 yX3_addPaper D_X3_addPaper 4 := ⟨⟨_, _, rfl⟩, (jtbl_in (List.mem_of_getElem? (i := 434) rfl) rfl), (jtbl_in (List.mem_of_getElem? (i := 435) rfl) rfl), (jtbl_in (List.mem_of_getElem? (i := 436) rfl) rfl), (jtbl_in (List.mem_of_getElem? (i := 3) rfl) rfl), (jtbl_in (List.mem_of_getElem? (i := 437) rfl) rfl), ⟨by decide +kernel, by decide +kernel, by decide +kernel⟩⟩
set_option maxRecDepth 20000 in
theorem l_X8_121 : jlV RX8 121 3 yX3_ageFrom D_X3_ageFrom 2 := ⟨⟨_, _, rfl⟩, (jtbl_in (List.mem_of_getElem? (i := 456) rfl) rfl), (jtbl_in (List.mem_of_getElem? (i := 457) rfl) rfl), (jtbl_in (List.mem_of_getElem? (i := 458) rfl) rfl), (jtbl_in (List.mem_of_getElem? (i := 3) rfl) rfl), (jtbl_in (List.mem_of_getElem? (i := 459) rfl) rfl), ⟨by decide +kernel, by decide +kernel, by decide +kernel⟩⟩
set_option maxRecDepth 20000 in
theorem l_X8_124 : jlV RX8 124 3 yX3_ageTo D_X3_ageTo 2 := ⟨⟨_, _, rfl⟩, (jtbl_in (List.mem_of_getElem? (i := 460) rfl) rfl), (jtbl_in (List.mem_of_getElem? (i := 461) rfl) rfl), (jtbl_in (List.mem_of_getElem? (i := 462) rfl) rfl), (jtbl_in (List.mem_of_getElem? (i := 3) rfl) rfl), (jtbl_in (List.mem_of_getElem? (i := 463) rfl) rfl), ⟨by decide +kernel, by decide +kernel, by decide +kernel⟩⟩
set_option maxRecDepth 20000 in
theorem l_X8_127 : jlV RX8 127 5 yX5_append D_X5_append 2 := ⟨⟨_, _, rfl⟩, (jtbl_in (List.mem_of_getElem? (i := 468) rfl) rfl), (jtbl_in (List.mem_of_getElem? (i := 469) rfl) rfl), (jtbl_in (List.mem_of_getElem? (i := 470) rfl) rfl), (jtbl_in (List.mem_of_getElem? (i := 9) rfl) rfl), (jtbl_in (List.mem_of_getElem? (i := 471) rfl) rfl), ⟨by decide +kernel, by decide +kernel, by decide +kernel⟩⟩
set_option maxRecDepth 20000 in
theorem l_X8_131 : jlV RX8 131 5 yX5_empty D_X5_empty 0 := ⟨⟨_, _, rfl⟩, (jtbl_in (List.mem_of_getElem? (i := 476) rfl) rfl), (jtbl_in (List.mem_of_getElem? (i := 477) rfl) rfl), (jtbl_in (List.mem_of_getElem? (i := 478) rfl) rfl), (jtbl_in (List.mem_of_getElem? (i := 9) rfl) rfl), (jtbl_in (List.mem_of_getElem? (i := 479) rfl) rfl), ⟨by decide +kernel, by decide +kernel, by decide +kernel⟩⟩
set_option maxRecDepth 20000 in
theorem l_X8_135 : jlV RX8 135 5 yX5_readInto D_X5_readInto 1 := ⟨⟨_, _, rfl⟩, (jtbl_in (List.mem_of_getElem? (i := 484) rfl) rfl), (jtbl_in (List.mem_of_getElem? (i := 485) rfl) rfl), (jtbl_in (List.mem_of_getElem? (i := 486) rfl) rfl), (jtbl_in (List.mem_of_getElem? (i := 9) rfl) rfl), (jtbl_in (List.mem_of_getElem? (i := 487) rfl) rfl), ⟨by decide +kernel, by decide +kernel, by decide +kernel⟩⟩
set_option maxRecDepth 20000 in
theorem l_X8_143 : jlV RX8 143 0 yX0_knows D_X0_knows 1 := ⟨⟨_, _, rfl⟩, (jtbl_in (List.mem_of_getElem? (i := 673) rfl) rfl), (jtbl_in (List.mem_of_getElem? (i := 674) rfl) rfl), (jtbl_in (List.mem_of_getElem? (i := 675) rfl) rfl), (jtbl_in (List.mem_of_getElem? (i := 8) rfl) rfl), (jtbl_in (List.mem_of_getElem? (i := 676) rfl) rfl), ⟨by decide +kernel, by decide +kernel, by decide +kernel⟩⟩
set_option maxRecDepth 20000 in
theorem l_X8_144 : jlV RX8 144 8 yX8_isPlaced D_X8_isPlaced 3 := ⟨⟨_, _, rfl⟩, (jtbl_in (List.mem_of_getElem? (i := 677) rfl) rfl), (jtbl_in (List.mem_of_getElem? (i := 679) rfl) rfl), (jtbl_sel (List.mem_of_getElem? (i := 22) rfl) rfl), (jtbl_in (List.mem_of_getElem? (i := 1) rfl) rfl), (jtbl_in (List.mem_of_getElem? (i := 680) rfl) rfl), ⟨by decide +kernel, by decide +kernel, by decide +kernel⟩⟩
set_option maxRecDepth 20000 in
theorem l_X8_147 : jlV RX8 147 0 yX0_binding D_X0_binding 4 := ⟨⟨_, _, rfl⟩, (jtbl_in (List.mem_of_getElem? (i := 685) rfl) rfl), (jtbl_in (List.mem_of_getElem? (i := 686) rfl) rfl), (jtbl_in (List.mem_of_getElem? (i := 687) rfl) rfl), (jtbl_in (List.mem_of_getElem? (i := 8) rfl) rfl), (jtbl_in (List.mem_of_getElem? (i := 688) rfl) rfl), ⟨by decide +kernel, by decide +kernel, by decide +kernel⟩⟩
set_option maxRecDepth 20000 in
theorem l_X8_150 : jlV RX8 150 0 yX0_ask D_X0_ask 3 := ⟨⟨_, _, rfl⟩, (jtbl_in (List.mem_of_getElem? (i := 704) rfl) rfl), (jtbl_in (List.mem_of_getElem? (i := 705) rfl) rfl), (jtbl_in (List.mem_of_getElem? (i := 706) rfl) rfl), (jtbl_in (List.mem_of_getElem? (i := 8) rfl) rfl), (jtbl_in (List.mem_of_getElem? (i := 707) rfl) rfl), ⟨by decide +kernel, by decide +kernel, by decide +kernel⟩⟩
set_option maxRecDepth 20000 in
theorem l_X8_154 : jlV RX8 154 0 yX0_asked D_X0_asked 2 := ⟨⟨_, _, rfl⟩, (jtbl_in (List.mem_of_getElem? (i := 710) rfl) rfl), (jtbl_in (List.mem_of_getElem? (i := 711) rfl) rfl), (jtbl_in (List.mem_of_getElem? (i := 712) rfl) rfl), (jtbl_in (List.mem_of_getElem? (i := 8) rfl) rfl), (jtbl_in (List.mem_of_getElem? (i := 713) rfl) rfl), ⟨by decide +kernel, by decide +kernel, by decide +kernel⟩⟩
set_option maxRecDepth 20000 in
theorem l_X8_157 : jlV RX8 157 0 yX0_reason D_X0_reason 2 := ⟨⟨_, _, rfl⟩, (jtbl_in (List.mem_of_getElem? (i := 722) rfl) rfl), (jtbl_in (List.mem_of_getElem? (i := 723) rfl) rfl), (jtbl_in (List.mem_of_getElem? (i := 724) rfl) rfl), (jtbl_in (List.mem_of_getElem? (i := 8) rfl) rfl), (jtbl_in (List.mem_of_getElem? (i := 725) rfl) rfl), ⟨by decide +kernel, by decide +kernel, by decide +kernel⟩⟩
set_option maxRecDepth 20000 in
theorem l_X8_160 : jlV RX8 160 0 yX0_firstQuarrel D_X0_firstQuarrel 0 := ⟨⟨_, _, rfl⟩, (jtbl_in (List.mem_of_getElem? (i := 731) rfl) rfl), (jtbl_in (List.mem_of_getElem? (i := 732) rfl) rfl), (jtbl_in (List.mem_of_getElem? (i := 733) rfl) rfl), (jtbl_in (List.mem_of_getElem? (i := 8) rfl) rfl), (jtbl_in (List.mem_of_getElem? (i := 734) rfl) rfl), ⟨by decide +kernel, by decide +kernel, by decide +kernel⟩⟩
set_option maxRecDepth 20000 in
theorem l_X8_178 : jlV RX8 178 4 yX4_knows D_X4_knows 1 := ⟨⟨_, _, rfl⟩, (jtbl_in (List.mem_of_getElem? (i := 681) rfl) rfl), (jtbl_in (List.mem_of_getElem? (i := 682) rfl) rfl), (jtbl_in (List.mem_of_getElem? (i := 683) rfl) rfl), (jtbl_in (List.mem_of_getElem? (i := 2) rfl) rfl), (jtbl_in (List.mem_of_getElem? (i := 684) rfl) rfl), ⟨by decide +kernel, by decide +kernel, by decide +kernel⟩⟩
set_option maxRecDepth 20000 in
theorem l_X8_179 : jlV RX8 179 1 yX1_add D_X1_add 5 := ⟨⟨_, _, rfl⟩, (jtbl_in (List.mem_of_getElem? (i := 747) rfl) rfl), (jtbl_in (List.mem_of_getElem? (i := 748) rfl) rfl), (jtbl_in (List.mem_of_getElem? (i := 749) rfl) rfl), (jtbl_in (List.mem_of_getElem? (i := 4) rfl) rfl), (jtbl_in (List.mem_of_getElem? (i := 750) rfl) rfl), ⟨by decide +kernel, by decide +kernel, by decide +kernel⟩⟩
set_option maxRecDepth 20000 in
theorem l_X8_182 : jlV RX8 182 4 yX4_addCheck D_X4_addCheck 3 := ⟨⟨_, _, rfl⟩, (jtbl_in (List.mem_of_getElem? (i := 755) rfl) rfl), (jtbl_in (List.mem_of_getElem? (i := 756) rfl) rfl), (jtbl_in (List.mem_of_getElem? (i := 757) rfl) rfl), (jtbl_in (List.mem_of_getElem? (i := 2) rfl) rfl), (jtbl_in (List.mem_of_getElem? (i := 758) rfl) rfl), ⟨by decide +kernel, by decide +kernel, by decide +kernel⟩⟩
set_option maxRecDepth 20000 in
theorem l_X8_185 : jlV RX8 185 4 yX4_inTruth D_X4_inTruth 3 := ⟨⟨_, _, rfl⟩, (jtbl_in (List.mem_of_getElem? (i := 763) rfl) rfl), (jtbl_in (List.mem_of_getElem? (i := 764) rfl) rfl), (jtbl_in (List.mem_of_getElem? (i := 765) rfl) rfl), (jtbl_in (List.mem_of_getElem? (i := 2) rfl) rfl), (jtbl_in (List.mem_of_getElem? (i := 766) rfl) rfl), ⟨by decide +kernel, by decide +kernel, by decide +kernel⟩⟩
set_option maxRecDepth 20000 in
theorem l_X8_189 : jlV RX8 189 1 yX1_pick D_X1_pick 2 := ⟨⟨_, _, rfl⟩, (jtbl_in (List.mem_of_getElem? (i := 781) rfl) rfl), (jtbl_in (List.mem_of_getElem? (i := 782) rfl) rfl), (jtbl_in (List.mem_of_getElem? (i := 783) rfl) rfl), (jtbl_in (List.mem_of_getElem? (i := 4) rfl) rfl), (jtbl_in (List.mem_of_getElem? (i := 784) rfl) rfl), ⟨by decide +kernel, by decide +kernel, by decide +kernel⟩⟩
set_option maxRecDepth 20000 in
theorem l_X8_193 : jlV RX8 193 1 yX1_schooled D_X1_schooled 0 := ⟨⟨_, _, rfl⟩, (jtbl_in (List.mem_of_getElem? (i := 786) rfl) rfl), (jtbl_in (List.mem_of_getElem? (i := 787) rfl) rfl), (jtbl_in (List.mem_of_getElem? (i := 788) rfl) rfl), (jtbl_in (List.mem_of_getElem? (i := 4) rfl) rfl), (jtbl_in (List.mem_of_getElem? (i := 789) rfl) rfl), ⟨by decide +kernel, by decide +kernel, by decide +kernel⟩⟩
set_option maxRecDepth 20000 in
theorem l_X8_196 : jlV RX8 196 1 yX1_worked D_X1_worked 1 := ⟨⟨_, _, rfl⟩, (jtbl_in (List.mem_of_getElem? (i := 795) rfl) rfl), (jtbl_in (List.mem_of_getElem? (i := 796) rfl) rfl), (jtbl_in (List.mem_of_getElem? (i := 797) rfl) rfl), (jtbl_in (List.mem_of_getElem? (i := 4) rfl) rfl), (jtbl_in (List.mem_of_getElem? (i := 798) rfl) rfl), ⟨by decide +kernel, by decide +kernel, by decide +kernel⟩⟩
set_option maxRecDepth 20000 in
theorem l_X8_199 : jlV RX8 199 8 yX8_worstBreach D_X8_worstBreach 3 := ⟨⟨_, _, rfl⟩, (jtbl_in (List.mem_of_getElem? (i := 803) rfl) rfl), (jtbl_in (List.mem_of_getElem? (i := 805) rfl) rfl), (jtbl_sel (List.mem_of_getElem? (i := 29) rfl) rfl), (jtbl_in (List.mem_of_getElem? (i := 1) rfl) rfl), (jtbl_in (List.mem_of_getElem? (i := 806) rfl) rfl), ⟨by decide +kernel, by decide +kernel, by decide +kernel⟩⟩
set_option maxRecDepth 20000 in
theorem l_X8_202 : jlV RX8 202 1 yX1_clashes D_X1_clashes 0 := ⟨⟨_, _, rfl⟩, (jtbl_in (List.mem_of_getElem? (i := 827) rfl) rfl), (jtbl_in (List.mem_of_getElem? (i := 828) rfl) rfl), (jtbl_in (List.mem_of_getElem? (i := 829) rfl) rfl), (jtbl_in (List.mem_of_getElem? (i := 4) rfl) rfl), (jtbl_in (List.mem_of_getElem? (i := 830) rfl) rfl), ⟨by decide +kernel, by decide +kernel, by decide +kernel⟩⟩
set_option maxRecDepth 20000 in
theorem l_X8_208 : jlV RX8 208 1 yX1_leastDoubted D_X1_leastDoubted 0 := ⟨⟨_, _, rfl⟩, (jtbl_in (List.mem_of_getElem? (i := 840) rfl) rfl), (jtbl_in (List.mem_of_getElem? (i := 841) rfl) rfl), (jtbl_in (List.mem_of_getElem? (i := 842) rfl) rfl), (jtbl_in (List.mem_of_getElem? (i := 4) rfl) rfl), (jtbl_in (List.mem_of_getElem? (i := 843) rfl) rfl), ⟨by decide +kernel, by decide +kernel, by decide +kernel⟩⟩
set_option maxRecDepth 20000 in
theorem l_X8_211 : jlS RX8 211 yJ6_bitCount_0f7a4 D_J6_bitCount_0f7a4 1 := ⟨(jtbl_in (List.mem_of_getElem? (i := 854) rfl) rfl), (jtbl_in (List.mem_of_getElem? (i := 845) rfl) rfl), (jtbl_in (List.mem_of_getElem? (i := 16) rfl) rfl), (jtbl_in (List.mem_of_getElem? (i := 846) rfl) rfl), ⟨by decide +kernel, by decide +kernel, by decide +kernel⟩⟩
set_option maxRecDepth 20000 in
theorem l_X8_216 : jlV RX8 216 7 yX7_setPeriod D_X7_setPeriod 3 := ⟨⟨_, _, rfl⟩, (jtbl_in (List.mem_of_getElem? (i := 859) rfl) rfl), (jtbl_in (List.mem_of_getElem? (i := 860) rfl) rfl), (jtbl_in (List.mem_of_getElem? (i := 861) rfl) rfl), (jtbl_in (List.mem_of_getElem? (i := 5) rfl) rfl), (jtbl_in (List.mem_of_getElem? (i := 862) rfl) rfl), ⟨by decide +kernel, by decide +kernel, by decide +kernel⟩⟩
set_option maxRecDepth 20000 in
theorem l_X8_219 : jlV RX8 219 7 yX7_prepare D_X7_prepare 3 := ⟨⟨_, _, rfl⟩, (jtbl_in (List.mem_of_getElem? (i := 867) rfl) rfl), (jtbl_in (List.mem_of_getElem? (i := 868) rfl) rfl), (jtbl_in (List.mem_of_getElem? (i := 869) rfl) rfl), (jtbl_in (List.mem_of_getElem? (i := 5) rfl) rfl), (jtbl_in (List.mem_of_getElem? (i := 870) rfl) rfl), ⟨by decide +kernel, by decide +kernel, by decide +kernel⟩⟩
set_option maxRecDepth 20000 in
theorem l_X8_222 : jlV RX8 222 7 yX7_tables D_X7_tables 1 := ⟨⟨_, _, rfl⟩, (jtbl_in (List.mem_of_getElem? (i := 880) rfl) rfl), (jtbl_in (List.mem_of_getElem? (i := 881) rfl) rfl), (jtbl_in (List.mem_of_getElem? (i := 882) rfl) rfl), (jtbl_in (List.mem_of_getElem? (i := 5) rfl) rfl), (jtbl_in (List.mem_of_getElem? (i := 883) rfl) rfl), ⟨by decide +kernel, by decide +kernel, by decide +kernel⟩⟩
set_option maxRecDepth 20000 in
theorem l_X8_225 : jlV RX8 225 7 yX7_leastTable D_X7_leastTable 1 := ⟨⟨_, _, rfl⟩, (jtbl_in (List.mem_of_getElem? (i := 888) rfl) rfl), (jtbl_in (List.mem_of_getElem? (i := 889) rfl) rfl), (jtbl_in (List.mem_of_getElem? (i := 890) rfl) rfl), (jtbl_in (List.mem_of_getElem? (i := 5) rfl) rfl), (jtbl_in (List.mem_of_getElem? (i := 891) rfl) rfl), ⟨by decide +kernel, by decide +kernel, by decide +kernel⟩⟩
set_option maxRecDepth 20000 in
theorem l_X8_230 : jlV RX8 230 7 yX7_waysToMakeUp D_X7_waysToMakeUp 3 := ⟨⟨_, _, rfl⟩, (jtbl_in (List.mem_of_getElem? (i := 897) rfl) rfl), (jtbl_in (List.mem_of_getElem? (i := 898) rfl) rfl), (jtbl_in (List.mem_of_getElem? (i := 899) rfl) rfl), (jtbl_in (List.mem_of_getElem? (i := 5) rfl) rfl), (jtbl_in (List.mem_of_getElem? (i := 900) rfl) rfl), ⟨by decide +kernel, by decide +kernel, by decide +kernel⟩⟩
set_option maxRecDepth 20000 in
theorem l_X8_234 : jlV RX8 234 2 yX2_addBench D_X2_addBench 1 := ⟨⟨_, _, rfl⟩, (jtbl_in (List.mem_of_getElem? (i := 906) rfl) rfl), (jtbl_in (List.mem_of_getElem? (i := 907) rfl) rfl), (jtbl_in (List.mem_of_getElem? (i := 908) rfl) rfl), (jtbl_in (List.mem_of_getElem? (i := 6) rfl) rfl), (jtbl_in (List.mem_of_getElem? (i := 909) rfl) rfl), ⟨by decide +kernel, by decide +kernel, by decide +kernel⟩⟩
set_option maxRecDepth 20000 in
theorem l_X8_237 : jlV RX8 237 2 yX2_setBase D_X2_setBase 2 := ⟨⟨_, _, rfl⟩, (jtbl_in (List.mem_of_getElem? (i := 914) rfl) rfl), (jtbl_in (List.mem_of_getElem? (i := 915) rfl) rfl), (jtbl_in (List.mem_of_getElem? (i := 916) rfl) rfl), (jtbl_in (List.mem_of_getElem? (i := 6) rfl) rfl), (jtbl_in (List.mem_of_getElem? (i := 917) rfl) rfl), ⟨by decide +kernel, by decide +kernel, by decide +kernel⟩⟩
set_option maxRecDepth 20000 in
theorem l_X8_243 : jlV RX8 243 2 yX2_benchFor D_X2_benchFor 1 := ⟨⟨_, _, rfl⟩, (jtbl_in (List.mem_of_getElem? (i := 922) rfl) rfl), (jtbl_in (List.mem_of_getElem? (i := 923) rfl) rfl), (jtbl_in (List.mem_of_getElem? (i := 924) rfl) rfl), (jtbl_in (List.mem_of_getElem? (i := 6) rfl) rfl), (jtbl_in (List.mem_of_getElem? (i := 925) rfl) rfl), ⟨by decide +kernel, by decide +kernel, by decide +kernel⟩⟩
set_option maxRecDepth 20000 in
theorem l_X8_246 : jlV RX8 246 1 yX1_pickedAt D_X1_pickedAt 1 := ⟨⟨_, _, rfl⟩, (jtbl_in (List.mem_of_getElem? (i := 807) rfl) rfl), (jtbl_in (List.mem_of_getElem? (i := 808) rfl) rfl), (jtbl_in (List.mem_of_getElem? (i := 809) rfl) rfl), (jtbl_in (List.mem_of_getElem? (i := 4) rfl) rfl), (jtbl_in (List.mem_of_getElem? (i := 810) rfl) rfl), ⟨by decide +kernel, by decide +kernel, by decide +kernel⟩⟩
set_option maxRecDepth 20000 in
theorem l_X8_249 : jlV RX8 249 2 yX2_addCase D_X2_addCase 4 := ⟨⟨_, _, rfl⟩, (jtbl_in (List.mem_of_getElem? (i := 926) rfl) rfl), (jtbl_in (List.mem_of_getElem? (i := 927) rfl) rfl), (jtbl_in (List.mem_of_getElem? (i := 928) rfl) rfl), (jtbl_in (List.mem_of_getElem? (i := 6) rfl) rfl), (jtbl_in (List.mem_of_getElem? (i := 929) rfl) rfl), ⟨by decide +kernel, by decide +kernel, by decide +kernel⟩⟩
set_option maxRecDepth 20000 in
theorem l_X8_252 : jlV RX8 252 2 yX2_knows D_X2_knows 1 := ⟨⟨_, _, rfl⟩, (jtbl_in (List.mem_of_getElem? (i := 934) rfl) rfl), (jtbl_in (List.mem_of_getElem? (i := 935) rfl) rfl), (jtbl_in (List.mem_of_getElem? (i := 936) rfl) rfl), (jtbl_in (List.mem_of_getElem? (i := 6) rfl) rfl), (jtbl_in (List.mem_of_getElem? (i := 937) rfl) rfl), ⟨by decide +kernel, by decide +kernel, by decide +kernel⟩⟩
set_option maxRecDepth 20000 in
theorem l_X8_256 : jlV RX8 256 2 yX2_fine D_X2_fine 1 := ⟨⟨_, _, rfl⟩, (jtbl_in (List.mem_of_getElem? (i := 938) rfl) rfl), (jtbl_in (List.mem_of_getElem? (i := 939) rfl) rfl), (jtbl_in (List.mem_of_getElem? (i := 940) rfl) rfl), (jtbl_in (List.mem_of_getElem? (i := 6) rfl) rfl), (jtbl_in (List.mem_of_getElem? (i := 941) rfl) rfl), ⟨by decide +kernel, by decide +kernel, by decide +kernel⟩⟩
set_option maxRecDepth 20000 in
theorem l_X8_268 : jlV RX8 268 2 yX2_overturn D_X2_overturn 1 := ⟨⟨_, _, rfl⟩, (jtbl_in (List.mem_of_getElem? (i := 946) rfl) rfl), (jtbl_in (List.mem_of_getElem? (i := 947) rfl) rfl), (jtbl_in (List.mem_of_getElem? (i := 948) rfl) rfl), (jtbl_in (List.mem_of_getElem? (i := 6) rfl) rfl), (jtbl_in (List.mem_of_getElem? (i := 949) rfl) rfl), ⟨by decide +kernel, by decide +kernel, by decide +kernel⟩⟩
set_option maxRecDepth 20000 in
theorem l_X8_271 : jlV RX8 271 2 yX2_finesOf D_X2_finesOf 1 := ⟨⟨_, _, rfl⟩, (jtbl_in (List.mem_of_getElem? (i := 954) rfl) rfl), (jtbl_in (List.mem_of_getElem? (i := 955) rfl) rfl), (jtbl_in (List.mem_of_getElem? (i := 956) rfl) rfl), (jtbl_in (List.mem_of_getElem? (i := 6) rfl) rfl), (jtbl_in (List.mem_of_getElem? (i := 957) rfl) rfl), ⟨by decide +kernel, by decide +kernel, by decide +kernel⟩⟩
set_option maxRecDepth 20000 in
theorem l_X8_274 : jlV RX8 274 6 yX6_setHours D_X6_setHours 3 := ⟨⟨_, _, rfl⟩, (jtbl_in (List.mem_of_getElem? (i := 963) rfl) rfl), (jtbl_in (List.mem_of_getElem? (i := 964) rfl) rfl), (jtbl_in (List.mem_of_getElem? (i := 965) rfl) rfl), (jtbl_in (List.mem_of_getElem? (i := 7) rfl) rfl), (jtbl_in (List.mem_of_getElem? (i := 966) rfl) rfl), ⟨by decide +kernel, by decide +kernel, by decide +kernel⟩⟩
set_option maxRecDepth 20000 in
theorem l_X8_280 : jlV RX8 280 6 yX6_seek D_X6_seek 2 := ⟨⟨_, _, rfl⟩, (jtbl_in (List.mem_of_getElem? (i := 975) rfl) rfl), (jtbl_in (List.mem_of_getElem? (i := 976) rfl) rfl), (jtbl_in (List.mem_of_getElem? (i := 977) rfl) rfl), (jtbl_in (List.mem_of_getElem? (i := 7) rfl) rfl), (jtbl_in (List.mem_of_getElem? (i := 978) rfl) rfl), ⟨by decide +kernel, by decide +kernel, by decide +kernel⟩⟩
set_option maxRecDepth 20000 in
theorem l_X8_304 : jlV RX8 304 2 yX2_standing D_X2_standing 0 := ⟨⟨_, _, rfl⟩, (jtbl_in (List.mem_of_getElem? (i := 989) rfl) rfl), (jtbl_in (List.mem_of_getElem? (i := 990) rfl) rfl), (jtbl_in (List.mem_of_getElem? (i := 991) rfl) rfl), (jtbl_in (List.mem_of_getElem? (i := 6) rfl) rfl), (jtbl_in (List.mem_of_getElem? (i := 992) rfl) rfl), ⟨by decide +kernel, by decide +kernel, by decide +kernel⟩⟩
set_option maxRecDepth 20000 in
theorem l_X8_310 : jlV RX8 310 8 yX8_breaks D_X8_breaks 4 := ⟨⟨_, _, rfl⟩, (jtbl_in (List.mem_of_getElem? (i := 811) rfl) rfl), (jtbl_in (List.mem_of_getElem? (i := 813) rfl) rfl), (jtbl_sel (List.mem_of_getElem? (i := 30) rfl) rfl), (jtbl_in (List.mem_of_getElem? (i := 1) rfl) rfl), (jtbl_in (List.mem_of_getElem? (i := 814) rfl) rfl), ⟨by decide +kernel, by decide +kernel, by decide +kernel⟩⟩
set_option maxRecDepth 20000 in
theorem l_X8_314 : jlV RX8 314 1 yX1_leaves D_X1_leaves 4 := ⟨⟨_, _, rfl⟩, (jtbl_in (List.mem_of_getElem? (i := 815) rfl) rfl), (jtbl_in (List.mem_of_getElem? (i := 816) rfl) rfl), (jtbl_in (List.mem_of_getElem? (i := 817) rfl) rfl), (jtbl_in (List.mem_of_getElem? (i := 4) rfl) rfl), (jtbl_in (List.mem_of_getElem? (i := 818) rfl) rfl), ⟨by decide +kernel, by decide +kernel, by decide +kernel⟩⟩
set_option maxRecDepth 20000 in
theorem l_X8_317 : jlV RX8 317 1 yX1_longestAt D_X1_longestAt 2 := ⟨⟨_, _, rfl⟩, (jtbl_in (List.mem_of_getElem? (i := 819) rfl) rfl), (jtbl_in (List.mem_of_getElem? (i := 820) rfl) rfl), (jtbl_in (List.mem_of_getElem? (i := 821) rfl) rfl), (jtbl_in (List.mem_of_getElem? (i := 4) rfl) rfl), (jtbl_in (List.mem_of_getElem? (i := 822) rfl) rfl), ⟨by decide +kernel, by decide +kernel, by decide +kernel⟩⟩
set_option maxRecDepth 20000 in
theorem l_X0_69 : jlV RX0 69 0 yX0_test D_X0_test 4 := ⟨⟨_, _, rfl⟩, (jtbl_in (List.mem_of_getElem? (i := 691) rfl) rfl), (jtbl_in (List.mem_of_getElem? (i := 693) rfl) rfl), (jtbl_sel (List.mem_of_getElem? (i := 23) rfl) rfl), (jtbl_in (List.mem_of_getElem? (i := 8) rfl) rfl), (jtbl_in (List.mem_of_getElem? (i := 694) rfl) rfl), ⟨by decide +kernel, by decide +kernel, by decide +kernel⟩⟩
set_option maxRecDepth 20000 in
theorem l_X0_73 : jlV RX0 73 3 yX3_ageFrom D_X3_ageFrom 2 := ⟨⟨_, _, rfl⟩, (jtbl_in (List.mem_of_getElem? (i := 695) rfl) rfl), (jtbl_in (List.mem_of_getElem? (i := 457) rfl) rfl), (jtbl_in (List.mem_of_getElem? (i := 458) rfl) rfl), (jtbl_in (List.mem_of_getElem? (i := 3) rfl) rfl), (jtbl_in (List.mem_of_getElem? (i := 459) rfl) rfl), ⟨by decide +kernel, by decide +kernel, by decide +kernel⟩⟩
set_option maxRecDepth 20000 in
theorem l_X0_78 : jlV RX0 78 3 yX3_ageTo D_X3_ageTo 2 := ⟨⟨_, _, rfl⟩, (jtbl_in (List.mem_of_getElem? (i := 696) rfl) rfl), (jtbl_in (List.mem_of_getElem? (i := 461) rfl) rfl), (jtbl_in (List.mem_of_getElem? (i := 462) rfl) rfl), (jtbl_in (List.mem_of_getElem? (i := 3) rfl) rfl), (jtbl_in (List.mem_of_getElem? (i := 463) rfl) rfl), ⟨by decide +kernel, by decide +kernel, by decide +kernel⟩⟩
set_option maxRecDepth 20000 in
theorem l_X0_81 : jlS RX0 81 yX0_value D_X0_value 2 := ⟨(jtbl_in (List.mem_of_getElem? (i := 697) rfl) rfl), (jtbl_in (List.mem_of_getElem? (i := 698) rfl) rfl), (jtbl_in (List.mem_of_getElem? (i := 8) rfl) rfl), (jtbl_in (List.mem_of_getElem? (i := 699) rfl) rfl), ⟨by decide +kernel, by decide +kernel, by decide +kernel⟩⟩
set_option maxRecDepth 20000 in
theorem l_X0_96 : jlV RX0 96 3 yX3_customAs D_X3_customAs 2 := ⟨⟨_, _, rfl⟩, (jtbl_in (List.mem_of_getElem? (i := 708) rfl) rfl), (jtbl_in (List.mem_of_getElem? (i := 421) rfl) rfl), (jtbl_in (List.mem_of_getElem? (i := 422) rfl) rfl), (jtbl_in (List.mem_of_getElem? (i := 3) rfl) rfl), (jtbl_in (List.mem_of_getElem? (i := 423) rfl) rfl), ⟨by decide +kernel, by decide +kernel, by decide +kernel⟩⟩
set_option maxRecDepth 20000 in
theorem l_X0_102 : jlV RX0 102 0 yX0_binding D_X0_binding 4 := ⟨⟨_, _, rfl⟩, (jtbl_in (List.mem_of_getElem? (i := 709) rfl) rfl), (jtbl_in (List.mem_of_getElem? (i := 686) rfl) rfl), (jtbl_in (List.mem_of_getElem? (i := 687) rfl) rfl), (jtbl_in (List.mem_of_getElem? (i := 8) rfl) rfl), (jtbl_in (List.mem_of_getElem? (i := 688) rfl) rfl), ⟨by decide +kernel, by decide +kernel, by decide +kernel⟩⟩
set_option maxRecDepth 20000 in
theorem l_X0_105 : jlV RX0 105 0 yX0_speaks D_X0_speaks 3 := ⟨⟨_, _, rfl⟩, (jtbl_in (List.mem_of_getElem? (i := 714) rfl) rfl), (jtbl_in (List.mem_of_getElem? (i := 716) rfl) rfl), (jtbl_sel (List.mem_of_getElem? (i := 24) rfl) rfl), (jtbl_in (List.mem_of_getElem? (i := 8) rfl) rfl), (jtbl_in (List.mem_of_getElem? (i := 717) rfl) rfl), ⟨by decide +kernel, by decide +kernel, by decide +kernel⟩⟩
set_option maxRecDepth 20000 in
theorem l_X0_109 : jlV RX0 109 0 yX0_asked D_X0_asked 2 := ⟨⟨_, _, rfl⟩, (jtbl_in (List.mem_of_getElem? (i := 726) rfl) rfl), (jtbl_in (List.mem_of_getElem? (i := 711) rfl) rfl), (jtbl_in (List.mem_of_getElem? (i := 712) rfl) rfl), (jtbl_in (List.mem_of_getElem? (i := 8) rfl) rfl), (jtbl_in (List.mem_of_getElem? (i := 713) rfl) rfl), ⟨by decide +kernel, by decide +kernel, by decide +kernel⟩⟩
set_option maxRecDepth 20000 in
theorem l_X0_112 : jlV RX0 112 0 yX0_startsTooLate D_X0_startsTooLate 2 := ⟨⟨_, _, rfl⟩, (jtbl_in (List.mem_of_getElem? (i := 735) rfl) rfl), (jtbl_in (List.mem_of_getElem? (i := 737) rfl) rfl), (jtbl_sel (List.mem_of_getElem? (i := 25) rfl) rfl), (jtbl_in (List.mem_of_getElem? (i := 8) rfl) rfl), (jtbl_in (List.mem_of_getElem? (i := 738) rfl) rfl), ⟨by decide +kernel, by decide +kernel, by decide +kernel⟩⟩
set_option maxRecDepth 20000 in
theorem l_X1_56 : jlV RX1 56 4 yX4_inTruth D_X4_inTruth 3 := ⟨⟨_, _, rfl⟩, (jtbl_in (List.mem_of_getElem? (i := 785) rfl) rfl), (jtbl_in (List.mem_of_getElem? (i := 764) rfl) rfl), (jtbl_in (List.mem_of_getElem? (i := 765) rfl) rfl), (jtbl_in (List.mem_of_getElem? (i := 2) rfl) rfl), (jtbl_in (List.mem_of_getElem? (i := 766) rfl) rfl), ⟨by decide +kernel, by decide +kernel, by decide +kernel⟩⟩
set_option maxRecDepth 20000 in
theorem l_X1_68 : jlV RX1 68 1 yX1_lasts D_X1_lasts 2 := ⟨⟨_, _, rfl⟩, (jtbl_in (List.mem_of_getElem? (i := 790) rfl) rfl), (jtbl_in (List.mem_of_getElem? (i := 792) rfl) rfl), (jtbl_sel (List.mem_of_getElem? (i := 28) rfl) rfl), (jtbl_in (List.mem_of_getElem? (i := 4) rfl) rfl), (jtbl_in (List.mem_of_getElem? (i := 793) rfl) rfl), ⟨by decide +kernel, by decide +kernel, by decide +kernel⟩⟩
set_option maxRecDepth 20000 in
theorem l_X1_74 : jlV RX1 74 1 yX1_bothIn D_X1_bothIn 2 := ⟨⟨_, _, rfl⟩, (jtbl_in (List.mem_of_getElem? (i := 831) rfl) rfl), (jtbl_in (List.mem_of_getElem? (i := 833) rfl) rfl), (jtbl_sel (List.mem_of_getElem? (i := 31) rfl) rfl), (jtbl_in (List.mem_of_getElem? (i := 4) rfl) rfl), (jtbl_in (List.mem_of_getElem? (i := 834) rfl) rfl), ⟨by decide +kernel, by decide +kernel, by decide +kernel⟩⟩
set_option maxRecDepth 20000 in
theorem l_X1_78 : jlS RX1 78 yJ6_bitCount_0f7a4 D_J6_bitCount_0f7a4 1 := ⟨(jtbl_in (List.mem_of_getElem? (i := 844) rfl) rfl), (jtbl_in (List.mem_of_getElem? (i := 845) rfl) rfl), (jtbl_in (List.mem_of_getElem? (i := 16) rfl) rfl), (jtbl_in (List.mem_of_getElem? (i := 846) rfl) rfl), ⟨by decide +kernel, by decide +kernel, by decide +kernel⟩⟩
set_option maxRecDepth 20000 in
theorem l_X1_84 : jlV RX1 84 1 yX1_isPeaceful D_X1_isPeaceful 2 := ⟨⟨_, _, rfl⟩, (jtbl_in (List.mem_of_getElem? (i := 850) rfl) rfl), (jtbl_in (List.mem_of_getElem? (i := 852) rfl) rfl), (jtbl_sel (List.mem_of_getElem? (i := 32) rfl) rfl), (jtbl_in (List.mem_of_getElem? (i := 4) rfl) rfl), (jtbl_in (List.mem_of_getElem? (i := 853) rfl) rfl), ⟨by decide +kernel, by decide +kernel, by decide +kernel⟩⟩
set_option maxRecDepth 20000 in
theorem l_X2_41 : jlV RX2 41 2 yX2_fine D_X2_fine 1 := ⟨⟨_, _, rfl⟩, (jtbl_in (List.mem_of_getElem? (i := 958) rfl) rfl), (jtbl_in (List.mem_of_getElem? (i := 939) rfl) rfl), (jtbl_in (List.mem_of_getElem? (i := 940) rfl) rfl), (jtbl_in (List.mem_of_getElem? (i := 6) rfl) rfl), (jtbl_in (List.mem_of_getElem? (i := 941) rfl) rfl), ⟨by decide +kernel, by decide +kernel, by decide +kernel⟩⟩
set_option maxRecDepth 20000 in
theorem l_X3_36 : jlV RX3 36 3 yX3_narrow D_X3_narrow 3 := ⟨⟨_, _, rfl⟩, (jtbl_in (List.mem_of_getElem? (i := 438) rfl) rfl), (jtbl_in (List.mem_of_getElem? (i := 440) rfl) rfl), (jtbl_sel (List.mem_of_getElem? (i := 0) rfl) rfl), (jtbl_in (List.mem_of_getElem? (i := 3) rfl) rfl), (jtbl_in (List.mem_of_getElem? (i := 441) rfl) rfl), ⟨by decide +kernel, by decide +kernel, by decide +kernel⟩⟩
set_option maxRecDepth 20000 in
theorem l_X4_37 : jlV RX4 37 4 yX4_checkAhead D_X4_checkAhead 2 := ⟨⟨_, _, rfl⟩, (jtbl_in (List.mem_of_getElem? (i := 767) rfl) rfl), (jtbl_in (List.mem_of_getElem? (i := 769) rfl) rfl), (jtbl_sel (List.mem_of_getElem? (i := 26) rfl) rfl), (jtbl_in (List.mem_of_getElem? (i := 2) rfl) rfl), (jtbl_in (List.mem_of_getElem? (i := 770) rfl) rfl), ⟨by decide +kernel, by decide +kernel, by decide +kernel⟩⟩
set_option maxRecDepth 20000 in
theorem l_X4_41 : jlV RX4 41 4 yX4_checkBehind D_X4_checkBehind 2 := ⟨⟨_, _, rfl⟩, (jtbl_in (List.mem_of_getElem? (i := 771) rfl) rfl), (jtbl_in (List.mem_of_getElem? (i := 773) rfl) rfl), (jtbl_sel (List.mem_of_getElem? (i := 27) rfl) rfl), (jtbl_in (List.mem_of_getElem? (i := 2) rfl) rfl), (jtbl_in (List.mem_of_getElem? (i := 774) rfl) rfl), ⟨by decide +kernel, by decide +kernel, by decide +kernel⟩⟩
set_option maxRecDepth 20000 in
theorem l_X5_27 : jlV RX5 27 0 yX0_forget D_X0_forget 0 := ⟨⟨_, _, rfl⟩, (jtbl_in (List.mem_of_getElem? (i := 488) rfl) rfl), (jtbl_in (List.mem_of_getElem? (i := 489) rfl) rfl), (jtbl_in (List.mem_of_getElem? (i := 490) rfl) rfl), (jtbl_in (List.mem_of_getElem? (i := 8) rfl) rfl), (jtbl_in (List.mem_of_getElem? (i := 491) rfl) rfl), ⟨by decide +kernel, by decide +kernel, by decide +kernel⟩⟩
set_option maxRecDepth 20000 in
theorem l_X5_38 : jlV RX5 38 5 yX5_step D_X5_step 0 := ⟨⟨_, _, rfl⟩, (jtbl_in (List.mem_of_getElem? (i := 492) rfl) rfl), (jtbl_in (List.mem_of_getElem? (i := 494) rfl) rfl), (jtbl_sel (List.mem_of_getElem? (i := 1) rfl) rfl), (jtbl_in (List.mem_of_getElem? (i := 9) rfl) rfl), (jtbl_in (List.mem_of_getElem? (i := 495) rfl) rfl), ⟨by decide +kernel, by decide +kernel, by decide +kernel⟩⟩
set_option maxRecDepth 20000 in
theorem l_X5_46 : jlV RX5 46 5 yX5_isWord D_X5_isWord 1 := ⟨⟨_, _, rfl⟩, (jtbl_in (List.mem_of_getElem? (i := 498) rfl) rfl), (jtbl_in (List.mem_of_getElem? (i := 500) rfl) rfl), (jtbl_sel (List.mem_of_getElem? (i := 2) rfl) rfl), (jtbl_in (List.mem_of_getElem? (i := 9) rfl) rfl), (jtbl_in (List.mem_of_getElem? (i := 501) rfl) rfl), ⟨by decide +kernel, by decide +kernel, by decide +kernel⟩⟩
set_option maxRecDepth 20000 in
theorem l_X5_53 : jlV RX5 53 5 yX5_readHead D_X5_readHead 0 := ⟨⟨_, _, rfl⟩, (jtbl_in (List.mem_of_getElem? (i := 550) rfl) rfl), (jtbl_in (List.mem_of_getElem? (i := 552) rfl) rfl), (jtbl_sel (List.mem_of_getElem? (i := 3) rfl) rfl), (jtbl_in (List.mem_of_getElem? (i := 9) rfl) rfl), (jtbl_in (List.mem_of_getElem? (i := 553) rfl) rfl), ⟨by decide +kernel, by decide +kernel, by decide +kernel⟩⟩
set_option maxRecDepth 20000 in
theorem l_X5_57 : jlV RX5 57 5 yX5_readIf D_X5_readIf 0 := ⟨⟨_, _, rfl⟩, (jtbl_in (List.mem_of_getElem? (i := 575) rfl) rfl), (jtbl_in (List.mem_of_getElem? (i := 577) rfl) rfl), (jtbl_sel (List.mem_of_getElem? (i := 7) rfl) rfl), (jtbl_in (List.mem_of_getElem? (i := 9) rfl) rfl), (jtbl_in (List.mem_of_getElem? (i := 578) rfl) rfl), ⟨by decide +kernel, by decide +kernel, by decide +kernel⟩⟩
set_option maxRecDepth 20000 in
theorem l_X5_60 : jlV RX5 60 5 yX5_readDuties D_X5_readDuties 0 := ⟨⟨_, _, rfl⟩, (jtbl_in (List.mem_of_getElem? (i := 622) rfl) rfl), (jtbl_in (List.mem_of_getElem? (i := 624) rfl) rfl), (jtbl_sel (List.mem_of_getElem? (i := 16) rfl) rfl), (jtbl_in (List.mem_of_getElem? (i := 9) rfl) rfl), (jtbl_in (List.mem_of_getElem? (i := 625) rfl) rfl), ⟨by decide +kernel, by decide +kernel, by decide +kernel⟩⟩
set_option maxRecDepth 20000 in
theorem l_X5_65 : jlV RX5 65 5 yX5_readStrike D_X5_readStrike 0 := ⟨⟨_, _, rfl⟩, (jtbl_in (List.mem_of_getElem? (i := 661) rfl) rfl), (jtbl_in (List.mem_of_getElem? (i := 663) rfl) rfl), (jtbl_sel (List.mem_of_getElem? (i := 21) rfl) rfl), (jtbl_in (List.mem_of_getElem? (i := 9) rfl) rfl), (jtbl_in (List.mem_of_getElem? (i := 664) rfl) rfl), ⟨by decide +kernel, by decide +kernel, by decide +kernel⟩⟩
set_option maxRecDepth 20000 in
set_option maxRecDepth 20000 in
set_option maxRecDepth 20000 in
theorem l_X5_86 : jlV RX5 86 0 yX0_find D_X0_find 1 := ⟨⟨_, _, rfl⟩, (jtbl_in (List.mem_of_getElem? (i := 554) rfl) rfl), (jtbl_in (List.mem_of_getElem? (i := 555) rfl) rfl), (jtbl_in (List.mem_of_getElem? (i := 556) rfl) rfl), (jtbl_in (List.mem_of_getElem? (i := 8) rfl) rfl), (jtbl_in (List.mem_of_getElem? (i := 557) rfl) rfl), ⟨by decide +kernel, by decide +kernel, by decide +kernel⟩⟩
set_option maxRecDepth 20000 in
theorem l_X5_90 : jlV RX5 90 5 yX5_takeNumber D_X5_takeNumber 2 := ⟨⟨_, _, rfl⟩, (jtbl_in (List.mem_of_getElem? (i := 558) rfl) rfl), (jtbl_in (List.mem_of_getElem? (i := 560) rfl) rfl), (jtbl_sel (List.mem_of_getElem? (i := 4) rfl) rfl), (jtbl_in (List.mem_of_getElem? (i := 9) rfl) rfl), (jtbl_in (List.mem_of_getElem? (i := 561) rfl) rfl), ⟨by decide +kernel, by decide +kernel, by decide +kernel⟩⟩
set_option maxRecDepth 20000 in
theorem l_X5_95 : jlV RX5 95 5 yX5_takeWord D_X5_takeWord 1 := ⟨⟨_, _, rfl⟩, (jtbl_in (List.mem_of_getElem? (i := 563) rfl) rfl), (jtbl_in (List.mem_of_getElem? (i := 565) rfl) rfl), (jtbl_sel (List.mem_of_getElem? (i := 5) rfl) rfl), (jtbl_in (List.mem_of_getElem? (i := 9) rfl) rfl), (jtbl_in (List.mem_of_getElem? (i := 566) rfl) rfl), ⟨by decide +kernel, by decide +kernel, by decide +kernel⟩⟩
set_option maxRecDepth 20000 in
theorem l_X5_98 : jlV RX5 98 5 yX5_takeSign D_X5_takeSign 1 := ⟨⟨_, _, rfl⟩, (jtbl_in (List.mem_of_getElem? (i := 567) rfl) rfl), (jtbl_in (List.mem_of_getElem? (i := 569) rfl) rfl), (jtbl_sel (List.mem_of_getElem? (i := 6) rfl) rfl), (jtbl_in (List.mem_of_getElem? (i := 9) rfl) rfl), (jtbl_in (List.mem_of_getElem? (i := 570) rfl) rfl), ⟨by decide +kernel, by decide +kernel, by decide +kernel⟩⟩
set_option maxRecDepth 20000 in
theorem l_X5_102 : jlV RX5 102 0 yX0_add D_X0_add 3 := ⟨⟨_, _, rfl⟩, (jtbl_in (List.mem_of_getElem? (i := 571) rfl) rfl), (jtbl_in (List.mem_of_getElem? (i := 572) rfl) rfl), (jtbl_in (List.mem_of_getElem? (i := 573) rfl) rfl), (jtbl_in (List.mem_of_getElem? (i := 8) rfl) rfl), (jtbl_in (List.mem_of_getElem? (i := 574) rfl) rfl), ⟨by decide +kernel, by decide +kernel, by decide +kernel⟩⟩
set_option maxRecDepth 20000 in
theorem l_X5_108 : jlV RX5 108 5 yX5_readCond D_X5_readCond 0 := ⟨⟨_, _, rfl⟩, (jtbl_in (List.mem_of_getElem? (i := 580) rfl) rfl), (jtbl_in (List.mem_of_getElem? (i := 582) rfl) rfl), (jtbl_sel (List.mem_of_getElem? (i := 8) rfl) rfl), (jtbl_in (List.mem_of_getElem? (i := 9) rfl) rfl), (jtbl_in (List.mem_of_getElem? (i := 583) rfl) rfl), ⟨by decide +kernel, by decide +kernel, by decide +kernel⟩⟩
set_option maxRecDepth 20000 in
theorem l_X5_113 : jlV RX5 113 0 yX0_strike D_X0_strike 2 := ⟨⟨_, _, rfl⟩, (jtbl_in (List.mem_of_getElem? (i := 665) rfl) rfl), (jtbl_in (List.mem_of_getElem? (i := 666) rfl) rfl), (jtbl_in (List.mem_of_getElem? (i := 667) rfl) rfl), (jtbl_in (List.mem_of_getElem? (i := 8) rfl) rfl), (jtbl_in (List.mem_of_getElem? (i := 668) rfl) rfl), ⟨by decide +kernel, by decide +kernel, by decide +kernel⟩⟩
set_option maxRecDepth 20000 in
theorem l_X5_116 : jlV RX5 116 5 yX5_readDuty D_X5_readDuty 0 := ⟨⟨_, _, rfl⟩, (jtbl_in (List.mem_of_getElem? (i := 626) rfl) rfl), (jtbl_in (List.mem_of_getElem? (i := 628) rfl) rfl), (jtbl_sel (List.mem_of_getElem? (i := 17) rfl) rfl), (jtbl_in (List.mem_of_getElem? (i := 9) rfl) rfl), (jtbl_in (List.mem_of_getElem? (i := 629) rfl) rfl), ⟨by decide +kernel, by decide +kernel, by decide +kernel⟩⟩
set_option maxRecDepth 20000 in
theorem l_X5_119 : jlV RX5 119 0 yX0_countDuty D_X0_countDuty 0 := ⟨⟨_, _, rfl⟩, (jtbl_in (List.mem_of_getElem? (i := 656) rfl) rfl), (jtbl_in (List.mem_of_getElem? (i := 657) rfl) rfl), (jtbl_in (List.mem_of_getElem? (i := 658) rfl) rfl), (jtbl_in (List.mem_of_getElem? (i := 8) rfl) rfl), (jtbl_in (List.mem_of_getElem? (i := 659) rfl) rfl), ⟨by decide +kernel, by decide +kernel, by decide +kernel⟩⟩
set_option maxRecDepth 20000 in
theorem l_X5_122 : jlV RX5 122 5 yX5_dutyWord D_X5_dutyWord 0 := ⟨⟨_, _, rfl⟩, (jtbl_in (List.mem_of_getElem? (i := 630) rfl) rfl), (jtbl_in (List.mem_of_getElem? (i := 632) rfl) rfl), (jtbl_sel (List.mem_of_getElem? (i := 18) rfl) rfl), (jtbl_in (List.mem_of_getElem? (i := 9) rfl) rfl), (jtbl_in (List.mem_of_getElem? (i := 633) rfl) rfl), ⟨by decide +kernel, by decide +kernel, by decide +kernel⟩⟩
set_option maxRecDepth 20000 in
theorem l_X5_125 : jlV RX5 125 0 yX0_tellsLast D_X0_tellsLast 1 := ⟨⟨_, _, rfl⟩, (jtbl_in (List.mem_of_getElem? (i := 639) rfl) rfl), (jtbl_in (List.mem_of_getElem? (i := 640) rfl) rfl), (jtbl_in (List.mem_of_getElem? (i := 641) rfl) rfl), (jtbl_in (List.mem_of_getElem? (i := 8) rfl) rfl), (jtbl_in (List.mem_of_getElem? (i := 642) rfl) rfl), ⟨by decide +kernel, by decide +kernel, by decide +kernel⟩⟩
set_option maxRecDepth 20000 in
theorem l_X5_129 : jlV RX5 129 5 yX5_readTold D_X5_readTold 3 := ⟨⟨_, _, rfl⟩, (jtbl_in (List.mem_of_getElem? (i := 643) rfl) rfl), (jtbl_in (List.mem_of_getElem? (i := 645) rfl) rfl), (jtbl_sel (List.mem_of_getElem? (i := 19) rfl) rfl), (jtbl_in (List.mem_of_getElem? (i := 9) rfl) rfl), (jtbl_in (List.mem_of_getElem? (i := 646) rfl) rfl), ⟨by decide +kernel, by decide +kernel, by decide +kernel⟩⟩
set_option maxRecDepth 20000 in
theorem l_X5_133 : jlV RX5 133 5 yX5_readSpan D_X5_readSpan 0 := ⟨⟨_, _, rfl⟩, (jtbl_in (List.mem_of_getElem? (i := 651) rfl) rfl), (jtbl_in (List.mem_of_getElem? (i := 653) rfl) rfl), (jtbl_sel (List.mem_of_getElem? (i := 20) rfl) rfl), (jtbl_in (List.mem_of_getElem? (i := 9) rfl) rfl), (jtbl_in (List.mem_of_getElem? (i := 654) rfl) rfl), ⟨by decide +kernel, by decide +kernel, by decide +kernel⟩⟩
set_option maxRecDepth 20000 in
theorem l_X5_136 : jlV RX5 136 0 yX0_tell D_X0_tell 2 := ⟨⟨_, _, rfl⟩, (jtbl_in (List.mem_of_getElem? (i := 647) rfl) rfl), (jtbl_in (List.mem_of_getElem? (i := 648) rfl) rfl), (jtbl_in (List.mem_of_getElem? (i := 649) rfl) rfl), (jtbl_in (List.mem_of_getElem? (i := 8) rfl) rfl), (jtbl_in (List.mem_of_getElem? (i := 650) rfl) rfl), ⟨by decide +kernel, by decide +kernel, by decide +kernel⟩⟩
set_option maxRecDepth 20000 in
theorem l_X5_159 : jlV RX5 159 5 yX5_turnNext D_X5_turnNext 0 := ⟨⟨_, _, rfl⟩, (jtbl_in (List.mem_of_getElem? (i := 584) rfl) rfl), (jtbl_in (List.mem_of_getElem? (i := 586) rfl) rfl), (jtbl_sel (List.mem_of_getElem? (i := 9) rfl) rfl), (jtbl_in (List.mem_of_getElem? (i := 9) rfl) rfl), (jtbl_in (List.mem_of_getElem? (i := 587) rfl) rfl), ⟨by decide +kernel, by decide +kernel, by decide +kernel⟩⟩
set_option maxRecDepth 20000 in
theorem l_X5_162 : jlV RX5 162 5 yX5_waitFor D_X5_waitFor 1 := ⟨⟨_, _, rfl⟩, (jtbl_in (List.mem_of_getElem? (i := 588) rfl) rfl), (jtbl_in (List.mem_of_getElem? (i := 590) rfl) rfl), (jtbl_sel (List.mem_of_getElem? (i := 10) rfl) rfl), (jtbl_in (List.mem_of_getElem? (i := 9) rfl) rfl), (jtbl_in (List.mem_of_getElem? (i := 591) rfl) rfl), ⟨by decide +kernel, by decide +kernel, by decide +kernel⟩⟩
set_option maxRecDepth 20000 in
theorem l_X5_166 : jlV RX5 166 5 yX5_readTest D_X5_readTest 0 := ⟨⟨_, _, rfl⟩, (jtbl_in (List.mem_of_getElem? (i := 592) rfl) rfl), (jtbl_in (List.mem_of_getElem? (i := 594) rfl) rfl), (jtbl_sel (List.mem_of_getElem? (i := 11) rfl) rfl), (jtbl_in (List.mem_of_getElem? (i := 9) rfl) rfl), (jtbl_in (List.mem_of_getElem? (i := 595) rfl) rfl), ⟨by decide +kernel, by decide +kernel, by decide +kernel⟩⟩
set_option maxRecDepth 20000 in
theorem l_X5_169 : jlV RX5 169 5 yX5_release D_X5_release 1 := ⟨⟨_, _, rfl⟩, (jtbl_in (List.mem_of_getElem? (i := 613) rfl) rfl), (jtbl_in (List.mem_of_getElem? (i := 615) rfl) rfl), (jtbl_sel (List.mem_of_getElem? (i := 14) rfl) rfl), (jtbl_in (List.mem_of_getElem? (i := 9) rfl) rfl), (jtbl_in (List.mem_of_getElem? (i := 616) rfl) rfl), ⟨by decide +kernel, by decide +kernel, by decide +kernel⟩⟩
set_option maxRecDepth 20000 in
theorem l_X5_172 : jlV RX5 172 5 yX5_close D_X5_close 0 := ⟨⟨_, _, rfl⟩, (jtbl_in (List.mem_of_getElem? (i := 617) rfl) rfl), (jtbl_in (List.mem_of_getElem? (i := 619) rfl) rfl), (jtbl_sel (List.mem_of_getElem? (i := 15) rfl) rfl), (jtbl_in (List.mem_of_getElem? (i := 9) rfl) rfl), (jtbl_in (List.mem_of_getElem? (i := 620) rfl) rfl), ⟨by decide +kernel, by decide +kernel, by decide +kernel⟩⟩
set_option maxRecDepth 20000 in
theorem l_X5_175 : jlV RX5 175 0 yX0_addStep D_X0_addStep 2 := ⟨⟨_, _, rfl⟩, (jtbl_in (List.mem_of_getElem? (i := 605) rfl) rfl), (jtbl_in (List.mem_of_getElem? (i := 606) rfl) rfl), (jtbl_in (List.mem_of_getElem? (i := 607) rfl) rfl), (jtbl_in (List.mem_of_getElem? (i := 8) rfl) rfl), (jtbl_in (List.mem_of_getElem? (i := 608) rfl) rfl), ⟨by decide +kernel, by decide +kernel, by decide +kernel⟩⟩
set_option maxRecDepth 20000 in
theorem l_X5_178 : jlV RX5 178 5 yX5_testWord D_X5_testWord 0 := ⟨⟨_, _, rfl⟩, (jtbl_in (List.mem_of_getElem? (i := 596) rfl) rfl), (jtbl_in (List.mem_of_getElem? (i := 598) rfl) rfl), (jtbl_sel (List.mem_of_getElem? (i := 12) rfl) rfl), (jtbl_in (List.mem_of_getElem? (i := 9) rfl) rfl), (jtbl_in (List.mem_of_getElem? (i := 599) rfl) rfl), ⟨by decide +kernel, by decide +kernel, by decide +kernel⟩⟩
set_option maxRecDepth 20000 in
theorem l_X5_181 : jlV RX5 181 5 yX5_ageSign D_X5_ageSign 0 := ⟨⟨_, _, rfl⟩, (jtbl_in (List.mem_of_getElem? (i := 609) rfl) rfl), (jtbl_in (List.mem_of_getElem? (i := 611) rfl) rfl), (jtbl_sel (List.mem_of_getElem? (i := 13) rfl) rfl), (jtbl_in (List.mem_of_getElem? (i := 9) rfl) rfl), (jtbl_in (List.mem_of_getElem? (i := 612) rfl) rfl), ⟨by decide +kernel, by decide +kernel, by decide +kernel⟩⟩
set_option maxRecDepth 20000 in
theorem l_X6_35 : jlV RX6 35 6 yX6_fewestTo D_X6_fewestTo 3 := ⟨⟨_, _, rfl⟩, (jtbl_in (List.mem_of_getElem? (i := 980) rfl) rfl), (jtbl_in (List.mem_of_getElem? (i := 982) rfl) rfl), (jtbl_sel (List.mem_of_getElem? (i := 36) rfl) rfl), (jtbl_in (List.mem_of_getElem? (i := 7) rfl) rfl), (jtbl_in (List.mem_of_getElem? (i := 983) rfl) rfl), ⟨by decide +kernel, by decide +kernel, by decide +kernel⟩⟩
set_option maxRecDepth 20000 in
theorem l_X7_34 : jlV RX7 34 7 yX7_needing D_X7_needing 2 := ⟨⟨_, _, rfl⟩, (jtbl_in (List.mem_of_getElem? (i := 871) rfl) rfl), (jtbl_in (List.mem_of_getElem? (i := 873) rfl) rfl), (jtbl_sel (List.mem_of_getElem? (i := 33) rfl) rfl), (jtbl_in (List.mem_of_getElem? (i := 5) rfl) rfl), (jtbl_in (List.mem_of_getElem? (i := 874) rfl) rfl), ⟨by decide +kernel, by decide +kernel, by decide +kernel⟩⟩
set_option maxRecDepth 20000 in
theorem l_X7_51 : jlV RX7 51 7 yX7_isShift D_X7_isShift 4 := ⟨⟨_, _, rfl⟩, (jtbl_in (List.mem_of_getElem? (i := 875) rfl) rfl), (jtbl_in (List.mem_of_getElem? (i := 877) rfl) rfl), (jtbl_sel (List.mem_of_getElem? (i := 34) rfl) rfl), (jtbl_in (List.mem_of_getElem? (i := 5) rfl) rfl), (jtbl_in (List.mem_of_getElem? (i := 878) rfl) rfl), ⟨by decide +kernel, by decide +kernel, by decide +kernel⟩⟩
set_option maxRecDepth 20000 in
theorem l_X7_60 : jlV RX7 60 7 yX7_wanted D_X7_wanted 2 := ⟨⟨_, _, rfl⟩, (jtbl_in (List.mem_of_getElem? (i := 884) rfl) rfl), (jtbl_in (List.mem_of_getElem? (i := 886) rfl) rfl), (jtbl_sel (List.mem_of_getElem? (i := 35) rfl) rfl), (jtbl_in (List.mem_of_getElem? (i := 5) rfl) rfl), (jtbl_in (List.mem_of_getElem? (i := 887) rfl) rfl), ⟨by decide +kernel, by decide +kernel, by decide +kernel⟩⟩
set_option maxRecDepth 20000 in
theorem l_X9_120 : jlS RX9 120 yX9_word D_X9_word 6 := ⟨(jtbl_in (List.mem_of_getElem? (i := 1003) rfl) rfl), (jtbl_in (List.mem_of_getElem? (i := 1004) rfl) rfl), (jtbl_in (List.mem_of_getElem? (i := 10) rfl) rfl), (jtbl_in (List.mem_of_getElem? (i := 1005) rfl) rfl), ⟨by decide +kernel, by decide +kernel, by decide +kernel⟩⟩
set_option maxRecDepth 20000 in
theorem l_X9_130 : jlS RX9 130 yX9_add D_X9_add 2 := ⟨(jtbl_in (List.mem_of_getElem? (i := 1006) rfl) rfl), (jtbl_in (List.mem_of_getElem? (i := 1007) rfl) rfl), (jtbl_in (List.mem_of_getElem? (i := 10) rfl) rfl), (jtbl_in (List.mem_of_getElem? (i := 1008) rfl) rfl), ⟨by decide +kernel, by decide +kernel, by decide +kernel⟩⟩
set_option maxRecDepth 20000 in
theorem l_X9_137 : jlS RX9 137 yX9_in D_X9_in 3 := ⟨(jtbl_in (List.mem_of_getElem? (i := 1171) rfl) rfl), (jtbl_in (List.mem_of_getElem? (i := 1172) rfl) rfl), (jtbl_in (List.mem_of_getElem? (i := 10) rfl) rfl), (jtbl_in (List.mem_of_getElem? (i := 1173) rfl) rfl), ⟨by decide +kernel, by decide +kernel, by decide +kernel⟩⟩
set_option maxRecDepth 20000 in
theorem l_X9_144 : jlV RX9 144 9 yX9_isHand D_X9_isHand 1 := ⟨⟨_, _, rfl⟩, (jtbl_in (List.mem_of_getElem? (i := 1182) rfl) rfl), (jtbl_in (List.mem_of_getElem? (i := 1184) rfl) rfl), (jtbl_sel (List.mem_of_getElem? (i := 37) rfl) rfl), (jtbl_in (List.mem_of_getElem? (i := 10) rfl) rfl), (jtbl_in (List.mem_of_getElem? (i := 1185) rfl) rfl), ⟨by decide +kernel, by decide +kernel, by decide +kernel⟩⟩
set_option maxRecDepth 20000 in
theorem l_X9_162 : jlV RX9 162 9 yX9_customOf D_X9_customOf 2 := ⟨⟨_, _, rfl⟩, (jtbl_in (List.mem_of_getElem? (i := 1191) rfl) rfl), (jtbl_in (List.mem_of_getElem? (i := 1193) rfl) rfl), (jtbl_sel (List.mem_of_getElem? (i := 38) rfl) rfl), (jtbl_in (List.mem_of_getElem? (i := 10) rfl) rfl), (jtbl_in (List.mem_of_getElem? (i := 1194) rfl) rfl), ⟨by decide +kernel, by decide +kernel, by decide +kernel⟩⟩
set_option maxRecDepth 20000 in
theorem l_X9_166 : jlS RX9 166 yX9_isDay D_X9_isDay 1 := ⟨(jtbl_in (List.mem_of_getElem? (i := 1199) rfl) rfl), (jtbl_in (List.mem_of_getElem? (i := 1200) rfl) rfl), (jtbl_in (List.mem_of_getElem? (i := 10) rfl) rfl), (jtbl_in (List.mem_of_getElem? (i := 1201) rfl) rfl), ⟨by decide +kernel, by decide +kernel, by decide +kernel⟩⟩
set_option maxRecDepth 20000 in
theorem l_X9_169 : jlV RX9 169 9 yX9_bornOf D_X9_bornOf 2 := ⟨⟨_, _, rfl⟩, (jtbl_in (List.mem_of_getElem? (i := 1206) rfl) rfl), (jtbl_in (List.mem_of_getElem? (i := 1208) rfl) rfl), (jtbl_sel (List.mem_of_getElem? (i := 39) rfl) rfl), (jtbl_in (List.mem_of_getElem? (i := 10) rfl) rfl), (jtbl_in (List.mem_of_getElem? (i := 1209) rfl) rfl), ⟨by decide +kernel, by decide +kernel, by decide +kernel⟩⟩
set_option maxRecDepth 20000 in
theorem l_X9_172 : jlV RX9 172 9 yX9_ageOf D_X9_ageOf 3 := ⟨⟨_, _, rfl⟩, (jtbl_in (List.mem_of_getElem? (i := 1214) rfl) rfl), (jtbl_in (List.mem_of_getElem? (i := 1216) rfl) rfl), (jtbl_sel (List.mem_of_getElem? (i := 40) rfl) rfl), (jtbl_in (List.mem_of_getElem? (i := 10) rfl) rfl), (jtbl_in (List.mem_of_getElem? (i := 1217) rfl) rfl), ⟨by decide +kernel, by decide +kernel, by decide +kernel⟩⟩
set_option maxRecDepth 20000 in
theorem l_X9_184 : jlV RX9 184 9 yX9_byteAt D_X9_byteAt 1 := ⟨⟨_, _, rfl⟩, (jtbl_in (List.mem_of_getElem? (i := 1235) rfl) rfl), (jtbl_in (List.mem_of_getElem? (i := 1237) rfl) rfl), (jtbl_sel (List.mem_of_getElem? (i := 42) rfl) rfl), (jtbl_in (List.mem_of_getElem? (i := 10) rfl) rfl), (jtbl_in (List.mem_of_getElem? (i := 1238) rfl) rfl), ⟨by decide +kernel, by decide +kernel, by decide +kernel⟩⟩
set_option maxRecDepth 20000 in
theorem l_X9_197 : jlS RX9 197 yX9_isDigit D_X9_isDigit 1 := ⟨(jtbl_in (List.mem_of_getElem? (i := 1239) rfl) rfl), (jtbl_in (List.mem_of_getElem? (i := 1240) rfl) rfl), (jtbl_in (List.mem_of_getElem? (i := 10) rfl) rfl), (jtbl_in (List.mem_of_getElem? (i := 1241) rfl) rfl), ⟨by decide +kernel, by decide +kernel, by decide +kernel⟩⟩
set_option maxRecDepth 20000 in
theorem l_X9_203 : jlV RX9 203 9 yX9_isWell D_X9_isWell 0 := ⟨⟨_, _, rfl⟩, (jtbl_in (List.mem_of_getElem? (i := 1242) rfl) rfl), (jtbl_in (List.mem_of_getElem? (i := 1244) rfl) rfl), (jtbl_sel (List.mem_of_getElem? (i := 43) rfl) rfl), (jtbl_in (List.mem_of_getElem? (i := 10) rfl) rfl), (jtbl_in (List.mem_of_getElem? (i := 1245) rfl) rfl), ⟨by decide +kernel, by decide +kernel, by decide +kernel⟩⟩
set_option maxRecDepth 20000 in
theorem l_X9_207 : jlV RX9 207 9 yX9_isSign D_X9_isSign 1 := ⟨⟨_, _, rfl⟩, (jtbl_in (List.mem_of_getElem? (i := 1274) rfl) rfl), (jtbl_in (List.mem_of_getElem? (i := 1276) rfl) rfl), (jtbl_sel (List.mem_of_getElem? (i := 51) rfl) rfl), (jtbl_in (List.mem_of_getElem? (i := 10) rfl) rfl), (jtbl_in (List.mem_of_getElem? (i := 1277) rfl) rfl), ⟨by decide +kernel, by decide +kernel, by decide +kernel⟩⟩
set_option maxRecDepth 20000 in
theorem l_X9_210 : jlV RX9 210 9 yX9_advances D_X9_advances 0 := ⟨⟨_, _, rfl⟩, (jtbl_in (List.mem_of_getElem? (i := 1231) rfl) rfl), (jtbl_in (List.mem_of_getElem? (i := 1233) rfl) rfl), (jtbl_sel (List.mem_of_getElem? (i := 41) rfl) rfl), (jtbl_in (List.mem_of_getElem? (i := 10) rfl) rfl), (jtbl_in (List.mem_of_getElem? (i := 1234) rfl) rfl), ⟨by decide +kernel, by decide +kernel, by decide +kernel⟩⟩
set_option maxRecDepth 20000 in
theorem l_X9_213 : jlV RX9 213 9 yX9_fails D_X9_fails 0 := ⟨⟨_, _, rfl⟩, (jtbl_in (List.mem_of_getElem? (i := 1254) rfl) rfl), (jtbl_in (List.mem_of_getElem? (i := 1256) rfl) rfl), (jtbl_sel (List.mem_of_getElem? (i := 46) rfl) rfl), (jtbl_in (List.mem_of_getElem? (i := 10) rfl) rfl), (jtbl_in (List.mem_of_getElem? (i := 1257) rfl) rfl), ⟨by decide +kernel, by decide +kernel, by decide +kernel⟩⟩
set_option maxRecDepth 20000 in
theorem l_X9_216 : jlV RX9 216 9 yX9_isWord D_X9_isWord 1 := ⟨⟨_, _, rfl⟩, (jtbl_in (List.mem_of_getElem? (i := 1246) rfl) rfl), (jtbl_in (List.mem_of_getElem? (i := 1248) rfl) rfl), (jtbl_sel (List.mem_of_getElem? (i := 44) rfl) rfl), (jtbl_in (List.mem_of_getElem? (i := 10) rfl) rfl), (jtbl_in (List.mem_of_getElem? (i := 1249) rfl) rfl), ⟨by decide +kernel, by decide +kernel, by decide +kernel⟩⟩
set_option maxRecDepth 20000 in
theorem l_X9_225 : jlV RX9 225 9 yX9_waits D_X9_waits 3 := ⟨⟨_, _, rfl⟩, (jtbl_in (List.mem_of_getElem? (i := 1282) rfl) rfl), (jtbl_in (List.mem_of_getElem? (i := 1284) rfl) rfl), (jtbl_sel (List.mem_of_getElem? (i := 53) rfl) rfl), (jtbl_in (List.mem_of_getElem? (i := 10) rfl) rfl), (jtbl_in (List.mem_of_getElem? (i := 1285) rfl) rfl), ⟨by decide +kernel, by decide +kernel, by decide +kernel⟩⟩
set_option maxRecDepth 20000 in
theorem l_X9_228 : jlV RX9 228 9 yX9_takesNumber D_X9_takesNumber 2 := ⟨⟨_, _, rfl⟩, (jtbl_in (List.mem_of_getElem? (i := 1262) rfl) rfl), (jtbl_in (List.mem_of_getElem? (i := 1264) rfl) rfl), (jtbl_sel (List.mem_of_getElem? (i := 48) rfl) rfl), (jtbl_in (List.mem_of_getElem? (i := 10) rfl) rfl), (jtbl_in (List.mem_of_getElem? (i := 1265) rfl) rfl), ⟨by decide +kernel, by decide +kernel, by decide +kernel⟩⟩
set_option maxRecDepth 20000 in
theorem l_X9_231 : jlV RX9 231 9 yX9_takesSign D_X9_takesSign 1 := ⟨⟨_, _, rfl⟩, (jtbl_in (List.mem_of_getElem? (i := 1270) rfl) rfl), (jtbl_in (List.mem_of_getElem? (i := 1272) rfl) rfl), (jtbl_sel (List.mem_of_getElem? (i := 50) rfl) rfl), (jtbl_in (List.mem_of_getElem? (i := 10) rfl) rfl), (jtbl_in (List.mem_of_getElem? (i := 1273) rfl) rfl), ⟨by decide +kernel, by decide +kernel, by decide +kernel⟩⟩
set_option maxRecDepth 20000 in
theorem l_X9_235 : jlV RX9 235 9 yX9_takesWord D_X9_takesWord 1 := ⟨⟨_, _, rfl⟩, (jtbl_in (List.mem_of_getElem? (i := 1266) rfl) rfl), (jtbl_in (List.mem_of_getElem? (i := 1268) rfl) rfl), (jtbl_sel (List.mem_of_getElem? (i := 49) rfl) rfl), (jtbl_in (List.mem_of_getElem? (i := 10) rfl) rfl), (jtbl_in (List.mem_of_getElem? (i := 1269) rfl) rfl), ⟨by decide +kernel, by decide +kernel, by decide +kernel⟩⟩
set_option maxRecDepth 20000 in
theorem l_X9_238 : jlV RX9 238 9 yX9_find D_X9_find 1 := ⟨⟨_, _, rfl⟩, (jtbl_in (List.mem_of_getElem? (i := 1258) rfl) rfl), (jtbl_in (List.mem_of_getElem? (i := 1260) rfl) rfl), (jtbl_sel (List.mem_of_getElem? (i := 47) rfl) rfl), (jtbl_in (List.mem_of_getElem? (i := 10) rfl) rfl), (jtbl_in (List.mem_of_getElem? (i := 1261) rfl) rfl), ⟨by decide +kernel, by decide +kernel, by decide +kernel⟩⟩
set_option maxRecDepth 20000 in
theorem l_X9_241 : jlV RX9 241 9 yX9_cond D_X9_cond 1 := ⟨⟨_, _, rfl⟩, (jtbl_in (List.mem_of_getElem? (i := 1278) rfl) rfl), (jtbl_in (List.mem_of_getElem? (i := 1280) rfl) rfl), (jtbl_sel (List.mem_of_getElem? (i := 52) rfl) rfl), (jtbl_in (List.mem_of_getElem? (i := 10) rfl) rfl), (jtbl_in (List.mem_of_getElem? (i := 1281) rfl) rfl), ⟨by decide +kernel, by decide +kernel, by decide +kernel⟩⟩
set_option maxRecDepth 20000 in
theorem l_X9_243 : jlV RX9 243 9 yX9_duties D_X9_duties 1 := ⟨⟨_, _, rfl⟩, (jtbl_in (List.mem_of_getElem? (i := 1286) rfl) rfl), (jtbl_in (List.mem_of_getElem? (i := 1288) rfl) rfl), (jtbl_sel (List.mem_of_getElem? (i := 54) rfl) rfl), (jtbl_in (List.mem_of_getElem? (i := 10) rfl) rfl), (jtbl_in (List.mem_of_getElem? (i := 1289) rfl) rfl), ⟨by decide +kernel, by decide +kernel, by decide +kernel⟩⟩
set_option maxRecDepth 20000 in
theorem l_X9_246 : jlV RX9 246 9 yX9_readsRule D_X9_readsRule 0 := ⟨⟨_, _, rfl⟩, (jtbl_in (List.mem_of_getElem? (i := 1250) rfl) rfl), (jtbl_in (List.mem_of_getElem? (i := 1252) rfl) rfl), (jtbl_sel (List.mem_of_getElem? (i := 45) rfl) rfl), (jtbl_in (List.mem_of_getElem? (i := 10) rfl) rfl), (jtbl_in (List.mem_of_getElem? (i := 1253) rfl) rfl), ⟨by decide +kernel, by decide +kernel, by decide +kernel⟩⟩
set_option maxRecDepth 20000 in
theorem l_X9_249 : jlV RX9 249 9 yX9_readsStrike D_X9_readsStrike 0 := ⟨⟨_, _, rfl⟩, (jtbl_in (List.mem_of_getElem? (i := 1290) rfl) rfl), (jtbl_in (List.mem_of_getElem? (i := 1292) rfl) rfl), (jtbl_sel (List.mem_of_getElem? (i := 55) rfl) rfl), (jtbl_in (List.mem_of_getElem? (i := 10) rfl) rfl), (jtbl_in (List.mem_of_getElem? (i := 1293) rfl) rfl), ⟨by decide +kernel, by decide +kernel, by decide +kernel⟩⟩
set_option maxRecDepth 20000 in
theorem l_X9_255 : jlS RX9 255 yX9_joins D_X9_joins 3 := ⟨(jtbl_in (List.mem_of_getElem? (i := 1310) rfl) rfl), (jtbl_in (List.mem_of_getElem? (i := 1311) rfl) rfl), (jtbl_in (List.mem_of_getElem? (i := 10) rfl) rfl), (jtbl_in (List.mem_of_getElem? (i := 1312) rfl) rfl), ⟨by decide +kernel, by decide +kernel, by decide +kernel⟩⟩
set_option maxRecDepth 20000 in
theorem l_X9_258 : jlV RX9 258 9 yX9_partOf D_X9_partOf 5 := ⟨⟨_, _, rfl⟩, (jtbl_in (List.mem_of_getElem? (i := 1313) rfl) rfl), (jtbl_in (List.mem_of_getElem? (i := 1315) rfl) rfl), (jtbl_sel (List.mem_of_getElem? (i := 59) rfl) rfl), (jtbl_in (List.mem_of_getElem? (i := 10) rfl) rfl), (jtbl_in (List.mem_of_getElem? (i := 1316) rfl) rfl), ⟨by decide +kernel, by decide +kernel, by decide +kernel⟩⟩
set_option maxRecDepth 20000 in
theorem l_X9_262 : jlV RX9 262 9 yX9_isMill D_X9_isMill 1 := ⟨⟨_, _, rfl⟩, (jtbl_in (List.mem_of_getElem? (i := 1302) rfl) rfl), (jtbl_in (List.mem_of_getElem? (i := 1304) rfl) rfl), (jtbl_sel (List.mem_of_getElem? (i := 57) rfl) rfl), (jtbl_in (List.mem_of_getElem? (i := 10) rfl) rfl), (jtbl_in (List.mem_of_getElem? (i := 1305) rfl) rfl), ⟨by decide +kernel, by decide +kernel, by decide +kernel⟩⟩
set_option maxRecDepth 20000 in
theorem l_X9_265 : jlV RX9 265 9 yX9_isPlace D_X9_isPlace 3 := ⟨⟨_, _, rfl⟩, (jtbl_in (List.mem_of_getElem? (i := 1298) rfl) rfl), (jtbl_in (List.mem_of_getElem? (i := 1300) rfl) rfl), (jtbl_sel (List.mem_of_getElem? (i := 56) rfl) rfl), (jtbl_in (List.mem_of_getElem? (i := 10) rfl) rfl), (jtbl_in (List.mem_of_getElem? (i := 1301) rfl) rfl), ⟨by decide +kernel, by decide +kernel, by decide +kernel⟩⟩
set_option maxRecDepth 20000 in
theorem l_X9_268 : jlV RX9 268 9 yX9_bindsOf D_X9_bindsOf 4 := ⟨⟨_, _, rfl⟩, (jtbl_in (List.mem_of_getElem? (i := 1306) rfl) rfl), (jtbl_in (List.mem_of_getElem? (i := 1308) rfl) rfl), (jtbl_sel (List.mem_of_getElem? (i := 58) rfl) rfl), (jtbl_in (List.mem_of_getElem? (i := 10) rfl) rfl), (jtbl_in (List.mem_of_getElem? (i := 1309) rfl) rfl), ⟨by decide +kernel, by decide +kernel, by decide +kernel⟩⟩
set_option maxRecDepth 20000 in
theorem l_X9_272 : jlV RX9 272 9 yX9_dutyOf D_X9_dutyOf 5 := ⟨⟨_, _, rfl⟩, (jtbl_in (List.mem_of_getElem? (i := 1321) rfl) rfl), (jtbl_in (List.mem_of_getElem? (i := 1323) rfl) rfl), (jtbl_sel (List.mem_of_getElem? (i := 60) rfl) rfl), (jtbl_in (List.mem_of_getElem? (i := 10) rfl) rfl), (jtbl_in (List.mem_of_getElem? (i := 1324) rfl) rfl), ⟨by decide +kernel, by decide +kernel, by decide +kernel⟩⟩
set_option maxRecDepth 20000 in
theorem l_X9_278 : jlV RX9 278 9 yX9_truthOf D_X9_truthOf 3 := ⟨⟨_, _, rfl⟩, (jtbl_in (List.mem_of_getElem? (i := 1349) rfl) rfl), (jtbl_in (List.mem_of_getElem? (i := 1351) rfl) rfl), (jtbl_sel (List.mem_of_getElem? (i := 61) rfl) rfl), (jtbl_in (List.mem_of_getElem? (i := 10) rfl) rfl), (jtbl_in (List.mem_of_getElem? (i := 1352) rfl) rfl), ⟨by decide +kernel, by decide +kernel, by decide +kernel⟩⟩
set_option maxRecDepth 20000 in
theorem l_X9_281 : jlV RX9 281 9 yX9_outOf D_X9_outOf 2 := ⟨⟨_, _, rfl⟩, (jtbl_in (List.mem_of_getElem? (i := 1369) rfl) rfl), (jtbl_in (List.mem_of_getElem? (i := 1371) rfl) rfl), (jtbl_sel (List.mem_of_getElem? (i := 65) rfl) rfl), (jtbl_in (List.mem_of_getElem? (i := 10) rfl) rfl), (jtbl_in (List.mem_of_getElem? (i := 1372) rfl) rfl), ⟨by decide +kernel, by decide +kernel, by decide +kernel⟩⟩
set_option maxRecDepth 20000 in
theorem l_X9_284 : jlV RX9 284 9 yX9_inOf D_X9_inOf 2 := ⟨⟨_, _, rfl⟩, (jtbl_in (List.mem_of_getElem? (i := 1373) rfl) rfl), (jtbl_in (List.mem_of_getElem? (i := 1375) rfl) rfl), (jtbl_sel (List.mem_of_getElem? (i := 66) rfl) rfl), (jtbl_in (List.mem_of_getElem? (i := 10) rfl) rfl), (jtbl_in (List.mem_of_getElem? (i := 1376) rfl) rfl), ⟨by decide +kernel, by decide +kernel, by decide +kernel⟩⟩
set_option maxRecDepth 20000 in
theorem l_X9_287 : jlV RX9 287 9 yX9_isLine D_X9_isLine 3 := ⟨⟨_, _, rfl⟩, (jtbl_in (List.mem_of_getElem? (i := 1361) rfl) rfl), (jtbl_in (List.mem_of_getElem? (i := 1363) rfl) rfl), (jtbl_sel (List.mem_of_getElem? (i := 63) rfl) rfl), (jtbl_in (List.mem_of_getElem? (i := 10) rfl) rfl), (jtbl_in (List.mem_of_getElem? (i := 1364) rfl) rfl), ⟨by decide +kernel, by decide +kernel, by decide +kernel⟩⟩
set_option maxRecDepth 20000 in
theorem l_X9_290 : jlV RX9 290 9 yX9_longOf D_X9_longOf 2 := ⟨⟨_, _, rfl⟩, (jtbl_in (List.mem_of_getElem? (i := 1365) rfl) rfl), (jtbl_in (List.mem_of_getElem? (i := 1367) rfl) rfl), (jtbl_sel (List.mem_of_getElem? (i := 64) rfl) rfl), (jtbl_in (List.mem_of_getElem? (i := 10) rfl) rfl), (jtbl_in (List.mem_of_getElem? (i := 1368) rfl) rfl), ⟨by decide +kernel, by decide +kernel, by decide +kernel⟩⟩
set_option maxRecDepth 20000 in
theorem l_X9_293 : jlV RX9 293 9 yX9_workOf D_X9_workOf 3 := ⟨⟨_, _, rfl⟩, (jtbl_in (List.mem_of_getElem? (i := 1357) rfl) rfl), (jtbl_in (List.mem_of_getElem? (i := 1359) rfl) rfl), (jtbl_sel (List.mem_of_getElem? (i := 62) rfl) rfl), (jtbl_in (List.mem_of_getElem? (i := 10) rfl) rfl), (jtbl_in (List.mem_of_getElem? (i := 1360) rfl) rfl), ⟨by decide +kernel, by decide +kernel, by decide +kernel⟩⟩
set_option maxRecDepth 20000 in
theorem l_X9_296 : jlV RX9 296 9 yX9_isBroken D_X9_isBroken 3 := ⟨⟨_, _, rfl⟩, (jtbl_in (List.mem_of_getElem? (i := 1385) rfl) rfl), (jtbl_in (List.mem_of_getElem? (i := 1387) rfl) rfl), (jtbl_sel (List.mem_of_getElem? (i := 68) rfl) rfl), (jtbl_in (List.mem_of_getElem? (i := 10) rfl) rfl), (jtbl_in (List.mem_of_getElem? (i := 1388) rfl) rfl), ⟨by decide +kernel, by decide +kernel, by decide +kernel⟩⟩
set_option maxRecDepth 20000 in
theorem l_X9_299 : jlV RX9 299 9 yX9_breachOf D_X9_breachOf 3 := ⟨⟨_, _, rfl⟩, (jtbl_in (List.mem_of_getElem? (i := 1381) rfl) rfl), (jtbl_in (List.mem_of_getElem? (i := 1383) rfl) rfl), (jtbl_sel (List.mem_of_getElem? (i := 67) rfl) rfl), (jtbl_in (List.mem_of_getElem? (i := 10) rfl) rfl), (jtbl_in (List.mem_of_getElem? (i := 1384) rfl) rfl), ⟨by decide +kernel, by decide +kernel, by decide +kernel⟩⟩
set_option maxRecDepth 20000 in
theorem l_X9_302 : jlS RX9 302 yX9_greatest D_X9_greatest 2 := ⟨(jtbl_in (List.mem_of_getElem? (i := 1401) rfl) rfl), (jtbl_in (List.mem_of_getElem? (i := 1402) rfl) rfl), (jtbl_in (List.mem_of_getElem? (i := 10) rfl) rfl), (jtbl_in (List.mem_of_getElem? (i := 1403) rfl) rfl), ⟨by decide +kernel, by decide +kernel, by decide +kernel⟩⟩
set_option maxRecDepth 20000 in
theorem l_X9_305 : jlS RX9 305 yX9_least D_X9_least 2 := ⟨(jtbl_in (List.mem_of_getElem? (i := 1404) rfl) rfl), (jtbl_in (List.mem_of_getElem? (i := 1405) rfl) rfl), (jtbl_in (List.mem_of_getElem? (i := 10) rfl) rfl), (jtbl_in (List.mem_of_getElem? (i := 1406) rfl) rfl), ⟨by decide +kernel, by decide +kernel, by decide +kernel⟩⟩
set_option maxRecDepth 20000 in
theorem l_X9_308 : jlV RX9 308 9 yX9_gathers D_X9_gathers 2 := ⟨⟨_, _, rfl⟩, (jtbl_in (List.mem_of_getElem? (i := 1393) rfl) rfl), (jtbl_in (List.mem_of_getElem? (i := 1395) rfl) rfl), (jtbl_sel (List.mem_of_getElem? (i := 69) rfl) rfl), (jtbl_in (List.mem_of_getElem? (i := 10) rfl) rfl), (jtbl_in (List.mem_of_getElem? (i := 1396) rfl) rfl), ⟨by decide +kernel, by decide +kernel, by decide +kernel⟩⟩
set_option maxRecDepth 20000 in
theorem l_X9_311 : jlV RX9 311 9 yX9_isClash D_X9_isClash 2 := ⟨⟨_, _, rfl⟩, (jtbl_in (List.mem_of_getElem? (i := 1397) rfl) rfl), (jtbl_in (List.mem_of_getElem? (i := 1399) rfl) rfl), (jtbl_sel (List.mem_of_getElem? (i := 70) rfl) rfl), (jtbl_in (List.mem_of_getElem? (i := 10) rfl) rfl), (jtbl_in (List.mem_of_getElem? (i := 1400) rfl) rfl), ⟨by decide +kernel, by decide +kernel, by decide +kernel⟩⟩
set_option maxRecDepth 20000 in
theorem l_X9_315 : jlS RX9 315 yX9_ones D_X9_ones 1 := ⟨(jtbl_in (List.mem_of_getElem? (i := 1411) rfl) rfl), (jtbl_in (List.mem_of_getElem? (i := 1412) rfl) rfl), (jtbl_in (List.mem_of_getElem? (i := 10) rfl) rfl), (jtbl_in (List.mem_of_getElem? (i := 1413) rfl) rfl), ⟨by decide +kernel, by decide +kernel, by decide +kernel⟩⟩
set_option maxRecDepth 20000 in
theorem l_X9_318 : jlV RX9 318 9 yX9_isRow D_X9_isRow 4 := ⟨⟨_, _, rfl⟩, (jtbl_in (List.mem_of_getElem? (i := 1422) rfl) rfl), (jtbl_in (List.mem_of_getElem? (i := 1424) rfl) rfl), (jtbl_sel (List.mem_of_getElem? (i := 71) rfl) rfl), (jtbl_in (List.mem_of_getElem? (i := 10) rfl) rfl), (jtbl_in (List.mem_of_getElem? (i := 1425) rfl) rfl), ⟨by decide +kernel, by decide +kernel, by decide +kernel⟩⟩
set_option maxRecDepth 20000 in
theorem l_X9_330 : jlV RX9 330 9 yX9_fineOf D_X9_fineOf 1 := ⟨⟨_, _, rfl⟩, (jtbl_in (List.mem_of_getElem? (i := 1447) rfl) rfl), (jtbl_in (List.mem_of_getElem? (i := 1449) rfl) rfl), (jtbl_sel (List.mem_of_getElem? (i := 72) rfl) rfl), (jtbl_in (List.mem_of_getElem? (i := 10) rfl) rfl), (jtbl_in (List.mem_of_getElem? (i := 1450) rfl) rfl), ⟨by decide +kernel, by decide +kernel, by decide +kernel⟩⟩
set_option maxRecDepth 20000 in
theorem lm_max : Cond.static Lib.Math.max.name ∈ jtbl ∧ Cond.initialized "java/lang/Math" ∈ jtbl ∧ Cond.code Lib.Math.max.name Lib.Math.max.code 2 (some .int) ∈ jtbl := ⟨(jtbl_in (List.mem_of_getElem? (i := 443) rfl) rfl), (jtbl_in (List.mem_of_getElem? (i := 11) rfl) rfl), (jtbl_in (List.mem_of_getElem? (i := 444) rfl) rfl)⟩
set_option maxRecDepth 20000 in
theorem lm_min : Cond.static Lib.Math.min.name ∈ jtbl ∧ Cond.initialized "java/lang/Math" ∈ jtbl ∧ Cond.code Lib.Math.min.name Lib.Math.min.code 2 (some .int) ∈ jtbl := ⟨(jtbl_in (List.mem_of_getElem? (i := 446) rfl) rfl), (jtbl_in (List.mem_of_getElem? (i := 11) rfl) rfl), (jtbl_in (List.mem_of_getElem? (i := 447) rfl) rfl)⟩
set_option maxRecDepth 20000 in
theorem c_X8_228 : Cond.constantLong RX8 228 (Int64.ofInt (-1)) ∈ jtbl := (jtbl_in (List.mem_of_getElem? (i := 896) rfl) rfl)
set_option maxRecDepth 20000 in
theorem lm_X0_60 : Cond.methodLink RX0 60 Lib.Math.min.name ∈ jtbl := (jtbl_in (List.mem_of_getElem? (i := 689) rfl) rfl)
set_option maxRecDepth 20000 in
theorem lm_X0_66 : Cond.methodLink RX0 66 Lib.Math.max.name ∈ jtbl := (jtbl_in (List.mem_of_getElem? (i := 690) rfl) rfl)
set_option maxRecDepth 20000 in
theorem lm_X1_62 : Cond.methodLink RX1 62 Lib.Math.max.name ∈ jtbl := (jtbl_in (List.mem_of_getElem? (i := 794) rfl) rfl)
set_option maxRecDepth 20000 in
theorem lm_X1_71 : Cond.methodLink RX1 71 Lib.Math.min.name ∈ jtbl := (jtbl_in (List.mem_of_getElem? (i := 835) rfl) rfl)
set_option maxRecDepth 20000 in
theorem c_X3_35 : Cond.constant RX3 35 (Int32.ofInt (100011)) ∈ jtbl := (jtbl_in (List.mem_of_getElem? (i := 419) rfl) rfl)
set_option maxRecDepth 20000 in
theorem lm_X3_40 : Cond.methodLink RX3 40 Lib.Math.max.name ∈ jtbl := (jtbl_in (List.mem_of_getElem? (i := 442) rfl) rfl)
set_option maxRecDepth 20000 in
theorem lm_X3_46 : Cond.methodLink RX3 46 Lib.Math.min.name ∈ jtbl := (jtbl_in (List.mem_of_getElem? (i := 445) rfl) rfl)
set_option maxRecDepth 20000 in
theorem lm_X4_44 : Cond.methodLink RX4 44 Lib.Math.max.name ∈ jtbl := (jtbl_in (List.mem_of_getElem? (i := 775) rfl) rfl)
set_option maxRecDepth 20000 in
theorem lm_X4_49 : Cond.methodLink RX4 49 Lib.Math.min.name ∈ jtbl := (jtbl_in (List.mem_of_getElem? (i := 776) rfl) rfl)
set_option maxRecDepth 20000 in
theorem lm_X5_71 : Cond.methodLink RX5 71 Lib.Math.min.name ∈ jtbl := (jtbl_in (List.mem_of_getElem? (i := 496) rfl) rfl)
set_option maxRecDepth 20000 in
theorem c_X6_31 : Cond.constant RX6 31 (Int32.ofInt (1000000)) ∈ jtbl := (jtbl_in (List.mem_of_getElem? (i := 979) rfl) rfl)
set_option maxRecDepth 20000 in
theorem lm_X6_39 : Cond.methodLink RX6 39 Lib.Math.min.name ∈ jtbl := (jtbl_in (List.mem_of_getElem? (i := 984) rfl) rfl)
set_option maxRecDepth 20000 in
theorem lm_X7_55 : Cond.methodLink RX7 55 Lib.Math.max.name ∈ jtbl := (jtbl_in (List.mem_of_getElem? (i := 879) rfl) rfl)
set_option maxRecDepth 20000 in
theorem lm_X7_63 : Cond.methodLink RX7 63 Lib.Math.min.name ∈ jtbl := (jtbl_in (List.mem_of_getElem? (i := 901) rfl) rfl)
set_option maxRecDepth 20000 in
theorem c_L_40 : Cond.constantLong RL 40 (Int64.ofInt (4294967295)) ∈ jtbl := (jtbl_in (List.mem_of_getElem? (i := 1480) rfl) rfl)
set_option maxRecDepth 20000 in
theorem c_X9_128 : Cond.constantLong RX9 128 (Int64.ofInt (256)) ∈ jtbl := (jtbl_in (List.mem_of_getElem? (i := 1009) rfl) rfl)
set_option maxRecDepth 20000 in
theorem c_X9_152 : Cond.constantLong RX9 152 (Int64.ofInt (11)) ∈ jtbl := (jtbl_in (List.mem_of_getElem? (i := 1186) rfl) rfl)
set_option maxRecDepth 20000 in
theorem c_X9_154 : Cond.constantLong RX9 154 (Int64.ofInt (101)) ∈ jtbl := (jtbl_in (List.mem_of_getElem? (i := 1187) rfl) rfl)
set_option maxRecDepth 20000 in
theorem c_X9_156 : Cond.constantLong RX9 156 (Int64.ofInt (1011)) ∈ jtbl := (jtbl_in (List.mem_of_getElem? (i := 1188) rfl) rfl)
set_option maxRecDepth 20000 in
theorem c_X9_158 : Cond.constantLong RX9 158 (Int64.ofInt (10001)) ∈ jtbl := (jtbl_in (List.mem_of_getElem? (i := 1189) rfl) rfl)
set_option maxRecDepth 20000 in
theorem c_X9_160 : Cond.constantLong RX9 160 (Int64.ofInt (100011)) ∈ jtbl := (jtbl_in (List.mem_of_getElem? (i := 1190) rfl) rfl)
set_option maxRecDepth 20000 in
theorem c_X9_179 : Cond.constantLong RX9 179 (Int64.ofInt (255)) ∈ jtbl := (jtbl_in (List.mem_of_getElem? (i := 1222) rfl) rfl)
set_option maxRecDepth 20000 in
theorem c_X9_322 : Cond.constantLong RX9 322 (Int64.ofInt (-1)) ∈ jtbl := (jtbl_in (List.mem_of_getElem? (i := 1430) rfl) rfl)
set_option maxRecDepth 20000 in
theorem c_X9_333 : Cond.constant RX9 333 (Int32.ofInt (100000)) ∈ jtbl := (jtbl_in (List.mem_of_getElem? (i := 1471) rfl) rfl)
set_option maxRecDepth 20000 in
theorem c_J6_265 : Cond.constant RJ6 265 (Int32.ofInt (1431655765)) ∈ jtbl := (jtbl_in (List.mem_of_getElem? (i := 847) rfl) rfl)
set_option maxRecDepth 20000 in
theorem c_J6_266 : Cond.constant RJ6 266 (Int32.ofInt (858993459)) ∈ jtbl := (jtbl_in (List.mem_of_getElem? (i := 848) rfl) rfl)
set_option maxRecDepth 20000 in
theorem c_J6_267 : Cond.constant RJ6 267 (Int32.ofInt (252645135)) ∈ jtbl := (jtbl_in (List.mem_of_getElem? (i := 849) rfl) rfl)
