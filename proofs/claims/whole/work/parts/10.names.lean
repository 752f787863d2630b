/-! Names: fields, methods; printed by program. -/
def RX0 : String := "BlindTables$Bag"
def TX0 : u_T := fun k => match k with
  | 0 => ("BlindTables$Bag", "first", "[I", true)
  | 1 => ("BlindTables$Bag", "second", "[I", true)
  | 2 => ("BlindTables$Bag", "third", "[I", true)
  | _ => ("BlindTables$Bag", "count", "I", false)
def tyX0 : Nat → FieldType := fun k => match k with
  | 0 => .array (.int)
  | 1 => .array (.int)
  | 2 => .array (.int)
  | _ => .int
theorem nmX0 : ∀ a, a < 4 → ∀ b, b < 4 → a ≠ b → (TX0 a).2.1 ≠ (TX0 b).2.1 := by decide +kernel
theorem tyX0_ok : ∀ k, k < 4 → parseFieldDescriptor (TX0 k).2.2.1 = some (tyX0 k) := by decide +kernel
theorem inX0 : ∀ w ∈ u_ws RX0 TX0 4, w ∈ gw := fun w hw => by
  obtain ⟨k, hk, rfl⟩ := List.mem_map.mp hw
  have hk := List.mem_range.mp hk
  rcases (show k = 0 ∨ k = 1 ∨ k = 2 ∨ k = 3 by omega) with rfl | rfl | rfl | rfl
  · exact (gw_1 (j := 36) rfl rfl)
  · exact (gw_1 (j := 38) rfl rfl)
  · exact (gw_1 (j := 40) rfl rfl)
  · exact (gw_1 (j := 42) rfl rfl)
def RX1 : String := "BlindTables$Joiner"
def TX1 : u_T := fun k => match k with
  | 0 => ("BlindTables$Joiner", "store", "LBlindTables$Store;", true)
  | _ => ("BlindTables$Joiner", "source", "LBlindTables$Row;", true)
def tyX1 : Nat → FieldType := fun k => match k with
  | 0 => .object "BlindTables$Store"
  | _ => .object "BlindTables$Row"
theorem nmX1 : ∀ a, a < 2 → ∀ b, b < 2 → a ≠ b → (TX1 a).2.1 ≠ (TX1 b).2.1 := by decide +kernel
theorem tyX1_ok : ∀ k, k < 2 → parseFieldDescriptor (TX1 k).2.2.1 = some (tyX1 k) := by decide +kernel
theorem inX1 : ∀ w ∈ u_ws RX1 TX1 2, w ∈ gw := fun w hw => by
  obtain ⟨k, hk, rfl⟩ := List.mem_map.mp hw
  have hk := List.mem_range.mp hk
  rcases (show k = 0 ∨ k = 1 by omega) with rfl | rfl
  · exact (gw_1 (j := 147) rfl rfl)
  · exact (gw_1 (j := 149) rfl rfl)
def RX2 : String := "BlindTables$Operators"
def TX2 : u_T := fun k => match k with
  | _ => ("BlindTables$Operators", "store", "LBlindTables$Store;", true)
def tyX2 : Nat → FieldType := fun k => match k with
  | _ => .object "BlindTables$Store"
theorem nmX2 : ∀ a, a < 1 → ∀ b, b < 1 → a ≠ b → (TX2 a).2.1 ≠ (TX2 b).2.1 := by decide +kernel
theorem tyX2_ok : ∀ k, k < 1 → parseFieldDescriptor (TX2 k).2.2.1 = some (tyX2 k) := by decide +kernel
theorem inX2 : ∀ w ∈ u_ws RX2 TX2 1, w ∈ gw := fun w hw => by
  obtain ⟨k, hk, rfl⟩ := List.mem_map.mp hw
  have hk := List.mem_range.mp hk
  rcases (show k = 0 by omega) with rfl
  · exact (gw_1 (j := 134) rfl rfl)
def RX3 : String := "BlindTables$Row"
def TX3 : u_T := fun k => match k with
  | 0 => ("BlindTables$Row", "a", "I", false)
  | 1 => ("BlindTables$Row", "b", "I", false)
  | 2 => ("BlindTables$Row", "c", "I", false)
  | 3 => ("BlindTables$Row", "key", "I", false)
  | 4 => ("BlindTables$Row", "side", "I", false)
  | 5 => ("BlindTables$Row", "lefts", "I", false)
  | 6 => ("BlindTables$Row", "rights", "I", false)
  | 7 => ("BlindTables$Row", "sortFirst", "I", false)
  | 8 => ("BlindTables$Row", "sortSecond", "I", false)
  | 9 => ("BlindTables$Row", "sortThird", "I", false)
  | 10 => ("BlindTables$Row", "live", "Z", false)
  | 11 => ("BlindTables$Row", "wayBack", "I", false)
  | _ => ("BlindTables$Row", "wayForth", "I", false)
def tyX3 : Nat → FieldType := fun k => match k with
  | 0 => .int
  | 1 => .int
  | 2 => .int
  | 3 => .int
  | 4 => .int
  | 5 => .int
  | 6 => .int
  | 7 => .int
  | 8 => .int
  | 9 => .int
  | 10 => .boolean
  | 11 => .int
  | _ => .int
theorem nmX3 : ∀ a, a < 13 → ∀ b, b < 13 → a ≠ b → (TX3 a).2.1 ≠ (TX3 b).2.1 := by decide +kernel
theorem tyX3_ok : ∀ k, k < 13 → parseFieldDescriptor (TX3 k).2.2.1 = some (tyX3 k) := by decide +kernel
theorem inX3 : ∀ w ∈ u_ws RX3 TX3 13, w ∈ gw := fun w hw => by
  obtain ⟨k, hk, rfl⟩ := List.mem_map.mp hw
  have hk := List.mem_range.mp hk
  rcases (show k = 0 ∨ k = 1 ∨ k = 2 ∨ k = 3 ∨ k = 4 ∨ k = 5 ∨ k = 6 ∨ k = 7 ∨ k = 8 ∨ k = 9 ∨ k = 10 ∨ k = 11 ∨ k = 12 by omega) with rfl | rfl | rfl | rfl | rfl | rfl | rfl | rfl | rfl | rfl | rfl | rfl | rfl
  · exact (gw_1 (j := 89) rfl rfl)
  · exact (gw_1 (j := 91) rfl rfl)
  · exact (gw_1 (j := 93) rfl rfl)
  · exact (gw_1 (j := 95) rfl rfl)
  · exact (gw_1 (j := 97) rfl rfl)
  · exact (gw_1 (j := 99) rfl rfl)
  · exact (gw_1 (j := 101) rfl rfl)
  · exact (gw_1 (j := 103) rfl rfl)
  · exact (gw_1 (j := 105) rfl rfl)
  · exact (gw_1 (j := 107) rfl rfl)
  · exact (gw_1 (j := 109) rfl rfl)
  · exact (gw_1 (j := 111) rfl rfl)
  · exact (gw_1 (j := 113) rfl rfl)
def RX4 : String := "BlindTables$Step"
def TX4 : u_T := fun k => match k with
  | 0 => ("BlindTables$Step", "kind", "I", false)
  | 1 => ("BlindTables$Step", "x", "I", false)
  | 2 => ("BlindTables$Step", "y", "I", false)
  | _ => ("BlindTables$Step", "z", "I", false)
def tyX4 : Nat → FieldType := fun k => match k with
  | 0 => .int
  | 1 => .int
  | 2 => .int
  | _ => .int
theorem nmX4 : ∀ a, a < 4 → ∀ b, b < 4 → a ≠ b → (TX4 a).2.1 ≠ (TX4 b).2.1 := by decide +kernel
theorem tyX4_ok : ∀ k, k < 4 → parseFieldDescriptor (TX4 k).2.2.1 = some (tyX4 k) := by decide +kernel
theorem inX4 : ∀ w ∈ u_ws RX4 TX4 4, w ∈ gw := fun w hw => by
  obtain ⟨k, hk, rfl⟩ := List.mem_map.mp hw
  have hk := List.mem_range.mp hk
  rcases (show k = 0 ∨ k = 1 ∨ k = 2 ∨ k = 3 by omega) with rfl | rfl | rfl | rfl
  · exact (gw_1 (j := 165) rfl rfl)
  · exact (gw_1 (j := 167) rfl rfl)
  · exact (gw_1 (j := 169) rfl rfl)
  · exact (gw_1 (j := 171) rfl rfl)
def RX5 : String := "BlindTables$Store"
def TX5 : u_T := fun k => match k with
  | 0 => ("BlindTables$Store", "places", "[LBlindTables$Row;", true)
  | 1 => ("BlindTables$Store", "trace", "[I", true)
  | _ => ("BlindTables$Store", "noted", "I", false)
def tyX5 : Nat → FieldType := fun k => match k with
  | 0 => .array (.object "BlindTables$Row")
  | 1 => .array (.int)
  | _ => .int
theorem nmX5 : ∀ a, a < 3 → ∀ b, b < 3 → a ≠ b → (TX5 a).2.1 ≠ (TX5 b).2.1 := by decide +kernel
theorem tyX5_ok : ∀ k, k < 3 → parseFieldDescriptor (TX5 k).2.2.1 = some (tyX5 k) := by decide +kernel
theorem inX5 : ∀ w ∈ u_ws RX5 TX5 3, w ∈ gw := fun w hw => by
  obtain ⟨k, hk, rfl⟩ := List.mem_map.mp hw
  have hk := List.mem_range.mp hk
  rcases (show k = 0 ∨ k = 1 ∨ k = 2 by omega) with rfl | rfl | rfl
  · exact (gw_1 (j := 120) rfl rfl)
  · exact (gw_1 (j := 122) rfl rfl)
  · exact (gw_1 (j := 124) rfl rfl)
def RX6 : String := "BlindTables"
def TX6 : u_T := fun k => match k with
  | 0 => ("BlindTables", "tables", "[LBlindTables$Bag;", true)
  | 1 => ("BlindTables", "steps", "[LBlindTables$Step;", true)
  | 2 => ("BlindTables", "puts", "LBlindTables$Bag;", true)
  | 3 => ("BlindTables", "drops", "LBlindTables$Bag;", true)
  | 4 => ("BlindTables", "result", "LBlindTables$Bag;", true)
  | 5 => ("BlindTables", "store", "LBlindTables$Store;", true)
  | 6 => ("BlindTables", "operators", "LBlindTables$Operators;", true)
  | 7 => ("BlindTables", "joiner", "LBlindTables$Joiner;", true)
  | 8 => ("BlindTables", "planTable", "I", false)
  | _ => ("BlindTables", "stepCount", "I", false)
def tyX6 : Nat → FieldType := fun k => match k with
  | 0 => .array (.object "BlindTables$Bag")
  | 1 => .array (.object "BlindTables$Step")
  | 2 => .object "BlindTables$Bag"
  | 3 => .object "BlindTables$Bag"
  | 4 => .object "BlindTables$Bag"
  | 5 => .object "BlindTables$Store"
  | 6 => .object "BlindTables$Operators"
  | 7 => .object "BlindTables$Joiner"
  | 8 => .int
  | _ => .int
theorem nmX6 : ∀ a, a < 10 → ∀ b, b < 10 → a ≠ b → (TX6 a).2.1 ≠ (TX6 b).2.1 := by decide +kernel
theorem tyX6_ok : ∀ k, k < 10 → parseFieldDescriptor (TX6 k).2.2.1 = some (tyX6 k) := by decide +kernel
theorem inX6 : ∀ w ∈ u_ws RX6 TX6 10, w ∈ gw := fun w hw => by
  obtain ⟨k, hk, rfl⟩ := List.mem_map.mp hw
  have hk := List.mem_range.mp hk
  rcases (show k = 0 ∨ k = 1 ∨ k = 2 ∨ k = 3 ∨ k = 4 ∨ k = 5 ∨ k = 6 ∨ k = 7 ∨ k = 8 ∨ k = 9 by omega) with rfl | rfl | rfl | rfl | rfl | rfl | rfl | rfl | rfl | rfl
  · exact (gw_1 (j := 184) rfl rfl)
  · exact (gw_1 (j := 186) rfl rfl)
  · exact (gw_1 (j := 188) rfl rfl)
  · exact (gw_1 (j := 190) rfl rfl)
  · exact (gw_1 (j := 192) rfl rfl)
  · exact (gw_1 (j := 194) rfl rfl)
  · exact (gw_1 (j := 196) rfl rfl)
  · exact (gw_1 (j := 198) rfl rfl)
  · exact (gw_1 (j := 200) rfl rfl)
  · exact (gw_1 (j := 202) rfl rfl)
def RX7 : String := "BlindTablesModel"
def TX7 : u_T := fun k => match k with
  | 0 => ("BlindTablesModel", "table", "[I", true)
  | 1 => ("BlindTablesModel", "many", "[I", true)
  | 2 => ("BlindTablesModel", "planned", "Z", false)
  | 3 => ("BlindTablesModel", "source", "I", false)
  | 4 => ("BlindTablesModel", "steps", "I", false)
  | 5 => ("BlindTablesModel", "kind", "[I", true)
  | 6 => ("BlindTablesModel", "one", "[I", true)
  | 7 => ("BlindTablesModel", "two", "[I", true)
  | 8 => ("BlindTablesModel", "three", "[I", true)
  | 9 => ("BlindTablesModel", "changes", "I", false)
  | 10 => ("BlindTablesModel", "drops", "[Z", true)
  | 11 => ("BlindTablesModel", "change", "[I", true)
  | 12 => ("BlindTablesModel", "row", "[I", true)
  | 13 => ("BlindTablesModel", "n", "I", false)
  | 14 => ("BlindTablesModel", "given", "[I", true)
  | 15 => ("BlindTablesModel", "m", "I", false)
  | 16 => ("BlindTablesModel", "result", "[I", true)
  | 17 => ("BlindTablesModel", "results", "I", false)
  | 18 => ("BlindTablesModel", "parts", "I", false)
  | 19 => ("BlindTablesModel", "partKind", "[I", true)
  | 20 => ("BlindTablesModel", "partRows", "[I", true)
  | 21 => ("BlindTablesModel", "partOther", "[I", true)
  | 22 => ("BlindTablesModel", "partGiven", "[I", true)
  | 23 => ("BlindTablesModel", "last", "I", false)
  | 24 => ("BlindTablesModel", "total", "I", false)
  | 25 => ("BlindTablesModel", "wanted", "I", false)
  | _ => ("BlindTablesModel", "found", "I", false)
def tyX7 : Nat → FieldType := fun k => match k with
  | 0 => .array (.int)
  | 1 => .array (.int)
  | 2 => .boolean
  | 3 => .int
  | 4 => .int
  | 5 => .array (.int)
  | 6 => .array (.int)
  | 7 => .array (.int)
  | 8 => .array (.int)
  | 9 => .int
  | 10 => .array (.boolean)
  | 11 => .array (.int)
  | 12 => .array (.int)
  | 13 => .int
  | 14 => .array (.int)
  | 15 => .int
  | 16 => .array (.int)
  | 17 => .int
  | 18 => .int
  | 19 => .array (.int)
  | 20 => .array (.int)
  | 21 => .array (.int)
  | 22 => .array (.int)
  | 23 => .int
  | 24 => .int
  | 25 => .int
  | _ => .int
theorem nmX7 : ∀ a, a < 27 → ∀ b, b < 27 → a ≠ b → (TX7 a).2.1 ≠ (TX7 b).2.1 := by decide +kernel
theorem tyX7_ok : ∀ k, k < 27 → parseFieldDescriptor (TX7 k).2.2.1 = some (tyX7 k) := by decide +kernel
theorem inX7 : ∀ w ∈ u_ws RX7 TX7 27, w ∈ gw := fun w hw => by
  obtain ⟨k, hk, rfl⟩ := List.mem_map.mp hw
  have hk := List.mem_range.mp hk
  rcases (show k = 0 ∨ k = 1 ∨ k = 2 ∨ k = 3 ∨ k = 4 ∨ k = 5 ∨ k = 6 ∨ k = 7 ∨ k = 8 ∨ k = 9 ∨ k = 10 ∨ k = 11 ∨ k = 12 ∨ k = 13 ∨ k = 14 ∨ k = 15 ∨ k = 16 ∨ k = 17 ∨ k = 18 ∨ k = 19 ∨ k = 20 ∨ k = 21 ∨ k = 22 ∨ k = 23 ∨ k = 24 ∨ k = 25 ∨ k = 26 by omega) with rfl | rfl | rfl | rfl | rfl | rfl | rfl | rfl | rfl | rfl | rfl | rfl | rfl | rfl | rfl | rfl | rfl | rfl | rfl | rfl | rfl | rfl | rfl | rfl | rfl | rfl | rfl
  · exact (gw_3 (j := 63) rfl rfl)
  · exact (gw_3 (j := 65) rfl rfl)
  · exact (gw_3 (j := 67) rfl rfl)
  · exact (gw_3 (j := 69) rfl rfl)
  · exact (gw_3 (j := 71) rfl rfl)
  · exact (gw_3 (j := 73) rfl rfl)
  · exact (gw_3 (j := 75) rfl rfl)
  · exact (gw_3 (j := 77) rfl rfl)
  · exact (gw_3 (j := 79) rfl rfl)
  · exact (gw_3 (j := 81) rfl rfl)
  · exact (gw_3 (j := 83) rfl rfl)
  · exact (gw_3 (j := 85) rfl rfl)
  · exact (gw_3 (j := 87) rfl rfl)
  · exact (gw_3 (j := 89) rfl rfl)
  · exact (gw_3 (j := 91) rfl rfl)
  · exact (gw_3 (j := 93) rfl rfl)
  · exact (gw_3 (j := 95) rfl rfl)
  · exact (gw_3 (j := 97) rfl rfl)
  · exact (gw_3 (j := 99) rfl rfl)
  · exact (gw_3 (j := 101) rfl rfl)
  · exact (gw_3 (j := 103) rfl rfl)
  · exact (gw_3 (j := 105) rfl rfl)
  · exact (gw_3 (j := 107) rfl rfl)
  · exact (gw_3 (j := 109) rfl rfl)
  · exact (gw_3 (j := 111) rfl rfl)
  · exact (gw_3 (j := 113) rfl rfl)
  · exact (gw_3 (j := 115) rfl rfl)
def RXL : String := "BlindTablesLaw"
abbrev cX6_init : ByteArray := prog_1_method_1_code
def yX6_init : MethodName := ⟨RX6, "<init>", "()V"⟩
abbrev cX6_add : ByteArray := prog_1_method_2_code
def yX6_add : MethodName := ⟨RX6, "add", "(IIII)Z"⟩
abbrev cX6_rows : ByteArray := prog_1_method_3_code
def yX6_rows : MethodName := ⟨RX6, "rows", "(I)I"⟩
abbrev cX6_plan : ByteArray := prog_1_method_4_code
def yX6_plan : MethodName := ⟨RX6, "plan", "(I)Z"⟩
abbrev cX6_filter : ByteArray := prog_1_method_5_code
def yX6_filter : MethodName := ⟨RX6, "filter", "(III)Z"⟩
abbrev cX6_pick : ByteArray := prog_1_method_6_code
def yX6_pick : MethodName := ⟨RX6, "pick", "(III)Z"⟩
abbrev cX6_distinct : ByteArray := prog_1_method_7_code
def yX6_distinct : MethodName := ⟨RX6, "distinct", "()Z"⟩
abbrev cX6_group : ByteArray := prog_1_method_8_code
def yX6_group : MethodName := ⟨RX6, "group", "(II)Z"⟩
abbrev cX6_join : ByteArray := prog_1_method_9_code
def yX6_join : MethodName := ⟨RX6, "join", "(III)Z"⟩
abbrev cX6_run : ByteArray := prog_1_method_10_code
def yX6_run : MethodName := ⟨RX6, "run", "()I"⟩
abbrev cX6_put : ByteArray := prog_1_method_11_code
def yX6_put : MethodName := ⟨RX6, "put", "(III)Z"⟩
abbrev cX6_drop : ByteArray := prog_1_method_12_code
def yX6_drop : MethodName := ⟨RX6, "drop", "(I)Z"⟩
abbrev cX6_apply : ByteArray := prog_1_method_13_code
def yX6_apply : MethodName := ⟨RX6, "apply", "(I)I"⟩
abbrev cX6_cell : ByteArray := prog_1_method_14_code
def yX6_cell : MethodName := ⟨RX6, "cell", "(II)I"⟩
abbrev cX6_length : ByteArray := prog_1_method_15_code
def yX6_length : MethodName := ⟨RX6, "length", "()I"⟩
abbrev cX6_access : ByteArray := prog_1_method_16_code
def yX6_access : MethodName := ⟨RX6, "access", "(I)I"⟩
abbrev cX6_sum : ByteArray := prog_1_method_17_code
def yX6_sum : MethodName := ⟨RX6, "sum", "(I)I"⟩
abbrev cX6_isTable : ByteArray := prog_1_method_18_code
def yX6_isTable : MethodName := ⟨RX6, "isTable", "(I)Z"⟩
abbrev cX6_isColumn : ByteArray := prog_1_method_19_code
def yX6_isColumn : MethodName := ⟨RX6, "isColumn", "(I)Z"⟩
abbrev cX6_changes : ByteArray := prog_1_method_20_code
def yX6_changes : MethodName := ⟨RX6, "changes", "()I"⟩
abbrev cX6_append : ByteArray := prog_1_method_21_code
def yX6_append : MethodName := ⟨RX6, "append", "(IIII)Z"⟩
abbrev cX6_perform : ByteArray := prog_1_method_22_code
def yX6_perform : MethodName := ⟨RX6, "perform", "(LBlindTables$Step;)Z"⟩
abbrev cX7_init : ByteArray := prog_9_method_1_code
def yX7_init : MethodName := ⟨RX7, "<init>", "()V"⟩
abbrev cX7_outside : ByteArray := prog_9_method_2_code
def yX7_outside : MethodName := ⟨RX7, "outside", "(III)Z"⟩
abbrev cX7_add : ByteArray := prog_9_method_3_code
def yX7_add : MethodName := ⟨RX7, "add", "(IIII)Z"⟩
abbrev cX7_rows : ByteArray := prog_9_method_4_code
def yX7_rows : MethodName := ⟨RX7, "rows", "(I)I"⟩
abbrev cX7_sum : ByteArray := prog_9_method_5_code
def yX7_sum : MethodName := ⟨RX7, "sum", "(I)I"⟩
abbrev cX7_plan : ByteArray := prog_9_method_6_code
def yX7_plan : MethodName := ⟨RX7, "plan", "(I)Z"⟩
abbrev cX7_step : ByteArray := prog_9_method_7_code
def yX7_step : MethodName := ⟨RX7, "step", "(IIIIZ)Z"⟩
abbrev cX7_filter : ByteArray := prog_9_method_8_code
def yX7_filter : MethodName := ⟨RX7, "filter", "(III)Z"⟩
abbrev cX7_pick : ByteArray := prog_9_method_9_code
def yX7_pick : MethodName := ⟨RX7, "pick", "(III)Z"⟩
abbrev cX7_distinct : ByteArray := prog_9_method_10_code
def yX7_distinct : MethodName := ⟨RX7, "distinct", "()Z"⟩
abbrev cX7_group : ByteArray := prog_9_method_11_code
def yX7_group : MethodName := ⟨RX7, "group", "(II)Z"⟩
abbrev cX7_join : ByteArray := prog_9_method_12_code
def yX7_join : MethodName := ⟨RX7, "join", "(III)Z"⟩
abbrev cX7_give : ByteArray := prog_9_method_13_code
def yX7_give : MethodName := ⟨RX7, "give", "(III)V"⟩
abbrev cX7_passes : ByteArray := prog_9_method_14_code
def yX7_passes : MethodName := ⟨RX7, "passes", "(III)Z"⟩
abbrev cX7_first : ByteArray := prog_9_method_15_code
def yX7_first : MethodName := ⟨RX7, "first", "(II)Z"⟩
abbrev cX7_groupOf : ByteArray := prog_9_method_16_code
def yX7_groupOf : MethodName := ⟨RX7, "groupOf", "(III)V"⟩
abbrev cX7_joinWith : ByteArray := prog_9_method_17_code
def yX7_joinWith : MethodName := ⟨RX7, "joinWith", "(IIII)V"⟩
abbrev cX7_work : ByteArray := prog_9_method_18_code
def yX7_work : MethodName := ⟨RX7, "work", "(I)V"⟩
abbrev cX7_part : ByteArray := prog_9_method_19_code
def yX7_part : MethodName := ⟨RX7, "part", "(IIII)V"⟩
abbrev cX7_less : ByteArray := prog_9_method_20_code
def yX7_less : MethodName := ⟨RX7, "less", "(II)Z"⟩
abbrev cX7_order : ByteArray := prog_9_method_21_code
def yX7_order : MethodName := ⟨RX7, "order", "()V"⟩
abbrev cX7_run : ByteArray := prog_9_method_22_code
def yX7_run : MethodName := ⟨RX7, "run", "()I"⟩
abbrev cX7_collect : ByteArray := prog_9_method_23_code
def yX7_collect : MethodName := ⟨RX7, "collect", "(ZIII)Z"⟩
abbrev cX7_put : ByteArray := prog_9_method_24_code
def yX7_put : MethodName := ⟨RX7, "put", "(III)Z"⟩
abbrev cX7_drop : ByteArray := prog_9_method_25_code
def yX7_drop : MethodName := ⟨RX7, "drop", "(I)Z"⟩
abbrev cX7_apply : ByteArray := prog_9_method_26_code
def yX7_apply : MethodName := ⟨RX7, "apply", "(I)I"⟩
abbrev cX7_touch : ByteArray := prog_9_method_27_code
def yX7_touch : MethodName := ⟨RX7, "touch", "(IZ)V"⟩
abbrev cX7_exchange : ByteArray := prog_9_method_28_code
def yX7_exchange : MethodName := ⟨RX7, "exchange", "(II)V"⟩
abbrev cX7_scan : ByteArray := prog_9_method_29_code
def yX7_scan : MethodName := ⟨RX7, "scan", "(IIZ)V"⟩
abbrev cX7_compare : ByteArray := prog_9_method_30_code
def yX7_compare : MethodName := ⟨RX7, "compare", "(IIIII)V"⟩
abbrev cX7_sort : ByteArray := prog_9_method_31_code
def yX7_sort : MethodName := ⟨RX7, "sort", "(II)V"⟩
abbrev cX7_squeeze : ByteArray := prog_9_method_32_code
def yX7_squeeze : MethodName := ⟨RX7, "squeeze", "(II)V"⟩
abbrev cX7_spread : ByteArray := prog_9_method_33_code
def yX7_spread : MethodName := ⟨RX7, "spread", "(II)V"⟩
abbrev cX7_side : ByteArray := prog_9_method_34_code
def yX7_side : MethodName := ⟨RX7, "side", "(III)V"⟩
abbrev cX7_joinTrace : ByteArray := prog_9_method_35_code
def yX7_joinTrace : MethodName := ⟨RX7, "joinTrace", "(II)V"⟩
abbrev cX7_partTrace : ByteArray := prog_9_method_36_code
def yX7_partTrace : MethodName := ⟨RX7, "partTrace", "(I)V"⟩
abbrev cX7_write : ByteArray := prog_9_method_37_code
def yX7_write : MethodName := ⟨RX7, "write", "(I)V"⟩
abbrev cX7_cell : ByteArray := prog_9_method_38_code
def yX7_cell : MethodName := ⟨RX7, "cell", "(II)I"⟩
abbrev cX7_length : ByteArray := prog_9_method_39_code
def yX7_length : MethodName := ⟨RX7, "length", "()I"⟩
abbrev cX7_access : ByteArray := prog_9_method_40_code
def yX7_access : MethodName := ⟨RX7, "access", "(I)I"⟩
abbrev cX0_init : ByteArray := prog_2_method_1_code
def yX0_init : MethodName := ⟨RX0, "<init>", "(I)V"⟩
abbrev cX0_hold : ByteArray := prog_2_method_2_code
def yX0_hold : MethodName := ⟨RX0, "hold", "(III)Z"⟩
abbrev cX0_clear : ByteArray := prog_2_method_3_code
def yX0_clear : MethodName := ⟨RX0, "clear", "()V"⟩
abbrev cX0_become : ByteArray := prog_2_method_4_code
def yX0_become : MethodName := ⟨RX0, "become", "(LBlindTables$Bag;)V"⟩
abbrev cX0_column : ByteArray := prog_2_method_5_code
def yX0_column : MethodName := ⟨RX0, "column", "(II)I"⟩
abbrev cX0_total : ByteArray := prog_2_method_6_code
def yX0_total : MethodName := ⟨RX0, "total", "()I"⟩
abbrev cX1_init : ByteArray := prog_3_method_1_code
def yX1_init : MethodName := ⟨RX1, "<init>", "(LBlindTables$Store;)V"⟩
abbrev cX1_match : ByteArray := prog_3_method_2_code
def yX1_match : MethodName := ⟨RX1, "match", "(LBlindTables$Bag;LBlindTables$Bag;II)Z"⟩
abbrev cX1_countForth : ByteArray := prog_3_method_3_code
def yX1_countForth : MethodName := ⟨RX1, "countForth", "(I)V"⟩
abbrev cX1_countBack : ByteArray := prog_3_method_4_code
def yX1_countBack : MethodName := ⟨RX1, "countBack", "(I)I"⟩
abbrev cX1_copyAll : ByteArray := prog_3_method_5_code
def yX1_copyAll : MethodName := ⟨RX1, "copyAll", "(I)V"⟩
abbrev cX1_addPairs : ByteArray := prog_3_method_6_code
def yX1_addPairs : MethodName := ⟨RX1, "addPairs", "(I)V"⟩
abbrev cX1_expand : ByteArray := prog_3_method_7_code
def yX1_expand : MethodName := ⟨RX1, "expand", "(IIII)V"⟩
abbrev cX1_markStarts : ByteArray := prog_3_method_8_code
def yX1_markStarts : MethodName := ⟨RX1, "markStarts", "(III)V"⟩
abbrev cX1_fillCopies : ByteArray := prog_3_method_9_code
def yX1_fillCopies : MethodName := ⟨RX1, "fillCopies", "(II)V"⟩
abbrev cX2_init : ByteArray := prog_4_method_1_code
def yX2_init : MethodName := ⟨RX2, "<init>", "(LBlindTables$Store;)V"⟩
abbrev cX2_order : ByteArray := prog_4_method_2_code
def yX2_order : MethodName := ⟨RX2, "order", "(LBlindTables$Bag;)V"⟩
abbrev cX2_keepMatching : ByteArray := prog_4_method_3_code
def yX2_keepMatching : MethodName := ⟨RX2, "keepMatching", "(LBlindTables$Bag;III)V"⟩
abbrev cX2_matches : ByteArray := prog_4_method_4_code
def yX2_matches : MethodName := ⟨RX2, "matches", "(III)Z"⟩
abbrev cX2_rearrange : ByteArray := prog_4_method_5_code
def yX2_rearrange : MethodName := ⟨RX2, "rearrange", "(LBlindTables$Bag;III)V"⟩
abbrev cX2_keepDifferent : ByteArray := prog_4_method_6_code
def yX2_keepDifferent : MethodName := ⟨RX2, "keepDifferent", "(LBlindTables$Bag;)V"⟩
abbrev cX2_keepFirstOfEach : ByteArray := prog_4_method_7_code
def yX2_keepFirstOfEach : MethodName := ⟨RX2, "keepFirstOfEach", "(I)I"⟩
abbrev cX2_totalUp : ByteArray := prog_4_method_8_code
def yX2_totalUp : MethodName := ⟨RX2, "totalUp", "(LBlindTables$Bag;II)V"⟩
abbrev cX2_addUpForth : ByteArray := prog_4_method_9_code
def yX2_addUpForth : MethodName := ⟨RX2, "addUpForth", "(II)I"⟩
abbrev cX2_keepLastOfEach : ByteArray := prog_4_method_10_code
def yX2_keepLastOfEach : MethodName := ⟨RX2, "keepLastOfEach", "(I)V"⟩
abbrev cX2_change : ByteArray := prog_4_method_11_code
def yX2_change : MethodName := ⟨RX2, "change", "(LBlindTables$Bag;LBlindTables$Bag;LBlindTables$Bag;)Z"⟩
abbrev cX2_keepUndropped : ByteArray := prog_4_method_12_code
def yX2_keepUndropped : MethodName := ⟨RX2, "keepUndropped", "(I)I"⟩
abbrev cX3_init : ByteArray := prog_5_method_1_code
def yX3_init : MethodName := ⟨RX3, "<init>", "()V"⟩
abbrev cX3_setColumns : ByteArray := prog_5_method_2_code
def yX3_setColumns : MethodName := ⟨RX3, "setColumns", "(III)V"⟩
abbrev cX3_column : ByteArray := prog_5_method_3_code
def yX3_column : MethodName := ⟨RX3, "column", "(I)I"⟩
abbrev cX3_sameColumns : ByteArray := prog_5_method_4_code
def yX3_sameColumns : MethodName := ⟨RX3, "sameColumns", "(LBlindTables$Row;)Z"⟩
abbrev cX3_sortBy : ByteArray := prog_5_method_5_code
def yX3_sortBy : MethodName := ⟨RX3, "sortBy", "(III)V"⟩
abbrev cX3_isBehind : ByteArray := prog_5_method_6_code
def yX3_isBehind : MethodName := ⟨RX3, "isBehind", "(LBlindTables$Row;)Z"⟩
abbrev cX3_keep : ByteArray := prog_5_method_7_code
def yX3_keep : MethodName := ⟨RX3, "keep", "(II)V"⟩
abbrev cX3_discard : ByteArray := prog_5_method_8_code
def yX3_discard : MethodName := ⟨RX3, "discard", "()V"⟩
abbrev cX3_partners : ByteArray := prog_5_method_9_code
def yX3_partners : MethodName := ⟨RX3, "partners", "()I"⟩
abbrev cX3_become : ByteArray := prog_5_method_10_code
def yX3_become : MethodName := ⟨RX3, "become", "(LBlindTables$Row;)V"⟩
abbrev cX4_init : ByteArray := prog_6_method_1_code
def yX4_init : MethodName := ⟨RX4, "<init>", "()V"⟩
abbrev cX4_become : ByteArray := prog_6_method_2_code
def yX4_become : MethodName := ⟨RX4, "become", "(IIII)V"⟩
abbrev cX5_init : ByteArray := prog_7_method_1_code
def yX5_init : MethodName := ⟨RX5, "<init>", "()V"⟩
abbrev cX5_startTrace : ByteArray := prog_7_method_2_code
def yX5_startTrace : MethodName := ⟨RX5, "startTrace", "()V"⟩
abbrev cX5_notedAt : ByteArray := prog_7_method_3_code
def yX5_notedAt : MethodName := ⟨RX5, "notedAt", "(I)I"⟩
abbrev cX5_read : ByteArray := prog_7_method_4_code
def yX5_read : MethodName := ⟨RX5, "read", "(I)LBlindTables$Row;"⟩
abbrev cX5_write : ByteArray := prog_7_method_5_code
def yX5_write : MethodName := ⟨RX5, "write", "(ILBlindTables$Row;)V"⟩
abbrev cX5_at : ByteArray := prog_7_method_6_code
def yX5_at : MethodName := ⟨RX5, "at", "(I)LBlindTables$Row;"⟩
abbrev cX5_copy : ByteArray := prog_7_method_7_code
def yX5_copy : MethodName := ⟨RX5, "copy", "(II)V"⟩
abbrev cX5_note : ByteArray := prog_7_method_8_code
def yX5_note : MethodName := ⟨RX5, "note", "(I)V"⟩
abbrev cX5_lay : ByteArray := prog_7_method_9_code
def yX5_lay : MethodName := ⟨RX5, "lay", "(LBlindTables$Bag;)I"⟩
abbrev cX5_layByKey : ByteArray := prog_7_method_10_code
def yX5_layByKey : MethodName := ⟨RX5, "layByKey", "(LBlindTables$Bag;III)I"⟩
abbrev cX5_clear : ByteArray := prog_7_method_11_code
def yX5_clear : MethodName := ⟨RX5, "clear", "()V"⟩
abbrev cX5_takeAway : ByteArray := prog_7_method_12_code
def yX5_takeAway : MethodName := ⟨RX5, "takeAway", "(LBlindTables$Bag;I)V"⟩
abbrev cX5_widest : ByteArray := prog_7_method_13_code
def yX5_widest : MethodName := ⟨RX5, "widest", "(I)I"⟩
abbrev cX5_sort : ByteArray := prog_7_method_14_code
def yX5_sort : MethodName := ⟨RX5, "sort", "(II)V"⟩
abbrev cX5_sortPass : ByteArray := prog_7_method_15_code
def yX5_sortPass : MethodName := ⟨RX5, "sortPass", "(IIIII)V"⟩
abbrev cX5_squeeze : ByteArray := prog_7_method_16_code
def yX5_squeeze : MethodName := ⟨RX5, "squeeze", "(II)V"⟩
abbrev cX5_spread : ByteArray := prog_7_method_17_code
def yX5_spread : MethodName := ⟨RX5, "spread", "(II)V"⟩
def bt_cl : List vw_C := [(RX0, TX0, 4), (RX1, TX1, 2), (RX2, TX2, 1), (RX3, TX3, 13), (RX4, TX4, 4), (RX5, TX5, 3), (RX6, TX6, 10), (RX7, TX7, 27)]
def bt_tl : List FieldType := [.int, .object RX3, .object RX0, .object RX4, .boolean]
def bt_nw : List Cond := [Cond.methodLinkNest RX5 25 yX3_init "BlindTables", Cond.methodLinkNest RX1 11 yX3_init "BlindTables", Cond.methodLinkNest RX6 64 yX4_init "BlindTables", Cond.arrayOver (.object RX3), Cond.arrayOver (.object RX0), Cond.arrayOver (.object RX4)]
abbrev cBag : Nat := 0
abbrev cJoin : Nat := 1
abbrev cOps : Nat := 2
abbrev cRow : Nat := 3
abbrev cStep : Nat := 4
abbrev cStore : Nat := 5
abbrev cBT : Nat := 6
abbrev cMod : Nat := 7
abbrev tInt : Nat := 0
abbrev tRow : Nat := 1
abbrev tBag : Nat := 2
abbrev tStep : Nat := 3
abbrev tBool : Nat := 4
abbrev bM (l : Launch) (y : MethodName) (code : ByteArray) (maxL : Nat) (ret : Option FieldType) (d mc ms : Nat) (vs : List Value) (n : Nat) (h : pm_H) (Post : Option Value → Nat → pm_H → Prop) : Prop := pm_M l bt_cl bt_tl gw bt_nw y code maxL ret d mc ms vs n h Post
abbrev bM0 (l : Launch) (y : MethodName) (code : ByteArray) (maxL : Nat) (ret : Option FieldType) (d : Nat) (vs : List Value) (n : Nat) (h : pm_H) (Post : Option Value → pm_H → Prop) : Prop := pm_M l bt_cl bt_tl gw bt_nw y code maxL ret d 0 0 vs n h (fun r n' h' => n' = n ∧ Post r h')
theorem wlX6_11 : Cond.fieldLink RX6 11 RX6 (TX6 0).2.1 (TX6 0).2.2.1 ∈ gw := (gw_1 (j := 174) rfl rfl)
theorem wlX6_17 : Cond.fieldLink RX6 17 RX6 (TX6 1).2.1 (TX6 1).2.2.1 ∈ gw := (gw_1 (j := 175) rfl rfl)
theorem wlX6_24 : Cond.fieldLink RX6 24 RX6 (TX6 2).2.1 (TX6 2).2.2.1 ∈ gw := (gw_1 (j := 176) rfl rfl)
theorem wlX6_28 : Cond.fieldLink RX6 28 RX6 (TX6 3).2.1 (TX6 3).2.2.1 ∈ gw := (gw_1 (j := 177) rfl rfl)
theorem wlX6_31 : Cond.fieldLink RX6 31 RX6 (TX6 4).2.1 (TX6 4).2.2.1 ∈ gw := (gw_1 (j := 178) rfl rfl)
theorem wlX6_37 : Cond.fieldLink RX6 37 RX6 (TX6 5).2.1 (TX6 5).2.2.1 ∈ gw := (gw_1 (j := 179) rfl rfl)
theorem wlX6_46 : Cond.fieldLink RX6 46 RX6 (TX6 6).2.1 (TX6 6).2.2.1 ∈ gw := (gw_1 (j := 180) rfl rfl)
theorem wlX6_53 : Cond.fieldLink RX6 53 RX6 (TX6 7).2.1 (TX6 7).2.2.1 ∈ gw := (gw_1 (j := 181) rfl rfl)
theorem wlX6_57 : Cond.fieldLink RX6 57 RX6 (TX6 8).2.1 (TX6 8).2.2.1 ∈ gw := (gw_1 (j := 182) rfl rfl)
theorem wlX6_61 : Cond.fieldLink RX6 61 RX6 (TX6 9).2.1 (TX6 9).2.2.1 ∈ gw := (gw_1 (j := 183) rfl rfl)
theorem wlX6_73 : Cond.fieldLink RX6 73 RX0 (TX0 3).2.1 (TX0 3).2.2.1 ∈ gw := (gw_1 (j := 34) rfl rfl)
theorem wlX6_112 : Cond.fieldLink RX6 112 RX5 (TX5 2).2.1 (TX5 2).2.2.1 ∈ gw := (gw_1 (j := 119) rfl rfl)
theorem wlX6_125 : Cond.fieldLink RX6 125 RX4 (TX4 0).2.1 (TX4 0).2.2.1 ∈ gw := (gw_1 (j := 158) rfl rfl)
theorem wlX6_128 : Cond.fieldLink RX6 128 RX4 (TX4 1).2.1 (TX4 1).2.2.1 ∈ gw := (gw_1 (j := 160) rfl rfl)
theorem wlX6_131 : Cond.fieldLink RX6 131 RX4 (TX4 2).2.1 (TX4 2).2.2.1 ∈ gw := (gw_1 (j := 162) rfl rfl)
theorem wlX6_134 : Cond.fieldLink RX6 134 RX4 (TX4 3).2.1 (TX4 3).2.2.1 ∈ gw := (gw_1 (j := 164) rfl rfl)
theorem wlX7_7 : Cond.fieldLink RX7 7 RX7 (TX7 0).2.1 (TX7 0).2.2.1 ∈ gw := (gw_3 (j := 36) rfl rfl)
theorem wlX7_13 : Cond.fieldLink RX7 13 RX7 (TX7 1).2.1 (TX7 1).2.2.1 ∈ gw := (gw_3 (j := 37) rfl rfl)
theorem wlX7_16 : Cond.fieldLink RX7 16 RX7 (TX7 5).2.1 (TX7 5).2.2.1 ∈ gw := (gw_3 (j := 41) rfl rfl)
theorem wlX7_19 : Cond.fieldLink RX7 19 RX7 (TX7 6).2.1 (TX7 6).2.2.1 ∈ gw := (gw_3 (j := 42) rfl rfl)
theorem wlX7_22 : Cond.fieldLink RX7 22 RX7 (TX7 7).2.1 (TX7 7).2.2.1 ∈ gw := (gw_3 (j := 43) rfl rfl)
theorem wlX7_25 : Cond.fieldLink RX7 25 RX7 (TX7 8).2.1 (TX7 8).2.2.1 ∈ gw := (gw_3 (j := 44) rfl rfl)
theorem wlX7_28 : Cond.fieldLink RX7 28 RX7 (TX7 10).2.1 (TX7 10).2.2.1 ∈ gw := (gw_3 (j := 46) rfl rfl)
theorem wlX7_32 : Cond.fieldLink RX7 32 RX7 (TX7 11).2.1 (TX7 11).2.2.1 ∈ gw := (gw_3 (j := 47) rfl rfl)
theorem wlX7_35 : Cond.fieldLink RX7 35 RX7 (TX7 12).2.1 (TX7 12).2.2.1 ∈ gw := (gw_3 (j := 48) rfl rfl)
theorem wlX7_38 : Cond.fieldLink RX7 38 RX7 (TX7 14).2.1 (TX7 14).2.2.1 ∈ gw := (gw_3 (j := 50) rfl rfl)
theorem wlX7_41 : Cond.fieldLink RX7 41 RX7 (TX7 16).2.1 (TX7 16).2.2.1 ∈ gw := (gw_3 (j := 52) rfl rfl)
theorem wlX7_44 : Cond.fieldLink RX7 44 RX7 (TX7 19).2.1 (TX7 19).2.2.1 ∈ gw := (gw_3 (j := 55) rfl rfl)
theorem wlX7_47 : Cond.fieldLink RX7 47 RX7 (TX7 20).2.1 (TX7 20).2.2.1 ∈ gw := (gw_3 (j := 56) rfl rfl)
theorem wlX7_50 : Cond.fieldLink RX7 50 RX7 (TX7 21).2.1 (TX7 21).2.2.1 ∈ gw := (gw_3 (j := 57) rfl rfl)
theorem wlX7_53 : Cond.fieldLink RX7 53 RX7 (TX7 22).2.1 (TX7 22).2.2.1 ∈ gw := (gw_3 (j := 58) rfl rfl)
theorem wlX7_60 : Cond.fieldLink RX7 60 RX7 (TX7 2).2.1 (TX7 2).2.2.1 ∈ gw := (gw_3 (j := 38) rfl rfl)
theorem wlX7_64 : Cond.fieldLink RX7 64 RX7 (TX7 3).2.1 (TX7 3).2.2.1 ∈ gw := (gw_3 (j := 39) rfl rfl)
theorem wlX7_68 : Cond.fieldLink RX7 68 RX7 (TX7 4).2.1 (TX7 4).2.2.1 ∈ gw := (gw_3 (j := 40) rfl rfl)
theorem wlX7_75 : Cond.fieldLink RX7 75 RX7 (TX7 15).2.1 (TX7 15).2.2.1 ∈ gw := (gw_3 (j := 51) rfl rfl)
theorem wlX7_78 : Cond.fieldLink RX7 78 RX7 (TX7 13).2.1 (TX7 13).2.2.1 ∈ gw := (gw_3 (j := 49) rfl rfl)
theorem wlX7_99 : Cond.fieldLink RX7 99 RX7 (TX7 18).2.1 (TX7 18).2.2.1 ∈ gw := (gw_3 (j := 54) rfl rfl)
theorem wlX7_102 : Cond.fieldLink RX7 102 RX7 (TX7 17).2.1 (TX7 17).2.2.1 ∈ gw := (gw_3 (j := 53) rfl rfl)
theorem wlX7_108 : Cond.fieldLink RX7 108 RX7 (TX7 23).2.1 (TX7 23).2.2.1 ∈ gw := (gw_3 (j := 59) rfl rfl)
theorem wlX7_121 : Cond.fieldLink RX7 121 RX7 (TX7 9).2.1 (TX7 9).2.2.1 ∈ gw := (gw_3 (j := 45) rfl rfl)
theorem wlX7_128 : Cond.fieldLink RX7 128 RX7 (TX7 24).2.1 (TX7 24).2.2.1 ∈ gw := (gw_3 (j := 60) rfl rfl)
theorem wlX7_131 : Cond.fieldLink RX7 131 RX7 (TX7 25).2.1 (TX7 25).2.2.1 ∈ gw := (gw_3 (j := 61) rfl rfl)
theorem wlX7_134 : Cond.fieldLink RX7 134 RX7 (TX7 26).2.1 (TX7 26).2.2.1 ∈ gw := (gw_3 (j := 62) rfl rfl)
theorem wlX0_7 : Cond.fieldLink RX0 7 RX0 (TX0 3).2.1 (TX0 3).2.2.1 ∈ gw := (gw_1 (j := 33) rfl rfl)
theorem wlX0_13 : Cond.fieldLink RX0 13 RX0 (TX0 0).2.1 (TX0 0).2.2.1 ∈ gw := (gw_1 (j := 27) rfl rfl)
theorem wlX0_17 : Cond.fieldLink RX0 17 RX0 (TX0 1).2.1 (TX0 1).2.2.1 ∈ gw := (gw_1 (j := 29) rfl rfl)
theorem wlX0_20 : Cond.fieldLink RX0 20 RX0 (TX0 2).2.1 (TX0 2).2.2.1 ∈ gw := (gw_1 (j := 31) rfl rfl)
theorem wlX1_12 : Cond.fieldLink RX1 12 RX1 (TX1 1).2.1 (TX1 1).2.2.1 ∈ gw := (gw_1 (j := 146) rfl rfl)
theorem wlX1_18 : Cond.fieldLink RX1 18 RX1 (TX1 0).2.1 (TX1 0).2.2.1 ∈ gw := (gw_1 (j := 145) rfl rfl)
theorem wlX1_61 : Cond.fieldLink RX1 61 RX3 (TX3 3).2.1 (TX3 3).2.2.1 ∈ gw := (gw_1 (j := 67) rfl rfl)
theorem wlX1_65 : Cond.fieldLink RX1 65 RX3 (TX3 4).2.1 (TX3 4).2.2.1 ∈ gw := (gw_1 (j := 71) rfl rfl)
theorem wlX1_68 : Cond.fieldLink RX1 68 RX3 (TX3 5).2.1 (TX3 5).2.2.1 ∈ gw := (gw_1 (j := 75) rfl rfl)
theorem wlX1_71 : Cond.fieldLink RX1 71 RX3 (TX3 6).2.1 (TX3 6).2.2.1 ∈ gw := (gw_1 (j := 77) rfl rfl)
theorem wlX1_85 : Cond.fieldLink RX1 85 RX3 (TX3 1).2.1 (TX3 1).2.2.1 ∈ gw := (gw_1 (j := 62) rfl rfl)
theorem wlX1_88 : Cond.fieldLink RX1 88 RX3 (TX3 2).2.1 (TX3 2).2.2.1 ∈ gw := (gw_1 (j := 65) rfl rfl)
theorem wlX1_119 : Cond.fieldLink RX1 119 RX3 (TX3 12).2.1 (TX3 12).2.2.1 ∈ gw := (gw_1 (j := 87) rfl rfl)
theorem wlX1_125 : Cond.fieldLink RX1 125 RX3 (TX3 10).2.1 (TX3 10).2.2.1 ∈ gw := (gw_1 (j := 83) rfl rfl)
theorem wlX2_9 : Cond.fieldLink RX2 9 RX2 (TX2 0).2.1 (TX2 0).2.2.1 ∈ gw := (gw_1 (j := 133) rfl rfl)
theorem wlX2_79 : Cond.fieldLink RX2 79 RX3 (TX3 3).2.1 (TX3 3).2.2.1 ∈ gw := (gw_1 (j := 68) rfl rfl)
theorem wlX2_86 : Cond.fieldLink RX2 86 RX3 (TX3 4).2.1 (TX3 4).2.2.1 ∈ gw := (gw_1 (j := 74) rfl rfl)
theorem wlX3_7 : Cond.fieldLink RX3 7 RX3 (TX3 0).2.1 (TX3 0).2.2.1 ∈ gw := (gw_1 (j := 59) rfl rfl)
theorem wlX3_13 : Cond.fieldLink RX3 13 RX3 (TX3 1).2.1 (TX3 1).2.2.1 ∈ gw := (gw_1 (j := 61) rfl rfl)
theorem wlX3_16 : Cond.fieldLink RX3 16 RX3 (TX3 2).2.1 (TX3 2).2.2.1 ∈ gw := (gw_1 (j := 64) rfl rfl)
theorem wlX3_19 : Cond.fieldLink RX3 19 RX3 (TX3 7).2.1 (TX3 7).2.2.1 ∈ gw := (gw_1 (j := 79) rfl rfl)
theorem wlX3_22 : Cond.fieldLink RX3 22 RX3 (TX3 8).2.1 (TX3 8).2.2.1 ∈ gw := (gw_1 (j := 80) rfl rfl)
theorem wlX3_25 : Cond.fieldLink RX3 25 RX3 (TX3 9).2.1 (TX3 9).2.2.1 ∈ gw := (gw_1 (j := 81) rfl rfl)
theorem wlX3_28 : Cond.fieldLink RX3 28 RX3 (TX3 10).2.1 (TX3 10).2.2.1 ∈ gw := (gw_1 (j := 82) rfl rfl)
theorem wlX3_32 : Cond.fieldLink RX3 32 RX3 (TX3 11).2.1 (TX3 11).2.2.1 ∈ gw := (gw_1 (j := 84) rfl rfl)
theorem wlX3_35 : Cond.fieldLink RX3 35 RX3 (TX3 12).2.1 (TX3 12).2.2.1 ∈ gw := (gw_1 (j := 86) rfl rfl)
theorem wlX3_38 : Cond.fieldLink RX3 38 RX3 (TX3 4).2.1 (TX3 4).2.2.1 ∈ gw := (gw_1 (j := 72) rfl rfl)
theorem wlX3_41 : Cond.fieldLink RX3 41 RX3 (TX3 6).2.1 (TX3 6).2.2.1 ∈ gw := (gw_1 (j := 78) rfl rfl)
theorem wlX3_44 : Cond.fieldLink RX3 44 RX3 (TX3 5).2.1 (TX3 5).2.2.1 ∈ gw := (gw_1 (j := 76) rfl rfl)
theorem wlX3_51 : Cond.fieldLink RX3 51 RX3 (TX3 3).2.1 (TX3 3).2.2.1 ∈ gw := (gw_1 (j := 69) rfl rfl)
theorem wlX4_7 : Cond.fieldLink RX4 7 RX4 (TX4 0).2.1 (TX4 0).2.2.1 ∈ gw := (gw_1 (j := 157) rfl rfl)
theorem wlX4_13 : Cond.fieldLink RX4 13 RX4 (TX4 1).2.1 (TX4 1).2.2.1 ∈ gw := (gw_1 (j := 159) rfl rfl)
theorem wlX4_16 : Cond.fieldLink RX4 16 RX4 (TX4 2).2.1 (TX4 2).2.2.1 ∈ gw := (gw_1 (j := 161) rfl rfl)
theorem wlX4_19 : Cond.fieldLink RX4 19 RX4 (TX4 3).2.1 (TX4 3).2.2.1 ∈ gw := (gw_1 (j := 163) rfl rfl)
theorem wlX5_13 : Cond.fieldLink RX5 13 RX5 (TX5 0).2.1 (TX5 0).2.2.1 ∈ gw := (gw_1 (j := 116) rfl rfl)
theorem wlX5_17 : Cond.fieldLink RX5 17 RX5 (TX5 1).2.1 (TX5 1).2.2.1 ∈ gw := (gw_1 (j := 117) rfl rfl)
theorem wlX5_21 : Cond.fieldLink RX5 21 RX5 (TX5 2).2.1 (TX5 2).2.2.1 ∈ gw := (gw_1 (j := 118) rfl rfl)
theorem wlX5_45 : Cond.fieldLink RX5 45 RX0 (TX0 3).2.1 (TX0 3).2.2.1 ∈ gw := (gw_1 (j := 35) rfl rfl)
theorem wlX5_50 : Cond.fieldLink RX5 50 RX0 (TX0 0).2.1 (TX0 0).2.2.1 ∈ gw := (gw_1 (j := 28) rfl rfl)
theorem wlX5_53 : Cond.fieldLink RX5 53 RX0 (TX0 1).2.1 (TX0 1).2.2.1 ∈ gw := (gw_1 (j := 30) rfl rfl)
theorem wlX5_56 : Cond.fieldLink RX5 56 RX0 (TX0 2).2.1 (TX0 2).2.2.1 ∈ gw := (gw_1 (j := 32) rfl rfl)
theorem wlX5_63 : Cond.fieldLink RX5 63 RX3 (TX3 0).2.1 (TX3 0).2.2.1 ∈ gw := (gw_1 (j := 60) rfl rfl)
theorem wlX5_66 : Cond.fieldLink RX5 66 RX3 (TX3 1).2.1 (TX3 1).2.2.1 ∈ gw := (gw_1 (j := 63) rfl rfl)
theorem wlX5_69 : Cond.fieldLink RX5 69 RX3 (TX3 2).2.1 (TX3 2).2.2.1 ∈ gw := (gw_1 (j := 66) rfl rfl)
theorem wlX5_79 : Cond.fieldLink RX5 79 RX3 (TX3 3).2.1 (TX3 3).2.2.1 ∈ gw := (gw_1 (j := 70) rfl rfl)
theorem wlX5_82 : Cond.fieldLink RX5 82 RX3 (TX3 4).2.1 (TX3 4).2.2.1 ∈ gw := (gw_1 (j := 73) rfl rfl)
theorem wlX5_106 : Cond.fieldLink RX5 106 RX3 (TX3 11).2.1 (TX3 11).2.2.1 ∈ gw := (gw_1 (j := 85) rfl rfl)
theorem wlX5_109 : Cond.fieldLink RX5 109 RX3 (TX3 12).2.1 (TX3 12).2.2.1 ∈ gw := (gw_1 (j := 88) rfl rfl)
