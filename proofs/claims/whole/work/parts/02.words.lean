/-! The words that methods may use; the classes, their fields in the order of the worlds. -/
def wsA : List Cond := lw_tbl.filter goodWord
theorem wsA_good {w : Cond} (h : w ∈ wsA) : w ∈ wsA ∧ ((w.onTables && w.keeps) = true ∨ ∃ ty, w = .arrayClass ty) := ⟨h, good_of_word (List.mem_filter.mp h).2⟩
theorem gV {own C : String} {idx : Nat} {y : MethodName} {cd : Cond} (h1 : Cond.methodLink own idx y ∈ wsA) (h2 : Cond.instanceMethod y ∈ wsA) (h3 : Cond.selects C y y ∈ wsA) (h4 : Cond.initialized C ∈ wsA) (h5 : cd ∈ wsA) : GoodIn wsA (wsV own idx C y (cd :: wsA)) := fun w hw => wsA_good (by
  unfold wsV at hw
  rcases List.mem_append.mp hw with h | h
  · simp only [List.mem_cons, List.not_mem_nil, or_false] at h
    rcases h with rfl | rfl | rfl | rfl
    · exact h1
    · exact h2
    · exact h3
    · exact h4
  · rcases List.mem_cons.mp h with rfl | h
    · exact h5
    · exact h)
theorem wsA_app {C : String} {T : u_T} {N : Nat} (h : ∀ k, k < N → u_lay C T k ∈ wsA) : ∀ w ∈ u_ws C T N, w ∈ wsA := fun w hw => by
  obtain ⟨k, hk, rfl⟩ := List.mem_map.mp hw
  exact h k (List.mem_range.mp hk)
def RZ0 : String := "TableTextModel"
def TZ0 : u_T := fun k => match k with
  | 0 => ("TableTextModel", "thrown", "I", false)
  | 1 => ("TableTextModel", "size", "I", false)
  | 2 => ("TableTextModel", "text", "[I", false)
  | 3 => ("TableTextModel", "at", "I", false)
  | 4 => ("TableTextModel", "bad", "I", false)
  | 5 => ("TableTextModel", "half", "I", false)
  | 6 => ("TableTextModel", "many", "[I", false)
  | 7 => ("TableTextModel", "kinds", "[I", false)
  | 8 => ("TableTextModel", "numbers", "[I", false)
  | 9 => ("TableTextModel", "holders", "[I", false)
  | 10 => ("TableTextModel", "firsts", "[I", false)
  | 11 => ("TableTextModel", "lasts", "[I", false)
  | 12 => ("TableTextModel", "nexts", "[I", false)
  | 13 => ("TableTextModel", "counts", "[I", false)
  | 14 => ("TableTextModel", "keyFrom", "[I", false)
  | 15 => ("TableTextModel", "keySize", "[I", false)
  | 16 => ("TableTextModel", "used", "[I", false)
  | 17 => ("TableTextModel", "letters", "[I", false)
  | 18 => ("TableTextModel", "cursor", "I", false)
  | 19 => ("TableTextModel", "build", "I", false)
  | 20 => ("TableTextModel", "parts", "I", false)
  | 21 => ("TableTextModel", "partAt", "[I", false)
  | 22 => ("TableTextModel", "partFrom", "[I", false)
  | 23 => ("TableTextModel", "partSize", "[I", false)
  | 24 => ("TableTextModel", "from", "I", false)
  | 25 => ("TableTextModel", "length", "I", false)
  | 26 => ("TableTextModel", "depth", "I", false)
  | 27 => ("TableTextModel", "open", "[I", false)
  | 28 => ("TableTextModel", "states", "[I", false)
  | 29 => ("TableTextModel", "writtenSize", "I", false)
  | _ => ("TableTextModel", "output", "[I", false)
def tyZ0 : Nat → FieldType := fun k => match k with
  | 0 => .int
  | 1 => .int
  | 2 => .array .int
  | 3 => .int
  | 4 => .int
  | 5 => .int
  | 6 => .array .int
  | 7 => .array .int
  | 8 => .array .int
  | 9 => .array .int
  | 10 => .array .int
  | 11 => .array .int
  | 12 => .array .int
  | 13 => .array .int
  | 14 => .array .int
  | 15 => .array .int
  | 16 => .array .int
  | 17 => .array .int
  | 18 => .int
  | 19 => .int
  | 20 => .int
  | 21 => .array .int
  | 22 => .array .int
  | 23 => .array .int
  | 24 => .int
  | 25 => .int
  | 26 => .int
  | 27 => .array .int
  | 28 => .array .int
  | 29 => .int
  | _ => .array .int
theorem nmZ0 : ∀ a, a < 31 → ∀ b, b < 31 → a ≠ b → (TZ0 a).2.1 ≠ (TZ0 b).2.1 := by decide +kernel
theorem tyZ0_ok : ∀ k, k < 31 → parseFieldDescriptor (TZ0 k).2.2.1 = some (tyZ0 k) := by decide +kernel
theorem wZ0_0 : u_lay RZ0 TZ0 0 ∈ wsA := List.mem_filter.mpr ⟨List.mem_of_getElem? (i := 1152) (by decide +kernel), by decide +kernel⟩
theorem wZ0_1 : u_lay RZ0 TZ0 1 ∈ wsA := List.mem_filter.mpr ⟨List.mem_of_getElem? (i := 1154) (by decide +kernel), by decide +kernel⟩
theorem wZ0_2 : u_lay RZ0 TZ0 2 ∈ wsA := List.mem_filter.mpr ⟨List.mem_of_getElem? (i := 1156) (by decide +kernel), by decide +kernel⟩
theorem wZ0_3 : u_lay RZ0 TZ0 3 ∈ wsA := List.mem_filter.mpr ⟨List.mem_of_getElem? (i := 1158) (by decide +kernel), by decide +kernel⟩
theorem wZ0_4 : u_lay RZ0 TZ0 4 ∈ wsA := List.mem_filter.mpr ⟨List.mem_of_getElem? (i := 1160) (by decide +kernel), by decide +kernel⟩
theorem wZ0_5 : u_lay RZ0 TZ0 5 ∈ wsA := List.mem_filter.mpr ⟨List.mem_of_getElem? (i := 1162) (by decide +kernel), by decide +kernel⟩
theorem wZ0_6 : u_lay RZ0 TZ0 6 ∈ wsA := List.mem_filter.mpr ⟨List.mem_of_getElem? (i := 1164) (by decide +kernel), by decide +kernel⟩
theorem wZ0_7 : u_lay RZ0 TZ0 7 ∈ wsA := List.mem_filter.mpr ⟨List.mem_of_getElem? (i := 1166) (by decide +kernel), by decide +kernel⟩
theorem wZ0_8 : u_lay RZ0 TZ0 8 ∈ wsA := List.mem_filter.mpr ⟨List.mem_of_getElem? (i := 1168) (by decide +kernel), by decide +kernel⟩
theorem wZ0_9 : u_lay RZ0 TZ0 9 ∈ wsA := List.mem_filter.mpr ⟨List.mem_of_getElem? (i := 1170) (by decide +kernel), by decide +kernel⟩
theorem wZ0_10 : u_lay RZ0 TZ0 10 ∈ wsA := List.mem_filter.mpr ⟨List.mem_of_getElem? (i := 1172) (by decide +kernel), by decide +kernel⟩
theorem wZ0_11 : u_lay RZ0 TZ0 11 ∈ wsA := List.mem_filter.mpr ⟨List.mem_of_getElem? (i := 1174) (by decide +kernel), by decide +kernel⟩
theorem wZ0_12 : u_lay RZ0 TZ0 12 ∈ wsA := List.mem_filter.mpr ⟨List.mem_of_getElem? (i := 1176) (by decide +kernel), by decide +kernel⟩
theorem wZ0_13 : u_lay RZ0 TZ0 13 ∈ wsA := List.mem_filter.mpr ⟨List.mem_of_getElem? (i := 1178) (by decide +kernel), by decide +kernel⟩
theorem wZ0_14 : u_lay RZ0 TZ0 14 ∈ wsA := List.mem_filter.mpr ⟨List.mem_of_getElem? (i := 1180) (by decide +kernel), by decide +kernel⟩
theorem wZ0_15 : u_lay RZ0 TZ0 15 ∈ wsA := List.mem_filter.mpr ⟨List.mem_of_getElem? (i := 1182) (by decide +kernel), by decide +kernel⟩
theorem wZ0_16 : u_lay RZ0 TZ0 16 ∈ wsA := List.mem_filter.mpr ⟨List.mem_of_getElem? (i := 1184) (by decide +kernel), by decide +kernel⟩
theorem wZ0_17 : u_lay RZ0 TZ0 17 ∈ wsA := List.mem_filter.mpr ⟨List.mem_of_getElem? (i := 1186) (by decide +kernel), by decide +kernel⟩
theorem wZ0_18 : u_lay RZ0 TZ0 18 ∈ wsA := List.mem_filter.mpr ⟨List.mem_of_getElem? (i := 1188) (by decide +kernel), by decide +kernel⟩
theorem wZ0_19 : u_lay RZ0 TZ0 19 ∈ wsA := List.mem_filter.mpr ⟨List.mem_of_getElem? (i := 1190) (by decide +kernel), by decide +kernel⟩
theorem wZ0_20 : u_lay RZ0 TZ0 20 ∈ wsA := List.mem_filter.mpr ⟨List.mem_of_getElem? (i := 1192) (by decide +kernel), by decide +kernel⟩
theorem wZ0_21 : u_lay RZ0 TZ0 21 ∈ wsA := List.mem_filter.mpr ⟨List.mem_of_getElem? (i := 1194) (by decide +kernel), by decide +kernel⟩
theorem wZ0_22 : u_lay RZ0 TZ0 22 ∈ wsA := List.mem_filter.mpr ⟨List.mem_of_getElem? (i := 1196) (by decide +kernel), by decide +kernel⟩
theorem wZ0_23 : u_lay RZ0 TZ0 23 ∈ wsA := List.mem_filter.mpr ⟨List.mem_of_getElem? (i := 1198) (by decide +kernel), by decide +kernel⟩
theorem wZ0_24 : u_lay RZ0 TZ0 24 ∈ wsA := List.mem_filter.mpr ⟨List.mem_of_getElem? (i := 1200) (by decide +kernel), by decide +kernel⟩
theorem wZ0_25 : u_lay RZ0 TZ0 25 ∈ wsA := List.mem_filter.mpr ⟨List.mem_of_getElem? (i := 1202) (by decide +kernel), by decide +kernel⟩
theorem wZ0_26 : u_lay RZ0 TZ0 26 ∈ wsA := List.mem_filter.mpr ⟨List.mem_of_getElem? (i := 1204) (by decide +kernel), by decide +kernel⟩
theorem wZ0_27 : u_lay RZ0 TZ0 27 ∈ wsA := List.mem_filter.mpr ⟨List.mem_of_getElem? (i := 1206) (by decide +kernel), by decide +kernel⟩
theorem wZ0_28 : u_lay RZ0 TZ0 28 ∈ wsA := List.mem_filter.mpr ⟨List.mem_of_getElem? (i := 1208) (by decide +kernel), by decide +kernel⟩
theorem wZ0_29 : u_lay RZ0 TZ0 29 ∈ wsA := List.mem_filter.mpr ⟨List.mem_of_getElem? (i := 1210) (by decide +kernel), by decide +kernel⟩
theorem wZ0_30 : u_lay RZ0 TZ0 30 ∈ wsA := List.mem_filter.mpr ⟨List.mem_of_getElem? (i := 1212) (by decide +kernel), by decide +kernel⟩
theorem wsA_Z0 : ∀ w ∈ u_ws RZ0 TZ0 31, w ∈ wsA := wsA_app (fun k hk => match k, hk with
  | 0, _ => wZ0_0
  | 1, _ => wZ0_1
  | 2, _ => wZ0_2
  | 3, _ => wZ0_3
  | 4, _ => wZ0_4
  | 5, _ => wZ0_5
  | 6, _ => wZ0_6
  | 7, _ => wZ0_7
  | 8, _ => wZ0_8
  | 9, _ => wZ0_9
  | 10, _ => wZ0_10
  | 11, _ => wZ0_11
  | 12, _ => wZ0_12
  | 13, _ => wZ0_13
  | 14, _ => wZ0_14
  | 15, _ => wZ0_15
  | 16, _ => wZ0_16
  | 17, _ => wZ0_17
  | 18, _ => wZ0_18
  | 19, _ => wZ0_19
  | 20, _ => wZ0_20
  | 21, _ => wZ0_21
  | 22, _ => wZ0_22
  | 23, _ => wZ0_23
  | 24, _ => wZ0_24
  | 25, _ => wZ0_25
  | 26, _ => wZ0_26
  | 27, _ => wZ0_27
  | 28, _ => wZ0_28
  | 29, _ => wZ0_29
  | 30, _ => wZ0_30
  | k + 31, hk => absurd hk (by omega))
def RZ1 : String := "TableText"
def TZ1 : u_T := fun k => match k with
  | 0 => ("TableText", "text", "[C", true)
  | 1 => ("TableText", "page", "LTableText$Page;", true)
  | 2 => ("TableText", "length", "I", false)
  | 3 => ("TableText", "document", "LTableText$Node;", false)
  | _ => ("TableText", "cursor", "LTableText$Node;", false)
def tyZ1 : Nat → FieldType := fun k => match k with
  | 0 => .array .char
  | 1 => .object "TableText$Page"
  | 2 => .int
  | 3 => .object "TableText$Node"
  | _ => .object "TableText$Node"
theorem nmZ1 : ∀ a, a < 5 → ∀ b, b < 5 → a ≠ b → (TZ1 a).2.1 ≠ (TZ1 b).2.1 := by decide +kernel
theorem tyZ1_ok : ∀ k, k < 5 → parseFieldDescriptor (TZ1 k).2.2.1 = some (tyZ1 k) := by decide +kernel
theorem wZ1_0 : u_lay RZ1 TZ1 0 ∈ wsA := List.mem_filter.mpr ⟨List.mem_of_getElem? (i := 200) (by decide +kernel), by decide +kernel⟩
theorem wZ1_1 : u_lay RZ1 TZ1 1 ∈ wsA := List.mem_filter.mpr ⟨List.mem_of_getElem? (i := 202) (by decide +kernel), by decide +kernel⟩
theorem wZ1_2 : u_lay RZ1 TZ1 2 ∈ wsA := List.mem_filter.mpr ⟨List.mem_of_getElem? (i := 204) (by decide +kernel), by decide +kernel⟩
theorem wZ1_3 : u_lay RZ1 TZ1 3 ∈ wsA := List.mem_filter.mpr ⟨List.mem_of_getElem? (i := 206) (by decide +kernel), by decide +kernel⟩
theorem wZ1_4 : u_lay RZ1 TZ1 4 ∈ wsA := List.mem_filter.mpr ⟨List.mem_of_getElem? (i := 208) (by decide +kernel), by decide +kernel⟩
theorem wsA_Z1 : ∀ w ∈ u_ws RZ1 TZ1 5, w ∈ wsA := wsA_app (fun k hk => match k, hk with
  | 0, _ => wZ1_0
  | 1, _ => wZ1_1
  | 2, _ => wZ1_2
  | 3, _ => wZ1_3
  | 4, _ => wZ1_4
  | k + 5, hk => absurd hk (by omega))
def RZ2 : String := "TableText$Node"
def TZ2 : u_T := fun k => match k with
  | 0 => ("TableText$Node", "sort", "I", false)
  | 1 => ("TableText$Node", "amount", "I", false)
  | 2 => ("TableText$Node", "letters", "Ljava/lang/String;", false)
  | 3 => ("TableText$Node", "name", "Ljava/lang/String;", false)
  | 4 => ("TableText$Node", "outer", "LTableText$Node;", false)
  | 5 => ("TableText$Node", "first", "LTableText$Node;", false)
  | 6 => ("TableText$Node", "last", "LTableText$Node;", false)
  | _ => ("TableText$Node", "next", "LTableText$Node;", false)
def tyZ2 : Nat → FieldType := fun k => match k with
  | 0 => .int
  | 1 => .int
  | 2 => .object "java/lang/String"
  | 3 => .object "java/lang/String"
  | 4 => .object "TableText$Node"
  | 5 => .object "TableText$Node"
  | 6 => .object "TableText$Node"
  | _ => .object "TableText$Node"
theorem nmZ2 : ∀ a, a < 8 → ∀ b, b < 8 → a ≠ b → (TZ2 a).2.1 ≠ (TZ2 b).2.1 := by decide +kernel
theorem tyZ2_ok : ∀ k, k < 8 → parseFieldDescriptor (TZ2 k).2.2.1 = some (tyZ2 k) := by decide +kernel
theorem wZ2_0 : u_lay RZ2 TZ2 0 ∈ wsA := List.mem_filter.mpr ⟨List.mem_of_getElem? (i := 178) (by decide +kernel), by decide +kernel⟩
theorem wZ2_1 : u_lay RZ2 TZ2 1 ∈ wsA := List.mem_filter.mpr ⟨List.mem_of_getElem? (i := 180) (by decide +kernel), by decide +kernel⟩
theorem wZ2_2 : u_lay RZ2 TZ2 2 ∈ wsA := List.mem_filter.mpr ⟨List.mem_of_getElem? (i := 182) (by decide +kernel), by decide +kernel⟩
theorem wZ2_3 : u_lay RZ2 TZ2 3 ∈ wsA := List.mem_filter.mpr ⟨List.mem_of_getElem? (i := 184) (by decide +kernel), by decide +kernel⟩
theorem wZ2_4 : u_lay RZ2 TZ2 4 ∈ wsA := List.mem_filter.mpr ⟨List.mem_of_getElem? (i := 186) (by decide +kernel), by decide +kernel⟩
theorem wZ2_5 : u_lay RZ2 TZ2 5 ∈ wsA := List.mem_filter.mpr ⟨List.mem_of_getElem? (i := 188) (by decide +kernel), by decide +kernel⟩
theorem wZ2_6 : u_lay RZ2 TZ2 6 ∈ wsA := List.mem_filter.mpr ⟨List.mem_of_getElem? (i := 190) (by decide +kernel), by decide +kernel⟩
theorem wZ2_7 : u_lay RZ2 TZ2 7 ∈ wsA := List.mem_filter.mpr ⟨List.mem_of_getElem? (i := 192) (by decide +kernel), by decide +kernel⟩
theorem wsA_Z2 : ∀ w ∈ u_ws RZ2 TZ2 8, w ∈ wsA := wsA_app (fun k hk => match k, hk with
  | 0, _ => wZ2_0
  | 1, _ => wZ2_1
  | 2, _ => wZ2_2
  | 3, _ => wZ2_3
  | 4, _ => wZ2_4
  | 5, _ => wZ2_5
  | 6, _ => wZ2_6
  | 7, _ => wZ2_7
  | k + 8, hk => absurd hk (by omega))
def RZ3 : String := "TableText$Step"
def TZ3 : u_T := fun k => match k with
  | 0 => ("TableText$Step", "name", "Ljava/lang/String;", true)
  | 1 => ("TableText$Step", "place", "I", true)
  | _ => ("TableText$Step", "next", "LTableText$Step;", false)
def tyZ3 : Nat → FieldType := fun k => match k with
  | 0 => .object "java/lang/String"
  | 1 => .int
  | _ => .object "TableText$Step"
theorem nmZ3 : ∀ a, a < 3 → ∀ b, b < 3 → a ≠ b → (TZ3 a).2.1 ≠ (TZ3 b).2.1 := by decide +kernel
theorem tyZ3_ok : ∀ k, k < 3 → parseFieldDescriptor (TZ3 k).2.2.1 = some (tyZ3 k) := by decide +kernel
theorem wZ3_0 : u_lay RZ3 TZ3 0 ∈ wsA := List.mem_filter.mpr ⟨List.mem_of_getElem? (i := 732) (by decide +kernel), by decide +kernel⟩
theorem wZ3_1 : u_lay RZ3 TZ3 1 ∈ wsA := List.mem_filter.mpr ⟨List.mem_of_getElem? (i := 734) (by decide +kernel), by decide +kernel⟩
theorem wZ3_2 : u_lay RZ3 TZ3 2 ∈ wsA := List.mem_filter.mpr ⟨List.mem_of_getElem? (i := 736) (by decide +kernel), by decide +kernel⟩
theorem wsA_Z3 : ∀ w ∈ u_ws RZ3 TZ3 3, w ∈ wsA := wsA_app (fun k hk => match k, hk with
  | 0, _ => wZ3_0
  | 1, _ => wZ3_1
  | 2, _ => wZ3_2
  | k + 3, hk => absurd hk (by omega))
def RZ4 : String := "TableText$Reader"
def TZ4 : u_T := fun k => match k with
  | 0 => ("TableText$Reader", "text", "[C", true)
  | 1 => ("TableText$Reader", "length", "I", true)
  | 2 => ("TableText$Reader", "letters", "Ljava/lang/StringBuilder;", true)
  | 3 => ("TableText$Reader", "dotted", "Ljava/util/ArrayList;", true)
  | 4 => ("TableText$Reader", "document", "LTableText$Node;", true)
  | 5 => ("TableText$Reader", "opened", "LTableText$Node;", false)
  | 6 => ("TableText$Reader", "at", "I", false)
  | _ => ("TableText$Reader", "wrongPlace", "I", false)
def tyZ4 : Nat → FieldType := fun k => match k with
  | 0 => .array .char
  | 1 => .int
  | 2 => .object "java/lang/StringBuilder"
  | 3 => .object "java/util/ArrayList"
  | 4 => .object "TableText$Node"
  | 5 => .object "TableText$Node"
  | 6 => .int
  | _ => .int
theorem nmZ4 : ∀ a, a < 8 → ∀ b, b < 8 → a ≠ b → (TZ4 a).2.1 ≠ (TZ4 b).2.1 := by decide +kernel
theorem tyZ4_ok : ∀ k, k < 8 → parseFieldDescriptor (TZ4 k).2.2.1 = some (tyZ4 k) := by decide +kernel
theorem wZ4_0 : u_lay RZ4 TZ4 0 ∈ wsA := List.mem_filter.mpr ⟨List.mem_of_getElem? (i := 291) (by decide +kernel), by decide +kernel⟩
theorem wZ4_1 : u_lay RZ4 TZ4 1 ∈ wsA := List.mem_filter.mpr ⟨List.mem_of_getElem? (i := 293) (by decide +kernel), by decide +kernel⟩
theorem wZ4_2 : u_lay RZ4 TZ4 2 ∈ wsA := List.mem_filter.mpr ⟨List.mem_of_getElem? (i := 295) (by decide +kernel), by decide +kernel⟩
theorem wZ4_3 : u_lay RZ4 TZ4 3 ∈ wsA := List.mem_filter.mpr ⟨List.mem_of_getElem? (i := 297) (by decide +kernel), by decide +kernel⟩
theorem wZ4_4 : u_lay RZ4 TZ4 4 ∈ wsA := List.mem_filter.mpr ⟨List.mem_of_getElem? (i := 299) (by decide +kernel), by decide +kernel⟩
theorem wZ4_5 : u_lay RZ4 TZ4 5 ∈ wsA := List.mem_filter.mpr ⟨List.mem_of_getElem? (i := 301) (by decide +kernel), by decide +kernel⟩
theorem wZ4_6 : u_lay RZ4 TZ4 6 ∈ wsA := List.mem_filter.mpr ⟨List.mem_of_getElem? (i := 303) (by decide +kernel), by decide +kernel⟩
theorem wZ4_7 : u_lay RZ4 TZ4 7 ∈ wsA := List.mem_filter.mpr ⟨List.mem_of_getElem? (i := 305) (by decide +kernel), by decide +kernel⟩
theorem wsA_Z4 : ∀ w ∈ u_ws RZ4 TZ4 8, w ∈ wsA := wsA_app (fun k hk => match k, hk with
  | 0, _ => wZ4_0
  | 1, _ => wZ4_1
  | 2, _ => wZ4_2
  | 3, _ => wZ4_3
  | 4, _ => wZ4_4
  | 5, _ => wZ4_5
  | 6, _ => wZ4_6
  | 7, _ => wZ4_7
  | k + 8, hk => absurd hk (by omega))
def RZ5 : String := "TableText$Page"
def TZ5 : u_T := fun k => match k with
  | 0 => ("TableText$Page", "kept", "[C", true)
  | _ => ("TableText$Page", "count", "I", false)
def tyZ5 : Nat → FieldType := fun k => match k with
  | 0 => .array .char
  | _ => .int
theorem nmZ5 : ∀ a, a < 2 → ∀ b, b < 2 → a ≠ b → (TZ5 a).2.1 ≠ (TZ5 b).2.1 := by decide +kernel
theorem tyZ5_ok : ∀ k, k < 2 → parseFieldDescriptor (TZ5 k).2.2.1 = some (tyZ5 k) := by decide +kernel
theorem wZ5_0 : u_lay RZ5 TZ5 0 ∈ wsA := List.mem_filter.mpr ⟨List.mem_of_getElem? (i := 143) (by decide +kernel), by decide +kernel⟩
theorem wZ5_1 : u_lay RZ5 TZ5 1 ∈ wsA := List.mem_filter.mpr ⟨List.mem_of_getElem? (i := 145) (by decide +kernel), by decide +kernel⟩
theorem wsA_Z5 : ∀ w ∈ u_ws RZ5 TZ5 2, w ∈ wsA := wsA_app (fun k hk => match k, hk with
  | 0, _ => wZ5_0
  | 1, _ => wZ5_1
  | k + 2, hk => absurd hk (by omega))
def RZ6 : String := "java/lang/String"
def TZ6 : u_T := fun k => match k with
  | 0 => ("java/lang/String", "value", "[B", true)
  | _ => ("java/lang/String", "coder", "B", true)
def tyZ6 : Nat → FieldType := fun k => match k with
  | 0 => .array .byte
  | _ => .byte
theorem nmZ6 : ∀ a, a < 2 → ∀ b, b < 2 → a ≠ b → (TZ6 a).2.1 ≠ (TZ6 b).2.1 := by decide +kernel
theorem tyZ6_ok : ∀ k, k < 2 → parseFieldDescriptor (TZ6 k).2.2.1 = some (tyZ6 k) := by decide +kernel
theorem wZ6_0 : u_lay RZ6 TZ6 0 ∈ wsA := List.mem_filter.mpr ⟨List.mem_of_getElem? (i := 620) (by decide +kernel), by decide +kernel⟩
theorem wZ6_1 : u_lay RZ6 TZ6 1 ∈ wsA := List.mem_filter.mpr ⟨List.mem_of_getElem? (i := 622) (by decide +kernel), by decide +kernel⟩
theorem wsA_Z6 : ∀ w ∈ u_ws RZ6 TZ6 2, w ∈ wsA := wsA_app (fun k hk => match k, hk with
  | 0, _ => wZ6_0
  | 1, _ => wZ6_1
  | k + 2, hk => absurd hk (by omega))
def RZ7 : String := "java/lang/StringBuilder"
def TZ7 : u_T := fun k => match k with
  | 0 => ("java/lang/AbstractStringBuilder", "value", "[B", false)
  | 1 => ("java/lang/AbstractStringBuilder", "coder", "B", false)
  | 2 => ("java/lang/AbstractStringBuilder", "maybeLatin1", "Z", false)
  | _ => ("java/lang/AbstractStringBuilder", "count", "I", false)
def tyZ7 : Nat → FieldType := fun k => match k with
  | 0 => .array .byte
  | 1 => .byte
  | 2 => .boolean
  | _ => .int
theorem nmZ7 : ∀ a, a < 4 → ∀ b, b < 4 → a ≠ b → (TZ7 a).2.1 ≠ (TZ7 b).2.1 := by decide +kernel
theorem tyZ7_ok : ∀ k, k < 4 → parseFieldDescriptor (TZ7 k).2.2.1 = some (tyZ7 k) := by decide +kernel
theorem wZ7_0 : u_lay RZ7 TZ7 0 ∈ wsA := List.mem_filter.mpr ⟨List.mem_of_getElem? (i := 244) (by decide +kernel), by decide +kernel⟩
theorem wZ7_1 : u_lay RZ7 TZ7 1 ∈ wsA := List.mem_filter.mpr ⟨List.mem_of_getElem? (i := 246) (by decide +kernel), by decide +kernel⟩
theorem wZ7_2 : u_lay RZ7 TZ7 2 ∈ wsA := List.mem_filter.mpr ⟨List.mem_of_getElem? (i := 248) (by decide +kernel), by decide +kernel⟩
theorem wZ7_3 : u_lay RZ7 TZ7 3 ∈ wsA := List.mem_filter.mpr ⟨List.mem_of_getElem? (i := 250) (by decide +kernel), by decide +kernel⟩
theorem wsA_Z7 : ∀ w ∈ u_ws RZ7 TZ7 4, w ∈ wsA := wsA_app (fun k hk => match k, hk with
  | 0, _ => wZ7_0
  | 1, _ => wZ7_1
  | 2, _ => wZ7_2
  | 3, _ => wZ7_3
  | k + 4, hk => absurd hk (by omega))
def RZ8 : String := "java/util/ArrayList"
def TZ8 : u_T := fun k => match k with
  | 0 => ("java/util/AbstractList", "modCount", "I", false)
  | 1 => ("java/util/ArrayList", "elementData", "[Ljava/lang/Object;", false)
  | _ => ("java/util/ArrayList", "size", "I", false)
def tyZ8 : Nat → FieldType := fun k => match k with
  | 0 => .int
  | 1 => .array (.object "java/lang/Object")
  | _ => .int
theorem nmZ8 : ∀ a, a < 3 → ∀ b, b < 3 → a ≠ b → (TZ8 a).2.1 ≠ (TZ8 b).2.1 := by decide +kernel
theorem tyZ8_ok : ∀ k, k < 3 → parseFieldDescriptor (TZ8 k).2.2.1 = some (tyZ8 k) := by decide +kernel
theorem wZ8_0 : u_lay RZ8 TZ8 0 ∈ wsA := List.mem_filter.mpr ⟨List.mem_of_getElem? (i := 277) (by decide +kernel), by decide +kernel⟩
theorem wZ8_1 : u_lay RZ8 TZ8 1 ∈ wsA := List.mem_filter.mpr ⟨List.mem_of_getElem? (i := 273) (by decide +kernel), by decide +kernel⟩
theorem wZ8_2 : u_lay RZ8 TZ8 2 ∈ wsA := List.mem_filter.mpr ⟨List.mem_of_getElem? (i := 275) (by decide +kernel), by decide +kernel⟩
theorem wsA_Z8 : ∀ w ∈ u_ws RZ8 TZ8 3, w ∈ wsA := wsA_app (fun k hk => match k, hk with
  | 0, _ => wZ8_0
  | 1, _ => wZ8_1
  | 2, _ => wZ8_2
  | k + 3, hk => absurd hk (by omega))
abbrev vwCl : List vw_C := [(RZ0, TZ0, 31), (RZ1, TZ1, 5), (RZ2, TZ2, 8), (RZ3, TZ3, 3), (RZ4, TZ4, 8), (RZ5, TZ5, 2), (RZ6, TZ6, 2), (RZ7, TZ7, 4), (RZ8, TZ8, 3)]
def tyL (dA : Nat → ClassId) : List (ClassId × FieldType) := [(dA 0, .int), (dA 1, .char), (dA 2, .byte), (dA 3, .object "java/lang/Object"), (dA 4, .long)]
abbrev RREF : String := RZ0
abbrev TREF : u_T := TZ0
abbrev tyREF : Nat → FieldType := tyZ0
abbrev cREF : Nat := 0
theorem tyREF_ok : ∀ k, k < 31 → parseFieldDescriptor (TREF k).2.2.1 = some (tyREF k) := tyZ0_ok
theorem nREF : ∀ a, a < 31 → ∀ b, b < 31 → a ≠ b → (TREF a).2.1 ≠ (TREF b).2.1 := nmZ0
theorem wsA_ref : ∀ w ∈ u_ws RREF TREF 31, w ∈ wsA := wsA_Z0
theorem hcREF : vwCl[cREF]? = some (RREF, TREF, 31) := rfl
