/-! Words for the calls of the wrappers in the law. -/
theorem mW_ini : Cond.initialized RLW ∈ wsA := List.mem_filter.mpr ⟨List.mem_of_getElem? (i := 95) (by decide +kernel), by decide +kernel⟩
theorem mW_l_type : Cond.methodLink RLW 42 y_W_type ∈ wsA := List.mem_filter.mpr ⟨List.mem_of_getElem? (i := 1017) (by decide +kernel), by decide +kernel⟩
theorem mW_s_type : Cond.static y_W_type ∈ wsA := List.mem_filter.mpr ⟨List.mem_of_getElem? (i := 1018) (by decide +kernel), by decide +kernel⟩
theorem mW_c_type : Cond.codeWith y_W_type cb_W_type 6 (some .int) [(0, 11, 14, 13), (0, 11, 18, 15)] ∈ wsA := List.mem_filter.mpr ⟨List.mem_of_getElem? (i := 1019) (by decide +kernel), by decide +kernel⟩
theorem mW_n_type : ∀ sig, parseMethodDescriptor y_W_type.desc = some sig → 4 = sig.parameters.length := fun sig h => by
  have e : (parseMethodDescriptor y_W_type.desc).map (fun d => d.parameters.length) = some 4 := by decide +kernel
  rw [h] at e; exact (Option.some.inj e).symm
theorem mW_l_written : Cond.methodLink RLW 59 y_W_written ∈ wsA := List.mem_filter.mpr ⟨List.mem_of_getElem? (i := 1058) (by decide +kernel), by decide +kernel⟩
theorem mW_s_written : Cond.static y_W_written ∈ wsA := List.mem_filter.mpr ⟨List.mem_of_getElem? (i := 1059) (by decide +kernel), by decide +kernel⟩
theorem mW_c_written : Cond.codeWith y_W_written cb_W_written 4 (some .int) [(0, 9, 12, 21)] ∈ wsA := List.mem_filter.mpr ⟨List.mem_of_getElem? (i := 1060) (by decide +kernel), by decide +kernel⟩
theorem mW_n_written : ∀ sig, parseMethodDescriptor y_W_written.desc = some sig → 3 = sig.parameters.length := fun sig h => by
  have e : (parseMethodDescriptor y_W_written.desc).map (fun d => d.parameters.length) = some 3 := by decide +kernel
  rw [h] at e; exact (Option.some.inj e).symm
theorem mW_l_down : Cond.methodLink RLW 67 y_W_down ∈ wsA := List.mem_filter.mpr ⟨List.mem_of_getElem? (i := 1081) (by decide +kernel), by decide +kernel⟩
theorem mW_s_down : Cond.static y_W_down ∈ wsA := List.mem_filter.mpr ⟨List.mem_of_getElem? (i := 1082) (by decide +kernel), by decide +kernel⟩
theorem mW_c_down : Cond.codeWith y_W_down cb_W_down 4 (some .int) [(0, 9, 12, 21)] ∈ wsA := List.mem_filter.mpr ⟨List.mem_of_getElem? (i := 1083) (by decide +kernel), by decide +kernel⟩
theorem mW_n_down : ∀ sig, parseMethodDescriptor y_W_down.desc = some sig → 3 = sig.parameters.length := fun sig h => by
  have e : (parseMethodDescriptor y_W_down.desc).map (fun d => d.parameters.length) = some 3 := by decide +kernel
  rw [h] at e; exact (Option.some.inj e).symm
theorem mW_l_up : Cond.methodLink RLW 70 y_W_up ∈ wsA := List.mem_filter.mpr ⟨List.mem_of_getElem? (i := 1092) (by decide +kernel), by decide +kernel⟩
theorem mW_s_up : Cond.static y_W_up ∈ wsA := List.mem_filter.mpr ⟨List.mem_of_getElem? (i := 1093) (by decide +kernel), by decide +kernel⟩
theorem mW_c_up : Cond.codeWith y_W_up cb_W_up 3 (some .int) [(0, 8, 11, 15)] ∈ wsA := List.mem_filter.mpr ⟨List.mem_of_getElem? (i := 1094) (by decide +kernel), by decide +kernel⟩
theorem mW_n_up : ∀ sig, parseMethodDescriptor y_W_up.desc = some sig → 2 = sig.parameters.length := fun sig h => by
  have e : (parseMethodDescriptor y_W_up.desc).map (fun d => d.parameters.length) = some 2 := by decide +kernel
  rw [h] at e; exact (Option.some.inj e).symm
theorem mW_l_letter : Cond.methodLink RLW 82 y_W_letter ∈ wsA := List.mem_filter.mpr ⟨List.mem_of_getElem? (i := 1099) (by decide +kernel), by decide +kernel⟩
theorem mW_s_letter : Cond.static y_W_letter ∈ wsA := List.mem_filter.mpr ⟨List.mem_of_getElem? (i := 1100) (by decide +kernel), by decide +kernel⟩
theorem mW_c_letter : Cond.codeWith y_W_letter cb_W_letter 4 (some .int) [(0, 9, 12, 15), (0, 9, 15, 21)] ∈ wsA := List.mem_filter.mpr ⟨List.mem_of_getElem? (i := 1101) (by decide +kernel), by decide +kernel⟩
theorem mW_n_letter : ∀ sig, parseMethodDescriptor y_W_letter.desc = some sig → 3 = sig.parameters.length := fun sig h => by
  have e : (parseMethodDescriptor y_W_letter.desc).map (fun d => d.parameters.length) = some 3 := by decide +kernel
  rw [h] at e; exact (Option.some.inj e).symm
theorem mW_l_key : Cond.methodLink RLW 85 y_W_key ∈ wsA := List.mem_filter.mpr ⟨List.mem_of_getElem? (i := 1108) (by decide +kernel), by decide +kernel⟩
theorem mW_s_key : Cond.static y_W_key ∈ wsA := List.mem_filter.mpr ⟨List.mem_of_getElem? (i := 1109) (by decide +kernel), by decide +kernel⟩
theorem mW_c_key : Cond.codeWith y_W_key cb_W_key 4 (some .int) [(0, 9, 12, 15)] ∈ wsA := List.mem_filter.mpr ⟨List.mem_of_getElem? (i := 1110) (by decide +kernel), by decide +kernel⟩
theorem mW_n_key : ∀ sig, parseMethodDescriptor y_W_key.desc = some sig → 3 = sig.parameters.length := fun sig h => by
  have e : (parseMethodDescriptor y_W_key.desc).map (fun d => d.parameters.length) = some 3 := by decide +kernel
  rw [h] at e; exact (Option.some.inj e).symm
