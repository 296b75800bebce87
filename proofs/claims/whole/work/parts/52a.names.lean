abbrev cb_T_type : ByteArray := prog_1_method_2_code
def y_T_type : MethodName := ⟨RZ1, "type", "(JI)I"⟩
abbrev cb_T_written : ByteArray := prog_1_method_5_code
def y_T_written : MethodName := ⟨RZ1, "written", "(I)I"⟩
abbrev cb_T_down : ByteArray := prog_1_method_7_code
def y_T_down : MethodName := ⟨RZ1, "down", "(I)I"⟩
abbrev cb_T_up : ByteArray := prog_1_method_8_code
def y_T_up : MethodName := ⟨RZ1, "up", "()I"⟩
abbrev cb_T_letter : ByteArray := prog_1_method_11_code
def y_T_letter : MethodName := ⟨RZ1, "letter", "(I)I"⟩
abbrev cb_T_key : ByteArray := prog_1_method_12_code
def y_T_key : MethodName := ⟨RZ1, "key", "(I)I"⟩
theorem kw_T_36 : kWS RZ1 36 y_T_allAreCharacters (.code y_T_allAreCharacters cb_T_allAreCharacters 5 (some .boolean)) 2 := ⟨gS (List.mem_filter.mpr ⟨List.mem_of_getElem? (i := 1026) (by decide +kernel), by decide +kernel⟩) (List.mem_filter.mpr ⟨List.mem_of_getElem? (i := 1027) (by decide +kernel), by decide +kernel⟩) (List.mem_filter.mpr ⟨List.mem_of_getElem? (i := 96) (by decide +kernel), by decide +kernel⟩) (List.mem_filter.mpr ⟨List.mem_of_getElem? (i := 1028) (by decide +kernel), by decide +kernel⟩), by decide, by decide, by decide +kernel⟩
theorem nF_T_72 : Cond.fieldLinkNest RZ1 72 (cT 5 0).1 (cT 5 0).2.1 (cT 5 0).2.2.1 "TableText" ∈ nwA := List.mem_filter.mpr ⟨List.mem_of_getElem? (i := 45) (by decide +kernel), by decide +kernel⟩
theorem kw_T_78 : kWN RZ1 78 "TableText" y_N_inner (.code y_N_inner cb_N_inner 4 (some (.object "TableText$Node"))) 1 ∧ Cond.instanceMethod y_N_inner ∈ wsA ∧ Cond.selects (cC 2) y_N_inner y_N_inner ∈ wsA := ⟨⟨List.mem_filter.mpr ⟨List.mem_of_getElem? (i := 1091) (by decide +kernel), by decide +kernel⟩, List.mem_filter.mpr ⟨List.mem_of_getElem? (i := 993) (by decide +kernel), by decide +kernel⟩, List.mem_filter.mpr ⟨List.mem_of_getElem? (i := 98) (by decide +kernel), by decide +kernel⟩, by decide, by decide, by decide +kernel⟩, List.mem_filter.mpr ⟨List.mem_of_getElem? (i := 1090) (by decide +kernel), by decide +kernel⟩, List.mem_filter.mpr ⟨List.mem_of_getElem? (i := 50) (by decide +kernel), by decide +kernel⟩⟩
theorem nF_T_85 : Cond.fieldLinkNest RZ1 85 (cT 2 4).1 (cT 2 4).2.1 (cT 2 4).2.2.1 "TableText" ∈ nwA := List.mem_filter.mpr ⟨List.mem_of_getElem? (i := 76) (by decide +kernel), by decide +kernel⟩
theorem nF_T_88 : Cond.fieldLinkNest RZ1 88 (cT 2 2).1 (cT 2 2).2.1 (cT 2 2).2.2.1 "TableText" ∈ nwA := List.mem_filter.mpr ⟨List.mem_of_getElem? (i := 68) (by decide +kernel), by decide +kernel⟩
theorem kw_T_92 : kW RZ1 92 (cC 6) y_Str_length (.code y_Str_length cb_Str_length 1 (some .int)) 0 := ⟨gV (List.mem_filter.mpr ⟨List.mem_of_getElem? (i := 1106) (by decide +kernel), by decide +kernel⟩) (List.mem_filter.mpr ⟨List.mem_of_getElem? (i := 428) (by decide +kernel), by decide +kernel⟩) (List.mem_filter.mpr ⟨List.mem_of_getElem? (i := 429) (by decide +kernel), by decide +kernel⟩) (List.mem_filter.mpr ⟨List.mem_of_getElem? (i := 108) (by decide +kernel), by decide +kernel⟩) (List.mem_filter.mpr ⟨List.mem_of_getElem? (i := 430) (by decide +kernel), by decide +kernel⟩), rfl, by decide, by decide, by decide +kernel⟩
theorem kw_T_97 : kW RZ1 97 (cC 6) y_Str_charAt (.code y_Str_charAt cb_Str_charAt 2 (some .char)) 1 := ⟨gV (List.mem_filter.mpr ⟨List.mem_of_getElem? (i := 1107) (by decide +kernel), by decide +kernel⟩) (List.mem_filter.mpr ⟨List.mem_of_getElem? (i := 884) (by decide +kernel), by decide +kernel⟩) (List.mem_filter.mpr ⟨List.mem_of_getElem? (i := 885) (by decide +kernel), by decide +kernel⟩) (List.mem_filter.mpr ⟨List.mem_of_getElem? (i := 108) (by decide +kernel), by decide +kernel⟩) (List.mem_filter.mpr ⟨List.mem_of_getElem? (i := 886) (by decide +kernel), by decide +kernel⟩), rfl, by decide, by decide, by decide +kernel⟩
theorem nF_T_101 : Cond.fieldLinkNest RZ1 101 (cT 2 3).1 (cT 2 3).2.1 (cT 2 3).2.2.1 "TableText" ∈ nwA := List.mem_filter.mpr ⟨List.mem_of_getElem? (i := 73) (by decide +kernel), by decide +kernel⟩
theorem d_T_type_0 : decode cb_T_type 0 = .ok (.iload_n 3, 1) := by decide +kernel
theorem d_T_type_1 : decode cb_T_type 1 = .ok (.iconst 1, 1) := by decide +kernel
theorem d_T_type_2 : decode cb_T_type 2 = .ok (.if_icmp .lt 17, 3) := by decide +kernel
theorem d_T_type_5 : decode cb_T_type 5 = .ok (.iload_n 3, 1) := by decide +kernel
theorem d_T_type_6 : decode cb_T_type 6 = .ok (.bipush 8, 2) := by decide +kernel
theorem d_T_type_8 : decode cb_T_type 8 = .ok (.if_icmp .gt 11, 3) := by decide +kernel
theorem d_T_type_11 : decode cb_T_type 11 = .ok (.lload_n 1, 1) := by decide +kernel
theorem d_T_type_12 : decode cb_T_type 12 = .ok (.iload_n 3, 1) := by decide +kernel
theorem d_T_type_13 : decode cb_T_type 13 = .ok (.invokestatic 36, 3) := by decide +kernel
theorem d_T_type_16 : decode cb_T_type 16 = .ok (.ifCond .ne 11, 3) := by decide +kernel
theorem d_T_type_19 : decode cb_T_type 19 = .ok (.new 40, 3) := by decide +kernel
theorem d_T_type_22 : decode cb_T_type 22 = .ok (.dup, 1) := by decide +kernel
theorem d_T_type_23 : decode cb_T_type 23 = .ok (.invokespecial 42, 3) := by decide +kernel
theorem d_T_type_26 : decode cb_T_type 26 = .ok (.athrow, 1) := by decide +kernel
theorem d_T_type_27 : decode cb_T_type 27 = .ok (.aload_n 0, 1) := by decide +kernel
theorem d_T_type_28 : decode cb_T_type 28 = .ok (.getfield 20, 3) := by decide +kernel
theorem d_T_type_31 : decode cb_T_type 31 = .ok (.iload_n 3, 1) := by decide +kernel
theorem d_T_type_32 : decode cb_T_type 32 = .ok (.iadd, 1) := by decide +kernel
theorem d_T_type_33 : decode cb_T_type 33 = .ok (.sipush 240, 3) := by decide +kernel
theorem d_T_type_36 : decode cb_T_type 36 = .ok (.if_icmp .le 11, 3) := by decide +kernel
theorem d_T_type_39 : decode cb_T_type 39 = .ok (.new 43, 3) := by decide +kernel
theorem d_T_type_42 : decode cb_T_type 42 = .ok (.dup, 1) := by decide +kernel
theorem d_T_type_43 : decode cb_T_type 43 = .ok (.invokespecial 45, 3) := by decide +kernel
theorem d_T_type_46 : decode cb_T_type 46 = .ok (.athrow, 1) := by decide +kernel
theorem d_T_type_47 : decode cb_T_type 47 = .ok (.iload_n 3, 1) := by decide +kernel
theorem d_T_type_48 : decode cb_T_type 48 = .ok (.iconst 1, 1) := by decide +kernel
theorem d_T_type_49 : decode cb_T_type 49 = .ok (.isub, 1) := by decide +kernel
theorem d_T_type_50 : decode cb_T_type 50 = .ok (.istore 4, 2) := by decide +kernel
theorem d_T_type_52 : decode cb_T_type 52 = .ok (.iload 4, 2) := by decide +kernel
theorem d_T_type_54 : decode cb_T_type 54 = .ok (.ifCond .lt 35, 3) := by decide +kernel
theorem d_T_type_57 : decode cb_T_type 57 = .ok (.aload_n 0, 1) := by decide +kernel
theorem d_T_type_58 : decode cb_T_type 58 = .ok (.getfield 9, 3) := by decide +kernel
theorem d_T_type_61 : decode cb_T_type 61 = .ok (.aload_n 0, 1) := by decide +kernel
theorem d_T_type_62 : decode cb_T_type 62 = .ok (.getfield 20, 3) := by decide +kernel
theorem d_T_type_65 : decode cb_T_type 65 = .ok (.lload_n 1, 1) := by decide +kernel
theorem d_T_type_66 : decode cb_T_type 66 = .ok (.iload 4, 2) := by decide +kernel
theorem d_T_type_68 : decode cb_T_type 68 = .ok (.invokestatic 46, 3) := by decide +kernel
theorem d_T_type_71 : decode cb_T_type 71 = .ok (.i2c, 1) := by decide +kernel
theorem d_T_type_72 : decode cb_T_type 72 = .ok (.castore, 1) := by decide +kernel
theorem d_T_type_73 : decode cb_T_type 73 = .ok (.aload_n 0, 1) := by decide +kernel
theorem d_T_type_74 : decode cb_T_type 74 = .ok (.dup, 1) := by decide +kernel
theorem d_T_type_75 : decode cb_T_type 75 = .ok (.getfield 20, 3) := by decide +kernel
theorem d_T_type_78 : decode cb_T_type 78 = .ok (.iconst 1, 1) := by decide +kernel
theorem d_T_type_79 : decode cb_T_type 79 = .ok (.iadd, 1) := by decide +kernel
theorem d_T_type_80 : decode cb_T_type 80 = .ok (.putfield 20, 3) := by decide +kernel
theorem d_T_type_83 : decode cb_T_type 83 = .ok (.iinc 4 (-1), 3) := by decide +kernel
theorem d_T_type_86 : decode cb_T_type 86 = .ok (.goto (-34), 3) := by decide +kernel
theorem d_T_type_89 : decode cb_T_type 89 = .ok (.aload_n 0, 1) := by decide +kernel
theorem d_T_type_90 : decode cb_T_type 90 = .ok (.getfield 20, 3) := by decide +kernel
theorem d_T_type_93 : decode cb_T_type 93 = .ok (.ireturn, 1) := by decide +kernel
theorem d_T_written_0 : decode cb_T_written 0 = .ok (.iload_n 1, 1) := by decide +kernel
theorem d_T_written_1 : decode cb_T_written 1 = .ok (.ifCond .lt 21, 3) := by decide +kernel
theorem d_T_written_4 : decode cb_T_written 4 = .ok (.iload_n 1, 1) := by decide +kernel
theorem d_T_written_5 : decode cb_T_written 5 = .ok (.aload_n 0, 1) := by decide +kernel
theorem d_T_written_6 : decode cb_T_written 6 = .ok (.getfield 16, 3) := by decide +kernel
theorem d_T_written_9 : decode cb_T_written 9 = .ok (.getfield 66, 3) := by decide +kernel
theorem d_T_written_12 : decode cb_T_written 12 = .ok (.if_icmp .ge 10, 3) := by decide +kernel
theorem d_T_written_15 : decode cb_T_written 15 = .ok (.iload_n 1, 1) := by decide +kernel
theorem d_T_written_16 : decode cb_T_written 16 = .ok (.sipush 600, 3) := by decide +kernel
theorem d_T_written_19 : decode cb_T_written 19 = .ok (.if_icmp .lt 11, 3) := by decide +kernel
theorem d_T_written_22 : decode cb_T_written 22 = .ok (.new 69, 3) := by decide +kernel
theorem d_T_written_25 : decode cb_T_written 25 = .ok (.dup, 1) := by decide +kernel
theorem d_T_written_26 : decode cb_T_written 26 = .ok (.invokespecial 71, 3) := by decide +kernel
theorem d_T_written_29 : decode cb_T_written 29 = .ok (.athrow, 1) := by decide +kernel
theorem d_T_written_30 : decode cb_T_written 30 = .ok (.aload_n 0, 1) := by decide +kernel
theorem d_T_written_31 : decode cb_T_written 31 = .ok (.getfield 16, 3) := by decide +kernel
theorem d_T_written_34 : decode cb_T_written 34 = .ok (.getfield 72, 3) := by decide +kernel
theorem d_T_written_37 : decode cb_T_written 37 = .ok (.iload_n 1, 1) := by decide +kernel
theorem d_T_written_38 : decode cb_T_written 38 = .ok (.caload, 1) := by decide +kernel
theorem d_T_written_39 : decode cb_T_written 39 = .ok (.ireturn, 1) := by decide +kernel
theorem d_T_down_0 : decode cb_T_down 0 = .ok (.aload_n 0, 1) := by decide +kernel
theorem d_T_down_1 : decode cb_T_down 1 = .ok (.getfield 33, 3) := by decide +kernel
theorem d_T_down_4 : decode cb_T_down 4 = .ok (.iload_n 1, 1) := by decide +kernel
theorem d_T_down_5 : decode cb_T_down 5 = .ok (.invokevirtual 78, 3) := by decide +kernel
theorem d_T_down_8 : decode cb_T_down 8 = .ok (.astore_n 2, 1) := by decide +kernel
theorem d_T_down_9 : decode cb_T_down 9 = .ok (.aload_n 2, 1) := by decide +kernel
theorem d_T_down_10 : decode cb_T_down 10 = .ok (.ifnonnull 11, 3) := by decide +kernel
theorem d_T_down_13 : decode cb_T_down 13 = .ok (.new 69, 3) := by decide +kernel
theorem d_T_down_16 : decode cb_T_down 16 = .ok (.dup, 1) := by decide +kernel
theorem d_T_down_17 : decode cb_T_down 17 = .ok (.invokespecial 71, 3) := by decide +kernel
theorem d_T_down_20 : decode cb_T_down 20 = .ok (.athrow, 1) := by decide +kernel
theorem d_T_down_21 : decode cb_T_down 21 = .ok (.aload_n 0, 1) := by decide +kernel
theorem d_T_down_22 : decode cb_T_down 22 = .ok (.aload_n 2, 1) := by decide +kernel
theorem d_T_down_23 : decode cb_T_down 23 = .ok (.putfield 33, 3) := by decide +kernel
theorem d_T_down_26 : decode cb_T_down 26 = .ok (.aload_n 0, 1) := by decide +kernel
theorem d_T_down_27 : decode cb_T_down 27 = .ok (.getfield 33, 3) := by decide +kernel
theorem d_T_down_30 : decode cb_T_down 30 = .ok (.getfield 82, 3) := by decide +kernel
theorem d_T_down_33 : decode cb_T_down 33 = .ok (.ireturn, 1) := by decide +kernel
theorem d_T_up_0 : decode cb_T_up 0 = .ok (.aload_n 0, 1) := by decide +kernel
theorem d_T_up_1 : decode cb_T_up 1 = .ok (.getfield 33, 3) := by decide +kernel
theorem d_T_up_4 : decode cb_T_up 4 = .ok (.getfield 85, 3) := by decide +kernel
theorem d_T_up_7 : decode cb_T_up 7 = .ok (.astore_n 1, 1) := by decide +kernel
theorem d_T_up_8 : decode cb_T_up 8 = .ok (.aload_n 1, 1) := by decide +kernel
theorem d_T_up_9 : decode cb_T_up 9 = .ok (.ifnonnull 11, 3) := by decide +kernel
theorem d_T_up_12 : decode cb_T_up 12 = .ok (.new 43, 3) := by decide +kernel
theorem d_T_up_15 : decode cb_T_up 15 = .ok (.dup, 1) := by decide +kernel
theorem d_T_up_16 : decode cb_T_up 16 = .ok (.invokespecial 45, 3) := by decide +kernel
theorem d_T_up_19 : decode cb_T_up 19 = .ok (.athrow, 1) := by decide +kernel
theorem d_T_up_20 : decode cb_T_up 20 = .ok (.aload_n 0, 1) := by decide +kernel
theorem d_T_up_21 : decode cb_T_up 21 = .ok (.aload_n 1, 1) := by decide +kernel
theorem d_T_up_22 : decode cb_T_up 22 = .ok (.putfield 33, 3) := by decide +kernel
theorem d_T_up_25 : decode cb_T_up 25 = .ok (.aload_n 0, 1) := by decide +kernel
theorem d_T_up_26 : decode cb_T_up 26 = .ok (.getfield 33, 3) := by decide +kernel
theorem d_T_up_29 : decode cb_T_up 29 = .ok (.getfield 82, 3) := by decide +kernel
theorem d_T_up_32 : decode cb_T_up 32 = .ok (.ireturn, 1) := by decide +kernel
theorem d_T_letter_0 : decode cb_T_letter 0 = .ok (.aload_n 0, 1) := by decide +kernel
theorem d_T_letter_1 : decode cb_T_letter 1 = .ok (.getfield 33, 3) := by decide +kernel
theorem d_T_letter_4 : decode cb_T_letter 4 = .ok (.getfield 88, 3) := by decide +kernel
theorem d_T_letter_7 : decode cb_T_letter 7 = .ok (.astore_n 2, 1) := by decide +kernel
theorem d_T_letter_8 : decode cb_T_letter 8 = .ok (.aload_n 2, 1) := by decide +kernel
theorem d_T_letter_9 : decode cb_T_letter 9 = .ok (.ifnonnull 11, 3) := by decide +kernel
theorem d_T_letter_12 : decode cb_T_letter 12 = .ok (.new 43, 3) := by decide +kernel
theorem d_T_letter_15 : decode cb_T_letter 15 = .ok (.dup, 1) := by decide +kernel
theorem d_T_letter_16 : decode cb_T_letter 16 = .ok (.invokespecial 45, 3) := by decide +kernel
theorem d_T_letter_19 : decode cb_T_letter 19 = .ok (.athrow, 1) := by decide +kernel
theorem d_T_letter_20 : decode cb_T_letter 20 = .ok (.iload_n 1, 1) := by decide +kernel
theorem d_T_letter_21 : decode cb_T_letter 21 = .ok (.ifCond .lt 11, 3) := by decide +kernel
theorem d_T_letter_24 : decode cb_T_letter 24 = .ok (.iload_n 1, 1) := by decide +kernel
theorem d_T_letter_25 : decode cb_T_letter 25 = .ok (.aload_n 2, 1) := by decide +kernel
theorem d_T_letter_26 : decode cb_T_letter 26 = .ok (.invokevirtual 92, 3) := by decide +kernel
theorem d_T_letter_29 : decode cb_T_letter 29 = .ok (.if_icmp .lt 11, 3) := by decide +kernel
theorem d_T_letter_32 : decode cb_T_letter 32 = .ok (.new 69, 3) := by decide +kernel
theorem d_T_letter_35 : decode cb_T_letter 35 = .ok (.dup, 1) := by decide +kernel
theorem d_T_letter_36 : decode cb_T_letter 36 = .ok (.invokespecial 71, 3) := by decide +kernel
theorem d_T_letter_39 : decode cb_T_letter 39 = .ok (.athrow, 1) := by decide +kernel
theorem d_T_letter_40 : decode cb_T_letter 40 = .ok (.aload_n 2, 1) := by decide +kernel
theorem d_T_letter_41 : decode cb_T_letter 41 = .ok (.iload_n 1, 1) := by decide +kernel
theorem d_T_letter_42 : decode cb_T_letter 42 = .ok (.invokevirtual 97, 3) := by decide +kernel
theorem d_T_letter_45 : decode cb_T_letter 45 = .ok (.ireturn, 1) := by decide +kernel
theorem d_T_key_0 : decode cb_T_key 0 = .ok (.aload_n 0, 1) := by decide +kernel
theorem d_T_key_1 : decode cb_T_key 1 = .ok (.getfield 33, 3) := by decide +kernel
theorem d_T_key_4 : decode cb_T_key 4 = .ok (.getfield 101, 3) := by decide +kernel
theorem d_T_key_7 : decode cb_T_key 7 = .ok (.astore_n 2, 1) := by decide +kernel
theorem d_T_key_8 : decode cb_T_key 8 = .ok (.aload_n 2, 1) := by decide +kernel
theorem d_T_key_9 : decode cb_T_key 9 = .ok (.ifnonnull 11, 3) := by decide +kernel
theorem d_T_key_12 : decode cb_T_key 12 = .ok (.new 43, 3) := by decide +kernel
theorem d_T_key_15 : decode cb_T_key 15 = .ok (.dup, 1) := by decide +kernel
theorem d_T_key_16 : decode cb_T_key 16 = .ok (.invokespecial 45, 3) := by decide +kernel
theorem d_T_key_19 : decode cb_T_key 19 = .ok (.athrow, 1) := by decide +kernel
theorem d_T_key_20 : decode cb_T_key 20 = .ok (.iload_n 1, 1) := by decide +kernel
theorem d_T_key_21 : decode cb_T_key 21 = .ok (.ifCond .lt 19, 3) := by decide +kernel
theorem d_T_key_24 : decode cb_T_key 24 = .ok (.iload_n 1, 1) := by decide +kernel
theorem d_T_key_25 : decode cb_T_key 25 = .ok (.aload_n 2, 1) := by decide +kernel
theorem d_T_key_26 : decode cb_T_key 26 = .ok (.invokevirtual 92, 3) := by decide +kernel
theorem d_T_key_29 : decode cb_T_key 29 = .ok (.if_icmp .ge 11, 3) := by decide +kernel
theorem d_T_key_32 : decode cb_T_key 32 = .ok (.aload_n 2, 1) := by decide +kernel
theorem d_T_key_33 : decode cb_T_key 33 = .ok (.iload_n 1, 1) := by decide +kernel
theorem d_T_key_34 : decode cb_T_key 34 = .ok (.invokevirtual 97, 3) := by decide +kernel
theorem d_T_key_37 : decode cb_T_key 37 = .ok (.goto 4, 3) := by decide +kernel
theorem d_T_key_40 : decode cb_T_key 40 = .ok (.iconst (-1), 1) := by decide +kernel
theorem d_T_key_41 : decode cb_T_key 41 = .ok (.ireturn, 1) := by decide +kernel
