abbrev cb_N_init : ByteArray := prog_2_method_1_code
def y_N_init : MethodName := ⟨RZ2, "<init>", "(II)V"⟩
abbrev cb_N_isTable : ByteArray := prog_2_method_3_code
def y_N_isTable : MethodName := ⟨RZ2, "isTable", "()Z"⟩
abbrev cb_N_isList : ByteArray := prog_2_method_2_code
def y_N_isList : MethodName := ⟨RZ2, "isList", "()Z"⟩
abbrev cb_N_add : ByteArray := prog_2_method_4_code
def y_N_add : MethodName := ⟨RZ2, "add", "(LTableText$Node;)V"⟩
abbrev cb_N_inner : ByteArray := prog_2_method_5_code
def y_N_inner : MethodName := ⟨RZ2, "inner", "(I)LTableText$Node;"⟩
abbrev cb_S_init : ByteArray := prog_5_method_1_code
def y_S_init : MethodName := ⟨RZ3, "<init>", "(Ljava/lang/String;I)V"⟩
abbrev cb_P_init : ByteArray := prog_3_method_1_code
def y_P_init : MethodName := ⟨RZ5, "<init>", "()V"⟩
abbrev cb_T_init : ByteArray := prog_1_method_1_code
def y_T_init : MethodName := ⟨RZ1, "<init>", "()V"⟩
abbrev cb_R_skipBlanks : ByteArray := prog_4_method_29_code
def y_R_skipBlanks : MethodName := ⟨RZ4, "skipBlanks", "()V"⟩
abbrev cb_R_peek : ByteArray := prog_4_method_32_code
def y_R_peek : MethodName := ⟨RZ4, "peek", "()I"⟩
abbrev cb_R_saysNothing : ByteArray := prog_4_method_3_code
def y_R_saysNothing : MethodName := ⟨RZ4, "saysNothing", "(I)Z"⟩
abbrev cb_R_goesOnInString : ByteArray := prog_4_method_18_code
def y_R_goesOnInString : MethodName := ⟨RZ4, "goesOnInString", "(I)Z"⟩
abbrev cb_R_escaped : ByteArray := prog_4_method_19_code
def y_R_escaped : MethodName := ⟨RZ4, "escaped", "(I)C"⟩
abbrev cb_R_take : ByteArray := prog_4_method_33_code
def y_R_take : MethodName := ⟨RZ4, "take", "(I)Z"⟩
abbrev cb_R_wrong : ByteArray := prog_4_method_34_code
def y_R_wrong : MethodName := ⟨RZ4, "wrong", "(I)LTableText$Node;"⟩
abbrev cb_R_skipComment : ByteArray := prog_4_method_30_code
def y_R_skipComment : MethodName := ⟨RZ4, "skipComment", "()V"⟩
abbrev cb_R_skipBlanksLinesAndComments : ByteArray := prog_4_method_31_code
def y_R_skipBlanksLinesAndComments : MethodName := ⟨RZ4, "skipBlanksLinesAndComments", "()V"⟩
abbrev cb_R_digitAt : ByteArray := prog_4_method_28_code
def y_R_digitAt : MethodName := ⟨RZ4, "digitAt", "(II)I"⟩
abbrev cb_R_dateBegins : ByteArray := prog_4_method_24_code
def y_R_dateBegins : MethodName := ⟨RZ4, "dateBegins", "()Z"⟩
abbrev cb_R_readTwoDigits : ByteArray := prog_4_method_26_code
def y_R_readTwoDigits : MethodName := ⟨RZ4, "readTwoDigits", "(I)I"⟩
abbrev cb_R_readDigits : ByteArray := prog_4_method_23_code
def y_R_readDigits : MethodName := ⟨RZ4, "readDigits", "(II)I"⟩
abbrev cb_T_isBareLetter : ByteArray := prog_1_method_15_code
def y_T_isBareLetter : MethodName := ⟨RZ1, "isBareLetter", "(I)Z"⟩
abbrev cb_P_put : ByteArray := prog_3_method_13_code
def y_P_put : MethodName := ⟨RZ5, "put", "(C)V"⟩
abbrev cb_P_putDigits : ByteArray := prog_3_method_11_code
def y_P_putDigits : MethodName := ⟨RZ5, "putDigits", "(II)V"⟩
abbrev cb_P_putDate : ByteArray := prog_3_method_9_code
def y_P_putDate : MethodName := ⟨RZ5, "putDate", "(I)V"⟩
abbrev cb_P_putEnd : ByteArray := prog_3_method_6_code
def y_P_putEnd : MethodName := ⟨RZ5, "putEnd", "(LTableText$Node;)V"⟩
abbrev cb_P_isLine : ByteArray := prog_3_method_5_code
def y_P_isLine : MethodName := ⟨RZ5, "isLine", "(LTableText$Node;)Z"⟩
abbrev cb_T_top : ByteArray := prog_1_method_6_code
def y_T_top : MethodName := ⟨RZ1, "top", "()I"⟩
abbrev cb_T_kind : ByteArray := prog_1_method_9_code
def y_T_kind : MethodName := ⟨RZ1, "kind", "()I"⟩
abbrev cb_T_value : ByteArray := prog_1_method_10_code
def y_T_value : MethodName := ⟨RZ1, "value", "()I"⟩
theorem mO_N_3 : Cond.methodLink RZ2 3 objectInit ∈ wsA := List.mem_filter.mpr ⟨List.mem_of_getElem? (i := 154) (by decide +kernel), by decide +kernel⟩
theorem mF_N_9 : Cond.fieldLink RZ2 9 (cT 2 0).1 (cT 2 0).2.1 (cT 2 0).2.2.1 ∈ wsA := List.mem_filter.mpr ⟨List.mem_of_getElem? (i := 155) (by decide +kernel), by decide +kernel⟩
theorem mF_N_15 : Cond.fieldLink RZ2 15 (cT 2 1).1 (cT 2 1).2.1 (cT 2 1).2.2.1 ∈ wsA := List.mem_filter.mpr ⟨List.mem_of_getElem? (i := 159) (by decide +kernel), by decide +kernel⟩
theorem mF_N_18 : Cond.fieldLink RZ2 18 (cT 2 4).1 (cT 2 4).2.1 (cT 2 4).2.2.1 ∈ wsA := List.mem_filter.mpr ⟨List.mem_of_getElem? (i := 169) (by decide +kernel), by decide +kernel⟩
theorem mF_N_22 : Cond.fieldLink RZ2 22 (cT 2 6).1 (cT 2 6).2.1 (cT 2 6).2.2.1 ∈ wsA := List.mem_filter.mpr ⟨List.mem_of_getElem? (i := 174) (by decide +kernel), by decide +kernel⟩
theorem mF_N_25 : Cond.fieldLink RZ2 25 (cT 2 5).1 (cT 2 5).2.1 (cT 2 5).2.2.1 ∈ wsA := List.mem_filter.mpr ⟨List.mem_of_getElem? (i := 173) (by decide +kernel), by decide +kernel⟩
theorem mF_N_28 : Cond.fieldLink RZ2 28 (cT 2 7).1 (cT 2 7).2.1 (cT 2 7).2.2.1 ∈ wsA := List.mem_filter.mpr ⟨List.mem_of_getElem? (i := 177) (by decide +kernel), by decide +kernel⟩
theorem mO_S_1 : Cond.methodLink RZ3 1 objectInit ∈ wsA := List.mem_filter.mpr ⟨List.mem_of_getElem? (i := 726) (by decide +kernel), by decide +kernel⟩
theorem mF_S_7 : Cond.fieldLink RZ3 7 (cT 3 0).1 (cT 3 0).2.1 (cT 3 0).2.2.1 ∈ wsA := List.mem_filter.mpr ⟨List.mem_of_getElem? (i := 727) (by decide +kernel), by decide +kernel⟩
theorem mF_S_13 : Cond.fieldLink RZ3 13 (cT 3 1).1 (cT 3 1).2.1 (cT 3 1).2.2.1 ∈ wsA := List.mem_filter.mpr ⟨List.mem_of_getElem? (i := 729) (by decide +kernel), by decide +kernel⟩
theorem mO_P_3 : Cond.methodLink RZ5 3 objectInit ∈ wsA := List.mem_filter.mpr ⟨List.mem_of_getElem? (i := 138) (by decide +kernel), by decide +kernel⟩
theorem mF_P_9 : Cond.fieldLink RZ5 9 (cT 5 0).1 (cT 5 0).2.1 (cT 5 0).2.2.1 ∈ wsA := List.mem_filter.mpr ⟨List.mem_of_getElem? (i := 139) (by decide +kernel), by decide +kernel⟩
theorem mF_P_15 : Cond.fieldLink RZ5 15 (cT 5 1).1 (cT 5 1).2.1 (cT 5 1).2.2.1 ∈ wsA := List.mem_filter.mpr ⟨List.mem_of_getElem? (i := 141) (by decide +kernel), by decide +kernel⟩
theorem mO_T_3 : Cond.methodLink RZ1 3 objectInit ∈ wsA := List.mem_filter.mpr ⟨List.mem_of_getElem? (i := 130) (by decide +kernel), by decide +kernel⟩
theorem mF_T_9 : Cond.fieldLink RZ1 9 (cT 1 0).1 (cT 1 0).2.1 (cT 1 0).2.2.1 ∈ wsA := List.mem_filter.mpr ⟨List.mem_of_getElem? (i := 195) (by decide +kernel), by decide +kernel⟩
theorem mC_T_13 : Cond.classLink RZ1 13 (cC 5) ∈ wsA := List.mem_filter.mpr ⟨List.mem_of_getElem? (i := 133) (by decide +kernel), by decide +kernel⟩
theorem mI_5 : Cond.instantiable (cC 5) 2 ∈ wsA := List.mem_filter.mpr ⟨List.mem_of_getElem? (i := 134) (by decide +kernel), by decide +kernel⟩
theorem mN_5 : Cond.initialized (cC 5) ∈ wsA := List.mem_filter.mpr ⟨List.mem_of_getElem? (i := 97) (by decide +kernel), by decide +kernel⟩
theorem mF_T_16 : Cond.fieldLink RZ1 16 (cT 1 1).1 (cT 1 1).2.1 (cT 1 1).2.2.1 ∈ wsA := List.mem_filter.mpr ⟨List.mem_of_getElem? (i := 196) (by decide +kernel), by decide +kernel⟩
theorem mF_T_20 : Cond.fieldLink RZ1 20 (cT 1 2).1 (cT 1 2).2.1 (cT 1 2).2.2.1 ∈ wsA := List.mem_filter.mpr ⟨List.mem_of_getElem? (i := 197) (by decide +kernel), by decide +kernel⟩
theorem mC_T_24 : Cond.classLink RZ1 24 (cC 2) ∈ wsA := List.mem_filter.mpr ⟨List.mem_of_getElem? (i := 149) (by decide +kernel), by decide +kernel⟩
theorem mI_2 : Cond.instantiable (cC 2) 8 ∈ wsA := List.mem_filter.mpr ⟨List.mem_of_getElem? (i := 150) (by decide +kernel), by decide +kernel⟩
theorem mN_2 : Cond.initialized (cC 2) ∈ wsA := List.mem_filter.mpr ⟨List.mem_of_getElem? (i := 98) (by decide +kernel), by decide +kernel⟩
theorem mF_T_29 : Cond.fieldLink RZ1 29 (cT 1 3).1 (cT 1 3).2.1 (cT 1 3).2.2.1 ∈ wsA := List.mem_filter.mpr ⟨List.mem_of_getElem? (i := 198) (by decide +kernel), by decide +kernel⟩
theorem mF_T_33 : Cond.fieldLink RZ1 33 (cT 1 4).1 (cT 1 4).2.1 (cT 1 4).2.2.1 ∈ wsA := List.mem_filter.mpr ⟨List.mem_of_getElem? (i := 199) (by decide +kernel), by decide +kernel⟩
theorem kw_T_15 : kWN RZ1 15 "TableText" y_P_init (.code y_P_init cb_P_init 1 none) 0 ∧ y_P_init.name = "<init>" ∧ Cond.instanceMethod y_P_init ∈ wsA := ⟨⟨List.mem_filter.mpr ⟨List.mem_of_getElem? (i := 137) (by decide +kernel), by decide +kernel⟩, List.mem_filter.mpr ⟨List.mem_of_getElem? (i := 40) (by decide +kernel), by decide +kernel⟩, List.mem_filter.mpr ⟨List.mem_of_getElem? (i := 97) (by decide +kernel), by decide +kernel⟩, by decide, by decide, by decide +kernel⟩, rfl, List.mem_filter.mpr ⟨List.mem_of_getElem? (i := 136) (by decide +kernel), by decide +kernel⟩⟩
theorem kw_T_26 : kWN RZ1 26 "TableText" y_N_init (.code y_N_init cb_N_init 3 none) 2 ∧ y_N_init.name = "<init>" ∧ Cond.instanceMethod y_N_init ∈ wsA := ⟨⟨List.mem_filter.mpr ⟨List.mem_of_getElem? (i := 153) (by decide +kernel), by decide +kernel⟩, List.mem_filter.mpr ⟨List.mem_of_getElem? (i := 56) (by decide +kernel), by decide +kernel⟩, List.mem_filter.mpr ⟨List.mem_of_getElem? (i := 98) (by decide +kernel), by decide +kernel⟩, by decide, by decide, by decide +kernel⟩, rfl, List.mem_filter.mpr ⟨List.mem_of_getElem? (i := 152) (by decide +kernel), by decide +kernel⟩⟩
theorem mF_R_45 : Cond.fieldLink RZ4 45 (cT 4 6).1 (cT 4 6).2.1 (cT 4 6).2.2.1 ∈ wsA := List.mem_filter.mpr ⟨List.mem_of_getElem? (i := 288) (by decide +kernel), by decide +kernel⟩
theorem mF_R_15 : Cond.fieldLink RZ4 15 (cT 4 1).1 (cT 4 1).2.1 (cT 4 1).2.2.1 ∈ wsA := List.mem_filter.mpr ⟨List.mem_of_getElem? (i := 283) (by decide +kernel), by decide +kernel⟩
theorem mF_R_9 : Cond.fieldLink RZ4 9 (cT 4 0).1 (cT 4 0).2.1 (cT 4 0).2.2.1 ∈ wsA := List.mem_filter.mpr ⟨List.mem_of_getElem? (i := 282) (by decide +kernel), by decide +kernel⟩
theorem mF_R_48 : Cond.fieldLink RZ4 48 (cT 4 7).1 (cT 4 7).2.1 (cT 4 7).2.2.1 ∈ wsA := List.mem_filter.mpr ⟨List.mem_of_getElem? (i := 289) (by decide +kernel), by decide +kernel⟩
theorem kw_R_54 : kW RZ4 54 (cC 4) y_R_peek (.code y_R_peek cb_R_peek 1 (some .int)) 0 := ⟨gV (List.mem_filter.mpr ⟨List.mem_of_getElem? (i := 316) (by decide +kernel), by decide +kernel⟩) (List.mem_filter.mpr ⟨List.mem_of_getElem? (i := 318) (by decide +kernel), by decide +kernel⟩) (List.mem_filter.mpr ⟨List.mem_of_getElem? (i := 2) (by decide +kernel), by decide +kernel⟩) (List.mem_filter.mpr ⟨List.mem_of_getElem? (i := 105) (by decide +kernel), by decide +kernel⟩) (List.mem_filter.mpr ⟨List.mem_of_getElem? (i := 319) (by decide +kernel), by decide +kernel⟩), rfl, by decide, by decide, by decide +kernel⟩
theorem kw_R_226 : kW RZ4 226 (cC 4) y_R_digitAt (.code y_R_digitAt cb_R_digitAt 4 (some .int)) 2 := ⟨gV (List.mem_filter.mpr ⟨List.mem_of_getElem? (i := 903) (by decide +kernel), by decide +kernel⟩) (List.mem_filter.mpr ⟨List.mem_of_getElem? (i := 905) (by decide +kernel), by decide +kernel⟩) (List.mem_filter.mpr ⟨List.mem_of_getElem? (i := 32) (by decide +kernel), by decide +kernel⟩) (List.mem_filter.mpr ⟨List.mem_of_getElem? (i := 105) (by decide +kernel), by decide +kernel⟩) (List.mem_filter.mpr ⟨List.mem_of_getElem? (i := 906) (by decide +kernel), by decide +kernel⟩), rfl, by decide, by decide, by decide +kernel⟩
theorem kw_R_105 : kW RZ4 105 (cC 4) y_R_wrong (.code y_R_wrong cb_R_wrong 2 (some (.object "TableText$Node"))) 1 := ⟨gV (List.mem_filter.mpr ⟨List.mem_of_getElem? (i := 717) (by decide +kernel), by decide +kernel⟩) (List.mem_filter.mpr ⟨List.mem_of_getElem? (i := 719) (by decide +kernel), by decide +kernel⟩) (List.mem_filter.mpr ⟨List.mem_of_getElem? (i := 10) (by decide +kernel), by decide +kernel⟩) (List.mem_filter.mpr ⟨List.mem_of_getElem? (i := 105) (by decide +kernel), by decide +kernel⟩) (List.mem_filter.mpr ⟨List.mem_of_getElem? (i := 720) (by decide +kernel), by decide +kernel⟩), rfl, by decide, by decide, by decide +kernel⟩
theorem kw_P_50 : kW RZ5 50 (cC 5) y_P_put (.code y_P_put cb_P_put 2 none) 1 := ⟨gV (List.mem_filter.mpr ⟨List.mem_of_getElem? (i := 959) (by decide +kernel), by decide +kernel⟩) (List.mem_filter.mpr ⟨List.mem_of_getElem? (i := 961) (by decide +kernel), by decide +kernel⟩) (List.mem_filter.mpr ⟨List.mem_of_getElem? (i := 42) (by decide +kernel), by decide +kernel⟩) (List.mem_filter.mpr ⟨List.mem_of_getElem? (i := 97) (by decide +kernel), by decide +kernel⟩) (List.mem_filter.mpr ⟨List.mem_of_getElem? (i := 962) (by decide +kernel), by decide +kernel⟩), rfl, by decide, by decide, by decide +kernel⟩
theorem kw_P_118 : kW RZ5 118 (cC 5) y_P_putDigits (.code y_P_putDigits cb_P_putDigits 5 none) 2 := ⟨gV (List.mem_filter.mpr ⟨List.mem_of_getElem? (i := 981) (by decide +kernel), by decide +kernel⟩) (List.mem_filter.mpr ⟨List.mem_of_getElem? (i := 983) (by decide +kernel), by decide +kernel⟩) (List.mem_filter.mpr ⟨List.mem_of_getElem? (i := 46) (by decide +kernel), by decide +kernel⟩) (List.mem_filter.mpr ⟨List.mem_of_getElem? (i := 97) (by decide +kernel), by decide +kernel⟩) (List.mem_filter.mpr ⟨List.mem_of_getElem? (i := 984) (by decide +kernel), by decide +kernel⟩), rfl, by decide, by decide, by decide +kernel⟩
theorem kw_P_46 : kWN RZ5 46 "TableText" y_N_isTable (.code y_N_isTable cb_N_isTable 1 (some .boolean)) 0 ∧ Cond.instanceMethod y_N_isTable ∈ wsA ∧ Cond.selects (cC 2) y_N_isTable y_N_isTable ∈ wsA := ⟨⟨List.mem_filter.mpr ⟨List.mem_of_getElem? (i := 772) (by decide +kernel), by decide +kernel⟩, List.mem_filter.mpr ⟨List.mem_of_getElem? (i := 875) (by decide +kernel), by decide +kernel⟩, List.mem_filter.mpr ⟨List.mem_of_getElem? (i := 98) (by decide +kernel), by decide +kernel⟩, by decide, by decide, by decide +kernel⟩, List.mem_filter.mpr ⟨List.mem_of_getElem? (i := 771) (by decide +kernel), by decide +kernel⟩, List.mem_filter.mpr ⟨List.mem_of_getElem? (i := 16) (by decide +kernel), by decide +kernel⟩⟩
theorem kw_P_54 : kWN RZ5 54 "TableText" y_N_isList (.code y_N_isList cb_N_isList 1 (some .boolean)) 0 ∧ Cond.instanceMethod y_N_isList ∈ wsA ∧ Cond.selects (cC 2) y_N_isList y_N_isList ∈ wsA := ⟨⟨List.mem_filter.mpr ⟨List.mem_of_getElem? (i := 974) (by decide +kernel), by decide +kernel⟩, List.mem_filter.mpr ⟨List.mem_of_getElem? (i := 876) (by decide +kernel), by decide +kernel⟩, List.mem_filter.mpr ⟨List.mem_of_getElem? (i := 98) (by decide +kernel), by decide +kernel⟩, by decide, by decide, by decide +kernel⟩, List.mem_filter.mpr ⟨List.mem_of_getElem? (i := 973) (by decide +kernel), by decide +kernel⟩, List.mem_filter.mpr ⟨List.mem_of_getElem? (i := 44) (by decide +kernel), by decide +kernel⟩⟩
theorem nF_P_90 : Cond.fieldLinkNest RZ5 90 (cT 2 4).1 (cT 2 4).2.1 (cT 2 4).2.2.1 "TableText" ∈ nwA := List.mem_filter.mpr ⟨List.mem_of_getElem? (i := 75) (by decide +kernel), by decide +kernel⟩
theorem nF_T_75 : Cond.fieldLinkNest RZ1 75 (cT 2 1).1 (cT 2 1).2.1 (cT 2 1).2.2.1 "TableText" ∈ nwA := List.mem_filter.mpr ⟨List.mem_of_getElem? (i := 66) (by decide +kernel), by decide +kernel⟩
theorem nF_T_82 : Cond.fieldLinkNest RZ1 82 (cT 2 0).1 (cT 2 0).2.1 (cT 2 0).2.2.1 "TableText" ∈ nwA := List.mem_filter.mpr ⟨List.mem_of_getElem? (i := 63) (by decide +kernel), by decide +kernel⟩
theorem d_N_init_0 : decode cb_N_init 0 = .ok (.aload_n 0, 1) := by decide +kernel
theorem d_N_init_1 : decode cb_N_init 1 = .ok (.invokespecial 3, 3) := by decide +kernel
theorem d_N_init_4 : decode cb_N_init 4 = .ok (.aload_n 0, 1) := by decide +kernel
theorem d_N_init_5 : decode cb_N_init 5 = .ok (.iload_n 1, 1) := by decide +kernel
theorem d_N_init_6 : decode cb_N_init 6 = .ok (.putfield 9, 3) := by decide +kernel
theorem d_N_init_9 : decode cb_N_init 9 = .ok (.aload_n 0, 1) := by decide +kernel
theorem d_N_init_10 : decode cb_N_init 10 = .ok (.iload_n 2, 1) := by decide +kernel
theorem d_N_init_11 : decode cb_N_init 11 = .ok (.putfield 15, 3) := by decide +kernel
theorem d_N_init_14 : decode cb_N_init 14 = .ok (.return_, 1) := by decide +kernel
theorem d_N_isTable_0 : decode cb_N_isTable 0 = .ok (.aload_n 0, 1) := by decide +kernel
theorem d_N_isTable_1 : decode cb_N_isTable 1 = .ok (.getfield 9, 3) := by decide +kernel
theorem d_N_isTable_4 : decode cb_N_isTable 4 = .ok (.bipush 7, 2) := by decide +kernel
theorem d_N_isTable_6 : decode cb_N_isTable 6 = .ok (.if_icmp .lt 7, 3) := by decide +kernel
theorem d_N_isTable_9 : decode cb_N_isTable 9 = .ok (.iconst 1, 1) := by decide +kernel
theorem d_N_isTable_10 : decode cb_N_isTable 10 = .ok (.goto 4, 3) := by decide +kernel
theorem d_N_isTable_13 : decode cb_N_isTable 13 = .ok (.iconst 0, 1) := by decide +kernel
theorem d_N_isTable_14 : decode cb_N_isTable 14 = .ok (.ireturn, 1) := by decide +kernel
theorem d_N_isList_0 : decode cb_N_isList 0 = .ok (.aload_n 0, 1) := by decide +kernel
theorem d_N_isList_1 : decode cb_N_isList 1 = .ok (.getfield 9, 3) := by decide +kernel
theorem d_N_isList_4 : decode cb_N_isList 4 = .ok (.iconst 5, 1) := by decide +kernel
theorem d_N_isList_5 : decode cb_N_isList 5 = .ok (.if_icmp .eq 12, 3) := by decide +kernel
theorem d_N_isList_8 : decode cb_N_isList 8 = .ok (.aload_n 0, 1) := by decide +kernel
theorem d_N_isList_9 : decode cb_N_isList 9 = .ok (.getfield 9, 3) := by decide +kernel
theorem d_N_isList_12 : decode cb_N_isList 12 = .ok (.bipush 6, 2) := by decide +kernel
theorem d_N_isList_14 : decode cb_N_isList 14 = .ok (.if_icmp .ne 7, 3) := by decide +kernel
theorem d_N_isList_17 : decode cb_N_isList 17 = .ok (.iconst 1, 1) := by decide +kernel
theorem d_N_isList_18 : decode cb_N_isList 18 = .ok (.goto 4, 3) := by decide +kernel
theorem d_N_isList_21 : decode cb_N_isList 21 = .ok (.iconst 0, 1) := by decide +kernel
theorem d_N_isList_22 : decode cb_N_isList 22 = .ok (.ireturn, 1) := by decide +kernel
theorem d_N_add_0 : decode cb_N_add 0 = .ok (.aload_n 1, 1) := by decide +kernel
theorem d_N_add_1 : decode cb_N_add 1 = .ok (.aload_n 0, 1) := by decide +kernel
theorem d_N_add_2 : decode cb_N_add 2 = .ok (.putfield 18, 3) := by decide +kernel
theorem d_N_add_5 : decode cb_N_add 5 = .ok (.aload_n 0, 1) := by decide +kernel
theorem d_N_add_6 : decode cb_N_add 6 = .ok (.getfield 22, 3) := by decide +kernel
theorem d_N_add_9 : decode cb_N_add 9 = .ok (.ifnonnull 11, 3) := by decide +kernel
theorem d_N_add_12 : decode cb_N_add 12 = .ok (.aload_n 0, 1) := by decide +kernel
theorem d_N_add_13 : decode cb_N_add 13 = .ok (.aload_n 1, 1) := by decide +kernel
theorem d_N_add_14 : decode cb_N_add 14 = .ok (.putfield 25, 3) := by decide +kernel
theorem d_N_add_17 : decode cb_N_add 17 = .ok (.goto 11, 3) := by decide +kernel
theorem d_N_add_20 : decode cb_N_add 20 = .ok (.aload_n 0, 1) := by decide +kernel
theorem d_N_add_21 : decode cb_N_add 21 = .ok (.getfield 22, 3) := by decide +kernel
theorem d_N_add_24 : decode cb_N_add 24 = .ok (.aload_n 1, 1) := by decide +kernel
theorem d_N_add_25 : decode cb_N_add 25 = .ok (.putfield 28, 3) := by decide +kernel
theorem d_N_add_28 : decode cb_N_add 28 = .ok (.aload_n 0, 1) := by decide +kernel
theorem d_N_add_29 : decode cb_N_add 29 = .ok (.aload_n 1, 1) := by decide +kernel
theorem d_N_add_30 : decode cb_N_add 30 = .ok (.putfield 22, 3) := by decide +kernel
theorem d_N_add_33 : decode cb_N_add 33 = .ok (.aload_n 0, 1) := by decide +kernel
theorem d_N_add_34 : decode cb_N_add 34 = .ok (.dup, 1) := by decide +kernel
theorem d_N_add_35 : decode cb_N_add 35 = .ok (.getfield 15, 3) := by decide +kernel
theorem d_N_add_38 : decode cb_N_add 38 = .ok (.iconst 1, 1) := by decide +kernel
theorem d_N_add_39 : decode cb_N_add 39 = .ok (.iadd, 1) := by decide +kernel
theorem d_N_add_40 : decode cb_N_add 40 = .ok (.putfield 15, 3) := by decide +kernel
theorem d_N_add_43 : decode cb_N_add 43 = .ok (.return_, 1) := by decide +kernel
theorem d_N_inner_0 : decode cb_N_inner 0 = .ok (.iload_n 1, 1) := by decide +kernel
theorem d_N_inner_1 : decode cb_N_inner 1 = .ok (.ifCond .ge 5, 3) := by decide +kernel
theorem d_N_inner_4 : decode cb_N_inner 4 = .ok (.aconst_null, 1) := by decide +kernel
theorem d_N_inner_5 : decode cb_N_inner 5 = .ok (.areturn, 1) := by decide +kernel
theorem d_N_inner_6 : decode cb_N_inner 6 = .ok (.aload_n 0, 1) := by decide +kernel
theorem d_N_inner_7 : decode cb_N_inner 7 = .ok (.getfield 25, 3) := by decide +kernel
theorem d_N_inner_10 : decode cb_N_inner 10 = .ok (.astore_n 2, 1) := by decide +kernel
theorem d_N_inner_11 : decode cb_N_inner 11 = .ok (.iconst 0, 1) := by decide +kernel
theorem d_N_inner_12 : decode cb_N_inner 12 = .ok (.istore_n 3, 1) := by decide +kernel
theorem d_N_inner_13 : decode cb_N_inner 13 = .ok (.iload_n 3, 1) := by decide +kernel
theorem d_N_inner_14 : decode cb_N_inner 14 = .ok (.iload_n 1, 1) := by decide +kernel
theorem d_N_inner_15 : decode cb_N_inner 15 = .ok (.if_icmp .ge 18, 3) := by decide +kernel
theorem d_N_inner_18 : decode cb_N_inner 18 = .ok (.aload_n 2, 1) := by decide +kernel
theorem d_N_inner_19 : decode cb_N_inner 19 = .ok (.ifnull 14, 3) := by decide +kernel
theorem d_N_inner_22 : decode cb_N_inner 22 = .ok (.aload_n 2, 1) := by decide +kernel
theorem d_N_inner_23 : decode cb_N_inner 23 = .ok (.getfield 28, 3) := by decide +kernel
theorem d_N_inner_26 : decode cb_N_inner 26 = .ok (.astore_n 2, 1) := by decide +kernel
theorem d_N_inner_27 : decode cb_N_inner 27 = .ok (.iinc 3 1, 3) := by decide +kernel
theorem d_N_inner_30 : decode cb_N_inner 30 = .ok (.goto (-17), 3) := by decide +kernel
theorem d_N_inner_33 : decode cb_N_inner 33 = .ok (.aload_n 2, 1) := by decide +kernel
theorem d_N_inner_34 : decode cb_N_inner 34 = .ok (.areturn, 1) := by decide +kernel
theorem d_S_init_0 : decode cb_S_init 0 = .ok (.aload_n 0, 1) := by decide +kernel
theorem d_S_init_1 : decode cb_S_init 1 = .ok (.invokespecial 1, 3) := by decide +kernel
theorem d_S_init_4 : decode cb_S_init 4 = .ok (.aload_n 0, 1) := by decide +kernel
theorem d_S_init_5 : decode cb_S_init 5 = .ok (.aload_n 1, 1) := by decide +kernel
theorem d_S_init_6 : decode cb_S_init 6 = .ok (.putfield 7, 3) := by decide +kernel
theorem d_S_init_9 : decode cb_S_init 9 = .ok (.aload_n 0, 1) := by decide +kernel
theorem d_S_init_10 : decode cb_S_init 10 = .ok (.iload_n 2, 1) := by decide +kernel
theorem d_S_init_11 : decode cb_S_init 11 = .ok (.putfield 13, 3) := by decide +kernel
theorem d_S_init_14 : decode cb_S_init 14 = .ok (.return_, 1) := by decide +kernel
theorem d_P_init_0 : decode cb_P_init 0 = .ok (.aload_n 0, 1) := by decide +kernel
theorem d_P_init_1 : decode cb_P_init 1 = .ok (.invokespecial 3, 3) := by decide +kernel
theorem d_P_init_4 : decode cb_P_init 4 = .ok (.aload_n 0, 1) := by decide +kernel
theorem d_P_init_5 : decode cb_P_init 5 = .ok (.sipush 600, 3) := by decide +kernel
theorem d_P_init_8 : decode cb_P_init 8 = .ok (.newarray .char, 2) := by decide +kernel
theorem d_P_init_10 : decode cb_P_init 10 = .ok (.putfield 9, 3) := by decide +kernel
theorem d_P_init_13 : decode cb_P_init 13 = .ok (.aload_n 0, 1) := by decide +kernel
theorem d_P_init_14 : decode cb_P_init 14 = .ok (.iconst 0, 1) := by decide +kernel
theorem d_P_init_15 : decode cb_P_init 15 = .ok (.putfield 15, 3) := by decide +kernel
theorem d_P_init_18 : decode cb_P_init 18 = .ok (.return_, 1) := by decide +kernel
theorem d_T_init_0 : decode cb_T_init 0 = .ok (.aload_n 0, 1) := by decide +kernel
theorem d_T_init_1 : decode cb_T_init 1 = .ok (.invokespecial 3, 3) := by decide +kernel
theorem d_T_init_4 : decode cb_T_init 4 = .ok (.aload_n 0, 1) := by decide +kernel
theorem d_T_init_5 : decode cb_T_init 5 = .ok (.sipush 240, 3) := by decide +kernel
theorem d_T_init_8 : decode cb_T_init 8 = .ok (.newarray .char, 2) := by decide +kernel
theorem d_T_init_10 : decode cb_T_init 10 = .ok (.putfield 9, 3) := by decide +kernel
theorem d_T_init_13 : decode cb_T_init 13 = .ok (.aload_n 0, 1) := by decide +kernel
theorem d_T_init_14 : decode cb_T_init 14 = .ok (.new 13, 3) := by decide +kernel
theorem d_T_init_17 : decode cb_T_init 17 = .ok (.dup, 1) := by decide +kernel
theorem d_T_init_18 : decode cb_T_init 18 = .ok (.invokespecial 15, 3) := by decide +kernel
theorem d_T_init_21 : decode cb_T_init 21 = .ok (.putfield 16, 3) := by decide +kernel
theorem d_T_init_24 : decode cb_T_init 24 = .ok (.aload_n 0, 1) := by decide +kernel
theorem d_T_init_25 : decode cb_T_init 25 = .ok (.iconst 0, 1) := by decide +kernel
theorem d_T_init_26 : decode cb_T_init 26 = .ok (.putfield 20, 3) := by decide +kernel
theorem d_T_init_29 : decode cb_T_init 29 = .ok (.aload_n 0, 1) := by decide +kernel
theorem d_T_init_30 : decode cb_T_init 30 = .ok (.new 24, 3) := by decide +kernel
theorem d_T_init_33 : decode cb_T_init 33 = .ok (.dup, 1) := by decide +kernel
theorem d_T_init_34 : decode cb_T_init 34 = .ok (.bipush 7, 2) := by decide +kernel
theorem d_T_init_36 : decode cb_T_init 36 = .ok (.iconst 0, 1) := by decide +kernel
theorem d_T_init_37 : decode cb_T_init 37 = .ok (.invokespecial 26, 3) := by decide +kernel
theorem d_T_init_40 : decode cb_T_init 40 = .ok (.putfield 29, 3) := by decide +kernel
theorem d_T_init_43 : decode cb_T_init 43 = .ok (.aload_n 0, 1) := by decide +kernel
theorem d_T_init_44 : decode cb_T_init 44 = .ok (.aload_n 0, 1) := by decide +kernel
theorem d_T_init_45 : decode cb_T_init 45 = .ok (.getfield 29, 3) := by decide +kernel
theorem d_T_init_48 : decode cb_T_init 48 = .ok (.putfield 33, 3) := by decide +kernel
theorem d_T_init_51 : decode cb_T_init 51 = .ok (.return_, 1) := by decide +kernel
theorem d_R_skipBlanks_0 : decode cb_R_skipBlanks 0 = .ok (.aload_n 0, 1) := by decide +kernel
theorem d_R_skipBlanks_1 : decode cb_R_skipBlanks 1 = .ok (.getfield 45, 3) := by decide +kernel
theorem d_R_skipBlanks_4 : decode cb_R_skipBlanks 4 = .ok (.aload_n 0, 1) := by decide +kernel
theorem d_R_skipBlanks_5 : decode cb_R_skipBlanks 5 = .ok (.getfield 15, 3) := by decide +kernel
theorem d_R_skipBlanks_8 : decode cb_R_skipBlanks 8 = .ok (.if_icmp .ge 30, 3) := by decide +kernel
theorem d_R_skipBlanks_11 : decode cb_R_skipBlanks 11 = .ok (.aload_n 0, 1) := by decide +kernel
theorem d_R_skipBlanks_12 : decode cb_R_skipBlanks 12 = .ok (.getfield 9, 3) := by decide +kernel
theorem d_R_skipBlanks_15 : decode cb_R_skipBlanks 15 = .ok (.aload_n 0, 1) := by decide +kernel
theorem d_R_skipBlanks_16 : decode cb_R_skipBlanks 16 = .ok (.getfield 45, 3) := by decide +kernel
theorem d_R_skipBlanks_19 : decode cb_R_skipBlanks 19 = .ok (.caload, 1) := by decide +kernel
theorem d_R_skipBlanks_20 : decode cb_R_skipBlanks 20 = .ok (.bipush 32, 2) := by decide +kernel
theorem d_R_skipBlanks_22 : decode cb_R_skipBlanks 22 = .ok (.if_icmp .ne 16, 3) := by decide +kernel
theorem d_R_skipBlanks_25 : decode cb_R_skipBlanks 25 = .ok (.aload_n 0, 1) := by decide +kernel
theorem d_R_skipBlanks_26 : decode cb_R_skipBlanks 26 = .ok (.dup, 1) := by decide +kernel
theorem d_R_skipBlanks_27 : decode cb_R_skipBlanks 27 = .ok (.getfield 45, 3) := by decide +kernel
theorem d_R_skipBlanks_30 : decode cb_R_skipBlanks 30 = .ok (.iconst 1, 1) := by decide +kernel
theorem d_R_skipBlanks_31 : decode cb_R_skipBlanks 31 = .ok (.iadd, 1) := by decide +kernel
theorem d_R_skipBlanks_32 : decode cb_R_skipBlanks 32 = .ok (.putfield 45, 3) := by decide +kernel
theorem d_R_skipBlanks_35 : decode cb_R_skipBlanks 35 = .ok (.goto (-35), 3) := by decide +kernel
theorem d_R_skipBlanks_38 : decode cb_R_skipBlanks 38 = .ok (.return_, 1) := by decide +kernel
theorem d_R_peek_0 : decode cb_R_peek 0 = .ok (.aload_n 0, 1) := by decide +kernel
theorem d_R_peek_1 : decode cb_R_peek 1 = .ok (.getfield 45, 3) := by decide +kernel
theorem d_R_peek_4 : decode cb_R_peek 4 = .ok (.aload_n 0, 1) := by decide +kernel
theorem d_R_peek_5 : decode cb_R_peek 5 = .ok (.getfield 15, 3) := by decide +kernel
theorem d_R_peek_8 : decode cb_R_peek 8 = .ok (.if_icmp .ge 15, 3) := by decide +kernel
theorem d_R_peek_11 : decode cb_R_peek 11 = .ok (.aload_n 0, 1) := by decide +kernel
theorem d_R_peek_12 : decode cb_R_peek 12 = .ok (.getfield 9, 3) := by decide +kernel
theorem d_R_peek_15 : decode cb_R_peek 15 = .ok (.aload_n 0, 1) := by decide +kernel
theorem d_R_peek_16 : decode cb_R_peek 16 = .ok (.getfield 45, 3) := by decide +kernel
theorem d_R_peek_19 : decode cb_R_peek 19 = .ok (.caload, 1) := by decide +kernel
theorem d_R_peek_20 : decode cb_R_peek 20 = .ok (.goto 4, 3) := by decide +kernel
theorem d_R_peek_23 : decode cb_R_peek 23 = .ok (.iconst (-1), 1) := by decide +kernel
theorem d_R_peek_24 : decode cb_R_peek 24 = .ok (.ireturn, 1) := by decide +kernel
theorem d_R_saysNothing_0 : decode cb_R_saysNothing 0 = .ok (.iload_n 0, 1) := by decide +kernel
theorem d_R_saysNothing_1 : decode cb_R_saysNothing 1 = .ok (.iconst (-1), 1) := by decide +kernel
theorem d_R_saysNothing_2 : decode cb_R_saysNothing 2 = .ok (.if_icmp .eq 15, 3) := by decide +kernel
theorem d_R_saysNothing_5 : decode cb_R_saysNothing 5 = .ok (.iload_n 0, 1) := by decide +kernel
theorem d_R_saysNothing_6 : decode cb_R_saysNothing 6 = .ok (.bipush 10, 2) := by decide +kernel
theorem d_R_saysNothing_8 : decode cb_R_saysNothing 8 = .ok (.if_icmp .eq 9, 3) := by decide +kernel
theorem d_R_saysNothing_11 : decode cb_R_saysNothing 11 = .ok (.iload_n 0, 1) := by decide +kernel
theorem d_R_saysNothing_12 : decode cb_R_saysNothing 12 = .ok (.bipush 35, 2) := by decide +kernel
theorem d_R_saysNothing_14 : decode cb_R_saysNothing 14 = .ok (.if_icmp .ne 7, 3) := by decide +kernel
theorem d_R_saysNothing_17 : decode cb_R_saysNothing 17 = .ok (.iconst 1, 1) := by decide +kernel
theorem d_R_saysNothing_18 : decode cb_R_saysNothing 18 = .ok (.goto 4, 3) := by decide +kernel
theorem d_R_saysNothing_21 : decode cb_R_saysNothing 21 = .ok (.iconst 0, 1) := by decide +kernel
theorem d_R_saysNothing_22 : decode cb_R_saysNothing 22 = .ok (.ireturn, 1) := by decide +kernel
theorem d_R_goesOnInString_0 : decode cb_R_goesOnInString 0 = .ok (.aload_n 0, 1) := by decide +kernel
theorem d_R_goesOnInString_1 : decode cb_R_goesOnInString 1 = .ok (.getfield 45, 3) := by decide +kernel
theorem d_R_goesOnInString_4 : decode cb_R_goesOnInString 4 = .ok (.aload_n 0, 1) := by decide +kernel
theorem d_R_goesOnInString_5 : decode cb_R_goesOnInString 5 = .ok (.getfield 15, 3) := by decide +kernel
theorem d_R_goesOnInString_8 : decode cb_R_goesOnInString 8 = .ok (.if_icmp .ge 34, 3) := by decide +kernel
theorem d_R_goesOnInString_11 : decode cb_R_goesOnInString 11 = .ok (.aload_n 0, 1) := by decide +kernel
theorem d_R_goesOnInString_12 : decode cb_R_goesOnInString 12 = .ok (.getfield 9, 3) := by decide +kernel
theorem d_R_goesOnInString_15 : decode cb_R_goesOnInString 15 = .ok (.aload_n 0, 1) := by decide +kernel
theorem d_R_goesOnInString_16 : decode cb_R_goesOnInString 16 = .ok (.getfield 45, 3) := by decide +kernel
theorem d_R_goesOnInString_19 : decode cb_R_goesOnInString 19 = .ok (.caload, 1) := by decide +kernel
theorem d_R_goesOnInString_20 : decode cb_R_goesOnInString 20 = .ok (.iload_n 1, 1) := by decide +kernel
theorem d_R_goesOnInString_21 : decode cb_R_goesOnInString 21 = .ok (.if_icmp .eq 21, 3) := by decide +kernel
theorem d_R_goesOnInString_24 : decode cb_R_goesOnInString 24 = .ok (.aload_n 0, 1) := by decide +kernel
theorem d_R_goesOnInString_25 : decode cb_R_goesOnInString 25 = .ok (.getfield 9, 3) := by decide +kernel
theorem d_R_goesOnInString_28 : decode cb_R_goesOnInString 28 = .ok (.aload_n 0, 1) := by decide +kernel
theorem d_R_goesOnInString_29 : decode cb_R_goesOnInString 29 = .ok (.getfield 45, 3) := by decide +kernel
theorem d_R_goesOnInString_32 : decode cb_R_goesOnInString 32 = .ok (.caload, 1) := by decide +kernel
theorem d_R_goesOnInString_33 : decode cb_R_goesOnInString 33 = .ok (.bipush 10, 2) := by decide +kernel
theorem d_R_goesOnInString_35 : decode cb_R_goesOnInString 35 = .ok (.if_icmp .eq 7, 3) := by decide +kernel
theorem d_R_goesOnInString_38 : decode cb_R_goesOnInString 38 = .ok (.iconst 1, 1) := by decide +kernel
theorem d_R_goesOnInString_39 : decode cb_R_goesOnInString 39 = .ok (.goto 4, 3) := by decide +kernel
theorem d_R_goesOnInString_42 : decode cb_R_goesOnInString 42 = .ok (.iconst 0, 1) := by decide +kernel
theorem d_R_goesOnInString_43 : decode cb_R_goesOnInString 43 = .ok (.ireturn, 1) := by decide +kernel
theorem d_R_escaped_0 : decode cb_R_escaped 0 = .ok (.iload_n 0, 1) := by decide +kernel
theorem d_R_escaped_1 : decode cb_R_escaped 1 = .ok (.lookupswitch 55 #[(34, 43), (92, 46), (110, 49), (116, 52)], 43) := by decide +kernel
theorem d_R_escaped_44 : decode cb_R_escaped 44 = .ok (.bipush 34, 2) := by decide +kernel
theorem d_R_escaped_46 : decode cb_R_escaped 46 = .ok (.ireturn, 1) := by decide +kernel
theorem d_R_escaped_47 : decode cb_R_escaped 47 = .ok (.bipush 92, 2) := by decide +kernel
theorem d_R_escaped_49 : decode cb_R_escaped 49 = .ok (.ireturn, 1) := by decide +kernel
theorem d_R_escaped_50 : decode cb_R_escaped 50 = .ok (.bipush 10, 2) := by decide +kernel
theorem d_R_escaped_52 : decode cb_R_escaped 52 = .ok (.ireturn, 1) := by decide +kernel
theorem d_R_escaped_53 : decode cb_R_escaped 53 = .ok (.bipush 9, 2) := by decide +kernel
theorem d_R_escaped_55 : decode cb_R_escaped 55 = .ok (.ireturn, 1) := by decide +kernel
theorem d_R_escaped_56 : decode cb_R_escaped 56 = .ok (.iconst 0, 1) := by decide +kernel
theorem d_R_escaped_57 : decode cb_R_escaped 57 = .ok (.ireturn, 1) := by decide +kernel
theorem d_R_take_0 : decode cb_R_take 0 = .ok (.aload_n 0, 1) := by decide +kernel
theorem d_R_take_1 : decode cb_R_take 1 = .ok (.getfield 45, 3) := by decide +kernel
theorem d_R_take_4 : decode cb_R_take 4 = .ok (.aload_n 0, 1) := by decide +kernel
theorem d_R_take_5 : decode cb_R_take 5 = .ok (.getfield 15, 3) := by decide +kernel
theorem d_R_take_8 : decode cb_R_take 8 = .ok (.if_icmp .ge 16, 3) := by decide +kernel
theorem d_R_take_11 : decode cb_R_take 11 = .ok (.aload_n 0, 1) := by decide +kernel
theorem d_R_take_12 : decode cb_R_take 12 = .ok (.getfield 9, 3) := by decide +kernel
theorem d_R_take_15 : decode cb_R_take 15 = .ok (.aload_n 0, 1) := by decide +kernel
theorem d_R_take_16 : decode cb_R_take 16 = .ok (.getfield 45, 3) := by decide +kernel
theorem d_R_take_19 : decode cb_R_take 19 = .ok (.caload, 1) := by decide +kernel
theorem d_R_take_20 : decode cb_R_take 20 = .ok (.iload_n 1, 1) := by decide +kernel
theorem d_R_take_21 : decode cb_R_take 21 = .ok (.if_icmp .eq 13, 3) := by decide +kernel
theorem d_R_take_24 : decode cb_R_take 24 = .ok (.aload_n 0, 1) := by decide +kernel
theorem d_R_take_25 : decode cb_R_take 25 = .ok (.aload_n 0, 1) := by decide +kernel
theorem d_R_take_26 : decode cb_R_take 26 = .ok (.getfield 45, 3) := by decide +kernel
theorem d_R_take_29 : decode cb_R_take 29 = .ok (.putfield 48, 3) := by decide +kernel
theorem d_R_take_32 : decode cb_R_take 32 = .ok (.iconst 0, 1) := by decide +kernel
theorem d_R_take_33 : decode cb_R_take 33 = .ok (.ireturn, 1) := by decide +kernel
theorem d_R_take_34 : decode cb_R_take 34 = .ok (.aload_n 0, 1) := by decide +kernel
theorem d_R_take_35 : decode cb_R_take 35 = .ok (.dup, 1) := by decide +kernel
theorem d_R_take_36 : decode cb_R_take 36 = .ok (.getfield 45, 3) := by decide +kernel
theorem d_R_take_39 : decode cb_R_take 39 = .ok (.iconst 1, 1) := by decide +kernel
theorem d_R_take_40 : decode cb_R_take 40 = .ok (.iadd, 1) := by decide +kernel
theorem d_R_take_41 : decode cb_R_take 41 = .ok (.putfield 45, 3) := by decide +kernel
theorem d_R_take_44 : decode cb_R_take 44 = .ok (.iconst 1, 1) := by decide +kernel
theorem d_R_take_45 : decode cb_R_take 45 = .ok (.ireturn, 1) := by decide +kernel
theorem d_R_wrong_0 : decode cb_R_wrong 0 = .ok (.aload_n 0, 1) := by decide +kernel
theorem d_R_wrong_1 : decode cb_R_wrong 1 = .ok (.iload_n 1, 1) := by decide +kernel
theorem d_R_wrong_2 : decode cb_R_wrong 2 = .ok (.putfield 48, 3) := by decide +kernel
theorem d_R_wrong_5 : decode cb_R_wrong 5 = .ok (.aconst_null, 1) := by decide +kernel
theorem d_R_wrong_6 : decode cb_R_wrong 6 = .ok (.areturn, 1) := by decide +kernel
theorem d_R_skipComment_0 : decode cb_R_skipComment 0 = .ok (.aload_n 0, 1) := by decide +kernel
theorem d_R_skipComment_1 : decode cb_R_skipComment 1 = .ok (.invokevirtual 54, 3) := by decide +kernel
theorem d_R_skipComment_4 : decode cb_R_skipComment 4 = .ok (.bipush 35, 2) := by decide +kernel
theorem d_R_skipComment_6 : decode cb_R_skipComment 6 = .ok (.if_icmp .ne 41, 3) := by decide +kernel
theorem d_R_skipComment_9 : decode cb_R_skipComment 9 = .ok (.aload_n 0, 1) := by decide +kernel
theorem d_R_skipComment_10 : decode cb_R_skipComment 10 = .ok (.getfield 45, 3) := by decide +kernel
theorem d_R_skipComment_13 : decode cb_R_skipComment 13 = .ok (.aload_n 0, 1) := by decide +kernel
theorem d_R_skipComment_14 : decode cb_R_skipComment 14 = .ok (.getfield 15, 3) := by decide +kernel
theorem d_R_skipComment_17 : decode cb_R_skipComment 17 = .ok (.if_icmp .ge 30, 3) := by decide +kernel
theorem d_R_skipComment_20 : decode cb_R_skipComment 20 = .ok (.aload_n 0, 1) := by decide +kernel
theorem d_R_skipComment_21 : decode cb_R_skipComment 21 = .ok (.getfield 9, 3) := by decide +kernel
theorem d_R_skipComment_24 : decode cb_R_skipComment 24 = .ok (.aload_n 0, 1) := by decide +kernel
theorem d_R_skipComment_25 : decode cb_R_skipComment 25 = .ok (.getfield 45, 3) := by decide +kernel
theorem d_R_skipComment_28 : decode cb_R_skipComment 28 = .ok (.caload, 1) := by decide +kernel
theorem d_R_skipComment_29 : decode cb_R_skipComment 29 = .ok (.bipush 10, 2) := by decide +kernel
theorem d_R_skipComment_31 : decode cb_R_skipComment 31 = .ok (.if_icmp .eq 16, 3) := by decide +kernel
theorem d_R_skipComment_34 : decode cb_R_skipComment 34 = .ok (.aload_n 0, 1) := by decide +kernel
theorem d_R_skipComment_35 : decode cb_R_skipComment 35 = .ok (.dup, 1) := by decide +kernel
theorem d_R_skipComment_36 : decode cb_R_skipComment 36 = .ok (.getfield 45, 3) := by decide +kernel
theorem d_R_skipComment_39 : decode cb_R_skipComment 39 = .ok (.iconst 1, 1) := by decide +kernel
theorem d_R_skipComment_40 : decode cb_R_skipComment 40 = .ok (.iadd, 1) := by decide +kernel
theorem d_R_skipComment_41 : decode cb_R_skipComment 41 = .ok (.putfield 45, 3) := by decide +kernel
theorem d_R_skipComment_44 : decode cb_R_skipComment 44 = .ok (.goto (-35), 3) := by decide +kernel
theorem d_R_skipComment_47 : decode cb_R_skipComment 47 = .ok (.return_, 1) := by decide +kernel
theorem d_R_skipBlanksLinesAndComments_0 : decode cb_R_skipBlanksLinesAndComments 0 = .ok (.iconst 0, 1) := by decide +kernel
theorem d_R_skipBlanksLinesAndComments_1 : decode cb_R_skipBlanksLinesAndComments 1 = .ok (.istore_n 1, 1) := by decide +kernel
theorem d_R_skipBlanksLinesAndComments_2 : decode cb_R_skipBlanksLinesAndComments 2 = .ok (.aload_n 0, 1) := by decide +kernel
theorem d_R_skipBlanksLinesAndComments_3 : decode cb_R_skipBlanksLinesAndComments 3 = .ok (.getfield 45, 3) := by decide +kernel
theorem d_R_skipBlanksLinesAndComments_6 : decode cb_R_skipBlanksLinesAndComments 6 = .ok (.aload_n 0, 1) := by decide +kernel
theorem d_R_skipBlanksLinesAndComments_7 : decode cb_R_skipBlanksLinesAndComments 7 = .ok (.getfield 15, 3) := by decide +kernel
theorem d_R_skipBlanksLinesAndComments_10 : decode cb_R_skipBlanksLinesAndComments 10 = .ok (.if_icmp .ge 59, 3) := by decide +kernel
theorem d_R_skipBlanksLinesAndComments_13 : decode cb_R_skipBlanksLinesAndComments 13 = .ok (.aload_n 0, 1) := by decide +kernel
theorem d_R_skipBlanksLinesAndComments_14 : decode cb_R_skipBlanksLinesAndComments 14 = .ok (.getfield 9, 3) := by decide +kernel
theorem d_R_skipBlanksLinesAndComments_17 : decode cb_R_skipBlanksLinesAndComments 17 = .ok (.aload_n 0, 1) := by decide +kernel
theorem d_R_skipBlanksLinesAndComments_18 : decode cb_R_skipBlanksLinesAndComments 18 = .ok (.getfield 45, 3) := by decide +kernel
theorem d_R_skipBlanksLinesAndComments_21 : decode cb_R_skipBlanksLinesAndComments 21 = .ok (.caload, 1) := by decide +kernel
theorem d_R_skipBlanksLinesAndComments_22 : decode cb_R_skipBlanksLinesAndComments 22 = .ok (.istore_n 2, 1) := by decide +kernel
theorem d_R_skipBlanksLinesAndComments_23 : decode cb_R_skipBlanksLinesAndComments 23 = .ok (.iload_n 2, 1) := by decide +kernel
theorem d_R_skipBlanksLinesAndComments_24 : decode cb_R_skipBlanksLinesAndComments 24 = .ok (.bipush 10, 2) := by decide +kernel
theorem d_R_skipBlanksLinesAndComments_26 : decode cb_R_skipBlanksLinesAndComments 26 = .ok (.if_icmp .ne 8, 3) := by decide +kernel
theorem d_R_skipBlanksLinesAndComments_29 : decode cb_R_skipBlanksLinesAndComments 29 = .ok (.iconst 0, 1) := by decide +kernel
theorem d_R_skipBlanksLinesAndComments_30 : decode cb_R_skipBlanksLinesAndComments 30 = .ok (.istore_n 1, 1) := by decide +kernel
theorem d_R_skipBlanksLinesAndComments_31 : decode cb_R_skipBlanksLinesAndComments 31 = .ok (.goto 25, 3) := by decide +kernel
theorem d_R_skipBlanksLinesAndComments_34 : decode cb_R_skipBlanksLinesAndComments 34 = .ok (.iload_n 2, 1) := by decide +kernel
theorem d_R_skipBlanksLinesAndComments_35 : decode cb_R_skipBlanksLinesAndComments 35 = .ok (.bipush 35, 2) := by decide +kernel
theorem d_R_skipBlanksLinesAndComments_37 : decode cb_R_skipBlanksLinesAndComments 37 = .ok (.if_icmp .ne 8, 3) := by decide +kernel
theorem d_R_skipBlanksLinesAndComments_40 : decode cb_R_skipBlanksLinesAndComments 40 = .ok (.iconst 1, 1) := by decide +kernel
theorem d_R_skipBlanksLinesAndComments_41 : decode cb_R_skipBlanksLinesAndComments 41 = .ok (.istore_n 1, 1) := by decide +kernel
theorem d_R_skipBlanksLinesAndComments_42 : decode cb_R_skipBlanksLinesAndComments 42 = .ok (.goto 14, 3) := by decide +kernel
theorem d_R_skipBlanksLinesAndComments_45 : decode cb_R_skipBlanksLinesAndComments 45 = .ok (.iload_n 2, 1) := by decide +kernel
theorem d_R_skipBlanksLinesAndComments_46 : decode cb_R_skipBlanksLinesAndComments 46 = .ok (.bipush 32, 2) := by decide +kernel
theorem d_R_skipBlanksLinesAndComments_48 : decode cb_R_skipBlanksLinesAndComments 48 = .ok (.if_icmp .eq 8, 3) := by decide +kernel
theorem d_R_skipBlanksLinesAndComments_51 : decode cb_R_skipBlanksLinesAndComments 51 = .ok (.iload_n 1, 1) := by decide +kernel
theorem d_R_skipBlanksLinesAndComments_52 : decode cb_R_skipBlanksLinesAndComments 52 = .ok (.ifCond .ne 4, 3) := by decide +kernel
theorem d_R_skipBlanksLinesAndComments_55 : decode cb_R_skipBlanksLinesAndComments 55 = .ok (.return_, 1) := by decide +kernel
theorem d_R_skipBlanksLinesAndComments_56 : decode cb_R_skipBlanksLinesAndComments 56 = .ok (.aload_n 0, 1) := by decide +kernel
theorem d_R_skipBlanksLinesAndComments_57 : decode cb_R_skipBlanksLinesAndComments 57 = .ok (.dup, 1) := by decide +kernel
theorem d_R_skipBlanksLinesAndComments_58 : decode cb_R_skipBlanksLinesAndComments 58 = .ok (.getfield 45, 3) := by decide +kernel
theorem d_R_skipBlanksLinesAndComments_61 : decode cb_R_skipBlanksLinesAndComments 61 = .ok (.iconst 1, 1) := by decide +kernel
theorem d_R_skipBlanksLinesAndComments_62 : decode cb_R_skipBlanksLinesAndComments 62 = .ok (.iadd, 1) := by decide +kernel
theorem d_R_skipBlanksLinesAndComments_63 : decode cb_R_skipBlanksLinesAndComments 63 = .ok (.putfield 45, 3) := by decide +kernel
theorem d_R_skipBlanksLinesAndComments_66 : decode cb_R_skipBlanksLinesAndComments 66 = .ok (.goto (-64), 3) := by decide +kernel
theorem d_R_skipBlanksLinesAndComments_69 : decode cb_R_skipBlanksLinesAndComments 69 = .ok (.return_, 1) := by decide +kernel
theorem d_R_digitAt_0 : decode cb_R_digitAt 0 = .ok (.iload_n 1, 1) := by decide +kernel
theorem d_R_digitAt_1 : decode cb_R_digitAt 1 = .ok (.aload_n 0, 1) := by decide +kernel
theorem d_R_digitAt_2 : decode cb_R_digitAt 2 = .ok (.getfield 15, 3) := by decide +kernel
theorem d_R_digitAt_5 : decode cb_R_digitAt 5 = .ok (.if_icmp .ge 12, 3) := by decide +kernel
theorem d_R_digitAt_8 : decode cb_R_digitAt 8 = .ok (.aload_n 0, 1) := by decide +kernel
theorem d_R_digitAt_9 : decode cb_R_digitAt 9 = .ok (.getfield 9, 3) := by decide +kernel
theorem d_R_digitAt_12 : decode cb_R_digitAt 12 = .ok (.iload_n 1, 1) := by decide +kernel
theorem d_R_digitAt_13 : decode cb_R_digitAt 13 = .ok (.caload, 1) := by decide +kernel
theorem d_R_digitAt_14 : decode cb_R_digitAt 14 = .ok (.goto 4, 3) := by decide +kernel
theorem d_R_digitAt_17 : decode cb_R_digitAt 17 = .ok (.iconst (-1), 1) := by decide +kernel
theorem d_R_digitAt_18 : decode cb_R_digitAt 18 = .ok (.istore_n 3, 1) := by decide +kernel
theorem d_R_digitAt_19 : decode cb_R_digitAt 19 = .ok (.iload_n 3, 1) := by decide +kernel
theorem d_R_digitAt_20 : decode cb_R_digitAt 20 = .ok (.bipush 48, 2) := by decide +kernel
theorem d_R_digitAt_22 : decode cb_R_digitAt 22 = .ok (.if_icmp .lt 14, 3) := by decide +kernel
theorem d_R_digitAt_25 : decode cb_R_digitAt 25 = .ok (.iload_n 3, 1) := by decide +kernel
theorem d_R_digitAt_26 : decode cb_R_digitAt 26 = .ok (.bipush 57, 2) := by decide +kernel
theorem d_R_digitAt_28 : decode cb_R_digitAt 28 = .ok (.if_icmp .gt 8, 3) := by decide +kernel
theorem d_R_digitAt_31 : decode cb_R_digitAt 31 = .ok (.iload_n 3, 1) := by decide +kernel
theorem d_R_digitAt_32 : decode cb_R_digitAt 32 = .ok (.bipush 48, 2) := by decide +kernel
theorem d_R_digitAt_34 : decode cb_R_digitAt 34 = .ok (.isub, 1) := by decide +kernel
theorem d_R_digitAt_35 : decode cb_R_digitAt 35 = .ok (.ireturn, 1) := by decide +kernel
theorem d_R_digitAt_36 : decode cb_R_digitAt 36 = .ok (.iload_n 2, 1) := by decide +kernel
theorem d_R_digitAt_37 : decode cb_R_digitAt 37 = .ok (.bipush 16, 2) := by decide +kernel
theorem d_R_digitAt_39 : decode cb_R_digitAt 39 = .ok (.if_icmp .ne 25, 3) := by decide +kernel
theorem d_R_digitAt_42 : decode cb_R_digitAt 42 = .ok (.iload_n 3, 1) := by decide +kernel
theorem d_R_digitAt_43 : decode cb_R_digitAt 43 = .ok (.bipush 97, 2) := by decide +kernel
theorem d_R_digitAt_45 : decode cb_R_digitAt 45 = .ok (.if_icmp .lt 19, 3) := by decide +kernel
theorem d_R_digitAt_48 : decode cb_R_digitAt 48 = .ok (.iload_n 3, 1) := by decide +kernel
theorem d_R_digitAt_49 : decode cb_R_digitAt 49 = .ok (.bipush 102, 2) := by decide +kernel
theorem d_R_digitAt_51 : decode cb_R_digitAt 51 = .ok (.if_icmp .gt 13, 3) := by decide +kernel
theorem d_R_digitAt_54 : decode cb_R_digitAt 54 = .ok (.iload_n 3, 1) := by decide +kernel
theorem d_R_digitAt_55 : decode cb_R_digitAt 55 = .ok (.bipush 97, 2) := by decide +kernel
theorem d_R_digitAt_57 : decode cb_R_digitAt 57 = .ok (.isub, 1) := by decide +kernel
theorem d_R_digitAt_58 : decode cb_R_digitAt 58 = .ok (.bipush 10, 2) := by decide +kernel
theorem d_R_digitAt_60 : decode cb_R_digitAt 60 = .ok (.iadd, 1) := by decide +kernel
theorem d_R_digitAt_61 : decode cb_R_digitAt 61 = .ok (.goto 4, 3) := by decide +kernel
theorem d_R_digitAt_64 : decode cb_R_digitAt 64 = .ok (.iconst (-1), 1) := by decide +kernel
theorem d_R_digitAt_65 : decode cb_R_digitAt 65 = .ok (.ireturn, 1) := by decide +kernel
theorem d_R_dateBegins_0 : decode cb_R_dateBegins 0 = .ok (.iconst 0, 1) := by decide +kernel
theorem d_R_dateBegins_1 : decode cb_R_dateBegins 1 = .ok (.istore_n 1, 1) := by decide +kernel
theorem d_R_dateBegins_2 : decode cb_R_dateBegins 2 = .ok (.iload_n 1, 1) := by decide +kernel
theorem d_R_dateBegins_3 : decode cb_R_dateBegins 3 = .ok (.iconst 4, 1) := by decide +kernel
theorem d_R_dateBegins_4 : decode cb_R_dateBegins 4 = .ok (.if_icmp .ge 26, 3) := by decide +kernel
theorem d_R_dateBegins_7 : decode cb_R_dateBegins 7 = .ok (.aload_n 0, 1) := by decide +kernel
theorem d_R_dateBegins_8 : decode cb_R_dateBegins 8 = .ok (.aload_n 0, 1) := by decide +kernel
theorem d_R_dateBegins_9 : decode cb_R_dateBegins 9 = .ok (.getfield 45, 3) := by decide +kernel
theorem d_R_dateBegins_12 : decode cb_R_dateBegins 12 = .ok (.iload_n 1, 1) := by decide +kernel
theorem d_R_dateBegins_13 : decode cb_R_dateBegins 13 = .ok (.iadd, 1) := by decide +kernel
theorem d_R_dateBegins_14 : decode cb_R_dateBegins 14 = .ok (.bipush 10, 2) := by decide +kernel
theorem d_R_dateBegins_16 : decode cb_R_dateBegins 16 = .ok (.invokevirtual 226, 3) := by decide +kernel
theorem d_R_dateBegins_19 : decode cb_R_dateBegins 19 = .ok (.ifCond .ge 5, 3) := by decide +kernel
theorem d_R_dateBegins_22 : decode cb_R_dateBegins 22 = .ok (.iconst 0, 1) := by decide +kernel
theorem d_R_dateBegins_23 : decode cb_R_dateBegins 23 = .ok (.ireturn, 1) := by decide +kernel
theorem d_R_dateBegins_24 : decode cb_R_dateBegins 24 = .ok (.iinc 1 1, 3) := by decide +kernel
theorem d_R_dateBegins_27 : decode cb_R_dateBegins 27 = .ok (.goto (-25), 3) := by decide +kernel
theorem d_R_dateBegins_30 : decode cb_R_dateBegins 30 = .ok (.aload_n 0, 1) := by decide +kernel
theorem d_R_dateBegins_31 : decode cb_R_dateBegins 31 = .ok (.getfield 45, 3) := by decide +kernel
theorem d_R_dateBegins_34 : decode cb_R_dateBegins 34 = .ok (.iconst 4, 1) := by decide +kernel
theorem d_R_dateBegins_35 : decode cb_R_dateBegins 35 = .ok (.iadd, 1) := by decide +kernel
theorem d_R_dateBegins_36 : decode cb_R_dateBegins 36 = .ok (.aload_n 0, 1) := by decide +kernel
theorem d_R_dateBegins_37 : decode cb_R_dateBegins 37 = .ok (.getfield 15, 3) := by decide +kernel
theorem d_R_dateBegins_40 : decode cb_R_dateBegins 40 = .ok (.if_icmp .ge 23, 3) := by decide +kernel
theorem d_R_dateBegins_43 : decode cb_R_dateBegins 43 = .ok (.aload_n 0, 1) := by decide +kernel
theorem d_R_dateBegins_44 : decode cb_R_dateBegins 44 = .ok (.getfield 9, 3) := by decide +kernel
theorem d_R_dateBegins_47 : decode cb_R_dateBegins 47 = .ok (.aload_n 0, 1) := by decide +kernel
theorem d_R_dateBegins_48 : decode cb_R_dateBegins 48 = .ok (.getfield 45, 3) := by decide +kernel
theorem d_R_dateBegins_51 : decode cb_R_dateBegins 51 = .ok (.iconst 4, 1) := by decide +kernel
theorem d_R_dateBegins_52 : decode cb_R_dateBegins 52 = .ok (.iadd, 1) := by decide +kernel
theorem d_R_dateBegins_53 : decode cb_R_dateBegins 53 = .ok (.caload, 1) := by decide +kernel
theorem d_R_dateBegins_54 : decode cb_R_dateBegins 54 = .ok (.bipush 45, 2) := by decide +kernel
theorem d_R_dateBegins_56 : decode cb_R_dateBegins 56 = .ok (.if_icmp .ne 7, 3) := by decide +kernel
theorem d_R_dateBegins_59 : decode cb_R_dateBegins 59 = .ok (.iconst 1, 1) := by decide +kernel
theorem d_R_dateBegins_60 : decode cb_R_dateBegins 60 = .ok (.goto 4, 3) := by decide +kernel
theorem d_R_dateBegins_63 : decode cb_R_dateBegins 63 = .ok (.iconst 0, 1) := by decide +kernel
theorem d_R_dateBegins_64 : decode cb_R_dateBegins 64 = .ok (.ireturn, 1) := by decide +kernel
theorem d_R_readTwoDigits_0 : decode cb_R_readTwoDigits 0 = .ok (.aload_n 0, 1) := by decide +kernel
theorem d_R_readTwoDigits_1 : decode cb_R_readTwoDigits 1 = .ok (.getfield 45, 3) := by decide +kernel
theorem d_R_readTwoDigits_4 : decode cb_R_readTwoDigits 4 = .ok (.istore_n 2, 1) := by decide +kernel
theorem d_R_readTwoDigits_5 : decode cb_R_readTwoDigits 5 = .ok (.iconst 0, 1) := by decide +kernel
theorem d_R_readTwoDigits_6 : decode cb_R_readTwoDigits 6 = .ok (.istore_n 3, 1) := by decide +kernel
theorem d_R_readTwoDigits_7 : decode cb_R_readTwoDigits 7 = .ok (.iconst 0, 1) := by decide +kernel
theorem d_R_readTwoDigits_8 : decode cb_R_readTwoDigits 8 = .ok (.istore 4, 2) := by decide +kernel
theorem d_R_readTwoDigits_10 : decode cb_R_readTwoDigits 10 = .ok (.iload 4, 2) := by decide +kernel
theorem d_R_readTwoDigits_12 : decode cb_R_readTwoDigits 12 = .ok (.iconst 2, 1) := by decide +kernel
theorem d_R_readTwoDigits_13 : decode cb_R_readTwoDigits 13 = .ok (.if_icmp .ge 55, 3) := by decide +kernel
theorem d_R_readTwoDigits_16 : decode cb_R_readTwoDigits 16 = .ok (.aload_n 0, 1) := by decide +kernel
theorem d_R_readTwoDigits_17 : decode cb_R_readTwoDigits 17 = .ok (.aload_n 0, 1) := by decide +kernel
theorem d_R_readTwoDigits_18 : decode cb_R_readTwoDigits 18 = .ok (.getfield 45, 3) := by decide +kernel
theorem d_R_readTwoDigits_21 : decode cb_R_readTwoDigits 21 = .ok (.bipush 10, 2) := by decide +kernel
theorem d_R_readTwoDigits_23 : decode cb_R_readTwoDigits 23 = .ok (.invokevirtual 226, 3) := by decide +kernel
theorem d_R_readTwoDigits_26 : decode cb_R_readTwoDigits 26 = .ok (.istore 5, 2) := by decide +kernel
theorem d_R_readTwoDigits_28 : decode cb_R_readTwoDigits 28 = .ok (.iload 5, 2) := by decide +kernel
theorem d_R_readTwoDigits_30 : decode cb_R_readTwoDigits 30 = .ok (.ifCond .ge 14, 3) := by decide +kernel
theorem d_R_readTwoDigits_33 : decode cb_R_readTwoDigits 33 = .ok (.aload_n 0, 1) := by decide +kernel
theorem d_R_readTwoDigits_34 : decode cb_R_readTwoDigits 34 = .ok (.aload_n 0, 1) := by decide +kernel
theorem d_R_readTwoDigits_35 : decode cb_R_readTwoDigits 35 = .ok (.getfield 45, 3) := by decide +kernel
theorem d_R_readTwoDigits_38 : decode cb_R_readTwoDigits 38 = .ok (.invokevirtual 105, 3) := by decide +kernel
theorem d_R_readTwoDigits_41 : decode cb_R_readTwoDigits 41 = .ok (.pop, 1) := by decide +kernel
theorem d_R_readTwoDigits_42 : decode cb_R_readTwoDigits 42 = .ok (.iconst (-1), 1) := by decide +kernel
theorem d_R_readTwoDigits_43 : decode cb_R_readTwoDigits 43 = .ok (.ireturn, 1) := by decide +kernel
theorem d_R_readTwoDigits_44 : decode cb_R_readTwoDigits 44 = .ok (.bipush 10, 2) := by decide +kernel
theorem d_R_readTwoDigits_46 : decode cb_R_readTwoDigits 46 = .ok (.iload_n 3, 1) := by decide +kernel
theorem d_R_readTwoDigits_47 : decode cb_R_readTwoDigits 47 = .ok (.imul, 1) := by decide +kernel
theorem d_R_readTwoDigits_48 : decode cb_R_readTwoDigits 48 = .ok (.iload 5, 2) := by decide +kernel
theorem d_R_readTwoDigits_50 : decode cb_R_readTwoDigits 50 = .ok (.iadd, 1) := by decide +kernel
theorem d_R_readTwoDigits_51 : decode cb_R_readTwoDigits 51 = .ok (.istore_n 3, 1) := by decide +kernel
theorem d_R_readTwoDigits_52 : decode cb_R_readTwoDigits 52 = .ok (.aload_n 0, 1) := by decide +kernel
theorem d_R_readTwoDigits_53 : decode cb_R_readTwoDigits 53 = .ok (.dup, 1) := by decide +kernel
theorem d_R_readTwoDigits_54 : decode cb_R_readTwoDigits 54 = .ok (.getfield 45, 3) := by decide +kernel
theorem d_R_readTwoDigits_57 : decode cb_R_readTwoDigits 57 = .ok (.iconst 1, 1) := by decide +kernel
theorem d_R_readTwoDigits_58 : decode cb_R_readTwoDigits 58 = .ok (.iadd, 1) := by decide +kernel
theorem d_R_readTwoDigits_59 : decode cb_R_readTwoDigits 59 = .ok (.putfield 45, 3) := by decide +kernel
theorem d_R_readTwoDigits_62 : decode cb_R_readTwoDigits 62 = .ok (.iinc 4 1, 3) := by decide +kernel
theorem d_R_readTwoDigits_65 : decode cb_R_readTwoDigits 65 = .ok (.goto (-55), 3) := by decide +kernel
theorem d_R_readTwoDigits_68 : decode cb_R_readTwoDigits 68 = .ok (.iload_n 3, 1) := by decide +kernel
theorem d_R_readTwoDigits_69 : decode cb_R_readTwoDigits 69 = .ok (.iconst 1, 1) := by decide +kernel
theorem d_R_readTwoDigits_70 : decode cb_R_readTwoDigits 70 = .ok (.if_icmp .lt 8, 3) := by decide +kernel
theorem d_R_readTwoDigits_73 : decode cb_R_readTwoDigits 73 = .ok (.iload_n 3, 1) := by decide +kernel
theorem d_R_readTwoDigits_74 : decode cb_R_readTwoDigits 74 = .ok (.iload_n 1, 1) := by decide +kernel
theorem d_R_readTwoDigits_75 : decode cb_R_readTwoDigits 75 = .ok (.if_icmp .le 11, 3) := by decide +kernel
theorem d_R_readTwoDigits_78 : decode cb_R_readTwoDigits 78 = .ok (.aload_n 0, 1) := by decide +kernel
theorem d_R_readTwoDigits_79 : decode cb_R_readTwoDigits 79 = .ok (.iload_n 2, 1) := by decide +kernel
theorem d_R_readTwoDigits_80 : decode cb_R_readTwoDigits 80 = .ok (.invokevirtual 105, 3) := by decide +kernel
theorem d_R_readTwoDigits_83 : decode cb_R_readTwoDigits 83 = .ok (.pop, 1) := by decide +kernel
theorem d_R_readTwoDigits_84 : decode cb_R_readTwoDigits 84 = .ok (.iconst (-1), 1) := by decide +kernel
theorem d_R_readTwoDigits_85 : decode cb_R_readTwoDigits 85 = .ok (.ireturn, 1) := by decide +kernel
theorem d_R_readTwoDigits_86 : decode cb_R_readTwoDigits 86 = .ok (.iload_n 3, 1) := by decide +kernel
theorem d_R_readTwoDigits_87 : decode cb_R_readTwoDigits 87 = .ok (.ireturn, 1) := by decide +kernel
theorem d_R_readDigits_0 : decode cb_R_readDigits 0 = .ok (.iconst 0, 1) := by decide +kernel
theorem d_R_readDigits_1 : decode cb_R_readDigits 1 = .ok (.istore_n 3, 1) := by decide +kernel
theorem d_R_readDigits_2 : decode cb_R_readDigits 2 = .ok (.iconst 1, 1) := by decide +kernel
theorem d_R_readDigits_3 : decode cb_R_readDigits 3 = .ok (.istore 4, 2) := by decide +kernel
theorem d_R_readDigits_5 : decode cb_R_readDigits 5 = .ok (.iconst 0, 1) := by decide +kernel
theorem d_R_readDigits_6 : decode cb_R_readDigits 6 = .ok (.istore 5, 2) := by decide +kernel
theorem d_R_readDigits_8 : decode cb_R_readDigits 8 = .ok (.iload 4, 2) := by decide +kernel
theorem d_R_readDigits_10 : decode cb_R_readDigits 10 = .ok (.ifCond .eq 112, 3) := by decide +kernel
theorem d_R_readDigits_13 : decode cb_R_readDigits 13 = .ok (.iload 5, 2) := by decide +kernel
theorem d_R_readDigits_15 : decode cb_R_readDigits 15 = .ok (.iload_n 2, 1) := by decide +kernel
theorem d_R_readDigits_16 : decode cb_R_readDigits 16 = .ok (.if_icmp .gt 106, 3) := by decide +kernel
theorem d_R_readDigits_19 : decode cb_R_readDigits 19 = .ok (.aload_n 0, 1) := by decide +kernel
theorem d_R_readDigits_20 : decode cb_R_readDigits 20 = .ok (.aload_n 0, 1) := by decide +kernel
theorem d_R_readDigits_21 : decode cb_R_readDigits 21 = .ok (.getfield 45, 3) := by decide +kernel
theorem d_R_readDigits_24 : decode cb_R_readDigits 24 = .ok (.iload_n 1, 1) := by decide +kernel
theorem d_R_readDigits_25 : decode cb_R_readDigits 25 = .ok (.invokevirtual 226, 3) := by decide +kernel
theorem d_R_readDigits_28 : decode cb_R_readDigits 28 = .ok (.istore 6, 2) := by decide +kernel
theorem d_R_readDigits_30 : decode cb_R_readDigits 30 = .ok (.iload 6, 2) := by decide +kernel
theorem d_R_readDigits_32 : decode cb_R_readDigits 32 = .ok (.ifCond .lt 9, 3) := by decide +kernel
theorem d_R_readDigits_35 : decode cb_R_readDigits 35 = .ok (.iload 5, 2) := by decide +kernel
theorem d_R_readDigits_37 : decode cb_R_readDigits 37 = .ok (.iload_n 2, 1) := by decide +kernel
theorem d_R_readDigits_38 : decode cb_R_readDigits 38 = .ok (.if_icmp .lt 14, 3) := by decide +kernel
theorem d_R_readDigits_41 : decode cb_R_readDigits 41 = .ok (.aload_n 0, 1) := by decide +kernel
theorem d_R_readDigits_42 : decode cb_R_readDigits 42 = .ok (.aload_n 0, 1) := by decide +kernel
theorem d_R_readDigits_43 : decode cb_R_readDigits 43 = .ok (.getfield 45, 3) := by decide +kernel
theorem d_R_readDigits_46 : decode cb_R_readDigits 46 = .ok (.invokevirtual 105, 3) := by decide +kernel
theorem d_R_readDigits_49 : decode cb_R_readDigits 49 = .ok (.pop, 1) := by decide +kernel
theorem d_R_readDigits_50 : decode cb_R_readDigits 50 = .ok (.iconst (-1), 1) := by decide +kernel
theorem d_R_readDigits_51 : decode cb_R_readDigits 51 = .ok (.ireturn, 1) := by decide +kernel
theorem d_R_readDigits_52 : decode cb_R_readDigits 52 = .ok (.iload_n 3, 1) := by decide +kernel
theorem d_R_readDigits_53 : decode cb_R_readDigits 53 = .ok (.iload_n 1, 1) := by decide +kernel
theorem d_R_readDigits_54 : decode cb_R_readDigits 54 = .ok (.imul, 1) := by decide +kernel
theorem d_R_readDigits_55 : decode cb_R_readDigits 55 = .ok (.iload 6, 2) := by decide +kernel
theorem d_R_readDigits_57 : decode cb_R_readDigits 57 = .ok (.iadd, 1) := by decide +kernel
theorem d_R_readDigits_58 : decode cb_R_readDigits 58 = .ok (.istore_n 3, 1) := by decide +kernel
theorem d_R_readDigits_59 : decode cb_R_readDigits 59 = .ok (.aload_n 0, 1) := by decide +kernel
theorem d_R_readDigits_60 : decode cb_R_readDigits 60 = .ok (.dup, 1) := by decide +kernel
theorem d_R_readDigits_61 : decode cb_R_readDigits 61 = .ok (.getfield 45, 3) := by decide +kernel
theorem d_R_readDigits_64 : decode cb_R_readDigits 64 = .ok (.iconst 1, 1) := by decide +kernel
theorem d_R_readDigits_65 : decode cb_R_readDigits 65 = .ok (.iadd, 1) := by decide +kernel
theorem d_R_readDigits_66 : decode cb_R_readDigits 66 = .ok (.putfield 45, 3) := by decide +kernel
theorem d_R_readDigits_69 : decode cb_R_readDigits 69 = .ok (.aload_n 0, 1) := by decide +kernel
theorem d_R_readDigits_70 : decode cb_R_readDigits 70 = .ok (.invokevirtual 54, 3) := by decide +kernel
theorem d_R_readDigits_73 : decode cb_R_readDigits 73 = .ok (.bipush 95, 2) := by decide +kernel
theorem d_R_readDigits_75 : decode cb_R_readDigits 75 = .ok (.if_icmp .eq 15, 3) := by decide +kernel
theorem d_R_readDigits_78 : decode cb_R_readDigits 78 = .ok (.aload_n 0, 1) := by decide +kernel
theorem d_R_readDigits_79 : decode cb_R_readDigits 79 = .ok (.aload_n 0, 1) := by decide +kernel
theorem d_R_readDigits_80 : decode cb_R_readDigits 80 = .ok (.getfield 45, 3) := by decide +kernel
theorem d_R_readDigits_83 : decode cb_R_readDigits 83 = .ok (.iload_n 1, 1) := by decide +kernel
theorem d_R_readDigits_84 : decode cb_R_readDigits 84 = .ok (.invokevirtual 226, 3) := by decide +kernel
theorem d_R_readDigits_87 : decode cb_R_readDigits 87 = .ok (.ifCond .lt 7, 3) := by decide +kernel
theorem d_R_readDigits_90 : decode cb_R_readDigits 90 = .ok (.iconst 1, 1) := by decide +kernel
theorem d_R_readDigits_91 : decode cb_R_readDigits 91 = .ok (.goto 4, 3) := by decide +kernel
theorem d_R_readDigits_94 : decode cb_R_readDigits 94 = .ok (.iconst 0, 1) := by decide +kernel
theorem d_R_readDigits_95 : decode cb_R_readDigits 95 = .ok (.istore 4, 2) := by decide +kernel
theorem d_R_readDigits_97 : decode cb_R_readDigits 97 = .ok (.aload_n 0, 1) := by decide +kernel
theorem d_R_readDigits_98 : decode cb_R_readDigits 98 = .ok (.invokevirtual 54, 3) := by decide +kernel
theorem d_R_readDigits_101 : decode cb_R_readDigits 101 = .ok (.bipush 95, 2) := by decide +kernel
theorem d_R_readDigits_103 : decode cb_R_readDigits 103 = .ok (.if_icmp .ne 13, 3) := by decide +kernel
theorem d_R_readDigits_106 : decode cb_R_readDigits 106 = .ok (.aload_n 0, 1) := by decide +kernel
theorem d_R_readDigits_107 : decode cb_R_readDigits 107 = .ok (.dup, 1) := by decide +kernel
theorem d_R_readDigits_108 : decode cb_R_readDigits 108 = .ok (.getfield 45, 3) := by decide +kernel
theorem d_R_readDigits_111 : decode cb_R_readDigits 111 = .ok (.iconst 1, 1) := by decide +kernel
theorem d_R_readDigits_112 : decode cb_R_readDigits 112 = .ok (.iadd, 1) := by decide +kernel
theorem d_R_readDigits_113 : decode cb_R_readDigits 113 = .ok (.putfield 45, 3) := by decide +kernel
theorem d_R_readDigits_116 : decode cb_R_readDigits 116 = .ok (.iinc 5 1, 3) := by decide +kernel
theorem d_R_readDigits_119 : decode cb_R_readDigits 119 = .ok (.goto (-111), 3) := by decide +kernel
theorem d_R_readDigits_122 : decode cb_R_readDigits 122 = .ok (.iload_n 3, 1) := by decide +kernel
theorem d_R_readDigits_123 : decode cb_R_readDigits 123 = .ok (.ireturn, 1) := by decide +kernel
theorem d_T_isBareLetter_0 : decode cb_T_isBareLetter 0 = .ok (.iload_n 0, 1) := by decide +kernel
theorem d_T_isBareLetter_1 : decode cb_T_isBareLetter 1 = .ok (.bipush 97, 2) := by decide +kernel
theorem d_T_isBareLetter_3 : decode cb_T_isBareLetter 3 = .ok (.if_icmp .lt 9, 3) := by decide +kernel
theorem d_T_isBareLetter_6 : decode cb_T_isBareLetter 6 = .ok (.iload_n 0, 1) := by decide +kernel
theorem d_T_isBareLetter_7 : decode cb_T_isBareLetter 7 = .ok (.bipush 122, 2) := by decide +kernel
theorem d_T_isBareLetter_9 : decode cb_T_isBareLetter 9 = .ok (.if_icmp .le 39, 3) := by decide +kernel
theorem d_T_isBareLetter_12 : decode cb_T_isBareLetter 12 = .ok (.iload_n 0, 1) := by decide +kernel
theorem d_T_isBareLetter_13 : decode cb_T_isBareLetter 13 = .ok (.bipush 65, 2) := by decide +kernel
theorem d_T_isBareLetter_15 : decode cb_T_isBareLetter 15 = .ok (.if_icmp .lt 9, 3) := by decide +kernel
theorem d_T_isBareLetter_18 : decode cb_T_isBareLetter 18 = .ok (.iload_n 0, 1) := by decide +kernel
theorem d_T_isBareLetter_19 : decode cb_T_isBareLetter 19 = .ok (.bipush 90, 2) := by decide +kernel
theorem d_T_isBareLetter_21 : decode cb_T_isBareLetter 21 = .ok (.if_icmp .le 27, 3) := by decide +kernel
theorem d_T_isBareLetter_24 : decode cb_T_isBareLetter 24 = .ok (.iload_n 0, 1) := by decide +kernel
theorem d_T_isBareLetter_25 : decode cb_T_isBareLetter 25 = .ok (.bipush 48, 2) := by decide +kernel
theorem d_T_isBareLetter_27 : decode cb_T_isBareLetter 27 = .ok (.if_icmp .lt 9, 3) := by decide +kernel
theorem d_T_isBareLetter_30 : decode cb_T_isBareLetter 30 = .ok (.iload_n 0, 1) := by decide +kernel
theorem d_T_isBareLetter_31 : decode cb_T_isBareLetter 31 = .ok (.bipush 57, 2) := by decide +kernel
theorem d_T_isBareLetter_33 : decode cb_T_isBareLetter 33 = .ok (.if_icmp .le 15, 3) := by decide +kernel
theorem d_T_isBareLetter_36 : decode cb_T_isBareLetter 36 = .ok (.iload_n 0, 1) := by decide +kernel
theorem d_T_isBareLetter_37 : decode cb_T_isBareLetter 37 = .ok (.bipush 95, 2) := by decide +kernel
theorem d_T_isBareLetter_39 : decode cb_T_isBareLetter 39 = .ok (.if_icmp .eq 9, 3) := by decide +kernel
theorem d_T_isBareLetter_42 : decode cb_T_isBareLetter 42 = .ok (.iload_n 0, 1) := by decide +kernel
theorem d_T_isBareLetter_43 : decode cb_T_isBareLetter 43 = .ok (.bipush 45, 2) := by decide +kernel
theorem d_T_isBareLetter_45 : decode cb_T_isBareLetter 45 = .ok (.if_icmp .ne 7, 3) := by decide +kernel
theorem d_T_isBareLetter_48 : decode cb_T_isBareLetter 48 = .ok (.iconst 1, 1) := by decide +kernel
theorem d_T_isBareLetter_49 : decode cb_T_isBareLetter 49 = .ok (.goto 4, 3) := by decide +kernel
theorem d_T_isBareLetter_52 : decode cb_T_isBareLetter 52 = .ok (.iconst 0, 1) := by decide +kernel
theorem d_T_isBareLetter_53 : decode cb_T_isBareLetter 53 = .ok (.ireturn, 1) := by decide +kernel
theorem d_P_put_0 : decode cb_P_put 0 = .ok (.aload_n 0, 1) := by decide +kernel
theorem d_P_put_1 : decode cb_P_put 1 = .ok (.getfield 15, 3) := by decide +kernel
theorem d_P_put_4 : decode cb_P_put 4 = .ok (.sipush 600, 3) := by decide +kernel
theorem d_P_put_7 : decode cb_P_put 7 = .ok (.if_icmp .ge 13, 3) := by decide +kernel
theorem d_P_put_10 : decode cb_P_put 10 = .ok (.aload_n 0, 1) := by decide +kernel
theorem d_P_put_11 : decode cb_P_put 11 = .ok (.getfield 9, 3) := by decide +kernel
theorem d_P_put_14 : decode cb_P_put 14 = .ok (.aload_n 0, 1) := by decide +kernel
theorem d_P_put_15 : decode cb_P_put 15 = .ok (.getfield 15, 3) := by decide +kernel
theorem d_P_put_18 : decode cb_P_put 18 = .ok (.iload_n 1, 1) := by decide +kernel
theorem d_P_put_19 : decode cb_P_put 19 = .ok (.castore, 1) := by decide +kernel
theorem d_P_put_20 : decode cb_P_put 20 = .ok (.aload_n 0, 1) := by decide +kernel
theorem d_P_put_21 : decode cb_P_put 21 = .ok (.dup, 1) := by decide +kernel
theorem d_P_put_22 : decode cb_P_put 22 = .ok (.getfield 15, 3) := by decide +kernel
theorem d_P_put_25 : decode cb_P_put 25 = .ok (.iconst 1, 1) := by decide +kernel
theorem d_P_put_26 : decode cb_P_put 26 = .ok (.iadd, 1) := by decide +kernel
theorem d_P_put_27 : decode cb_P_put 27 = .ok (.putfield 15, 3) := by decide +kernel
theorem d_P_put_30 : decode cb_P_put 30 = .ok (.return_, 1) := by decide +kernel
theorem d_P_putDigits_0 : decode cb_P_putDigits 0 = .ok (.iconst 1, 1) := by decide +kernel
theorem d_P_putDigits_1 : decode cb_P_putDigits 1 = .ok (.istore_n 3, 1) := by decide +kernel
theorem d_P_putDigits_2 : decode cb_P_putDigits 2 = .ok (.iconst 1, 1) := by decide +kernel
theorem d_P_putDigits_3 : decode cb_P_putDigits 3 = .ok (.istore 4, 2) := by decide +kernel
theorem d_P_putDigits_5 : decode cb_P_putDigits 5 = .ok (.iload 4, 2) := by decide +kernel
theorem d_P_putDigits_7 : decode cb_P_putDigits 7 = .ok (.bipush 9, 2) := by decide +kernel
theorem d_P_putDigits_9 : decode cb_P_putDigits 9 = .ok (.if_icmp .ge 28, 3) := by decide +kernel
theorem d_P_putDigits_12 : decode cb_P_putDigits 12 = .ok (.iload 4, 2) := by decide +kernel
theorem d_P_putDigits_14 : decode cb_P_putDigits 14 = .ok (.iload_n 2, 1) := by decide +kernel
theorem d_P_putDigits_15 : decode cb_P_putDigits 15 = .ok (.if_icmp .lt 11, 3) := by decide +kernel
theorem d_P_putDigits_18 : decode cb_P_putDigits 18 = .ok (.iload_n 1, 1) := by decide +kernel
theorem d_P_putDigits_19 : decode cb_P_putDigits 19 = .ok (.bipush 10, 2) := by decide +kernel
theorem d_P_putDigits_21 : decode cb_P_putDigits 21 = .ok (.idiv, 1) := by decide +kernel
theorem d_P_putDigits_22 : decode cb_P_putDigits 22 = .ok (.iload_n 3, 1) := by decide +kernel
theorem d_P_putDigits_23 : decode cb_P_putDigits 23 = .ok (.if_icmp .lt 14, 3) := by decide +kernel
theorem d_P_putDigits_26 : decode cb_P_putDigits 26 = .ok (.iload_n 3, 1) := by decide +kernel
theorem d_P_putDigits_27 : decode cb_P_putDigits 27 = .ok (.bipush 10, 2) := by decide +kernel
theorem d_P_putDigits_29 : decode cb_P_putDigits 29 = .ok (.imul, 1) := by decide +kernel
theorem d_P_putDigits_30 : decode cb_P_putDigits 30 = .ok (.istore_n 3, 1) := by decide +kernel
theorem d_P_putDigits_31 : decode cb_P_putDigits 31 = .ok (.iinc 4 1, 3) := by decide +kernel
theorem d_P_putDigits_34 : decode cb_P_putDigits 34 = .ok (.goto (-29), 3) := by decide +kernel
theorem d_P_putDigits_37 : decode cb_P_putDigits 37 = .ok (.iload_n 3, 1) := by decide +kernel
theorem d_P_putDigits_38 : decode cb_P_putDigits 38 = .ok (.ifCond .le 25, 3) := by decide +kernel
theorem d_P_putDigits_41 : decode cb_P_putDigits 41 = .ok (.aload_n 0, 1) := by decide +kernel
theorem d_P_putDigits_42 : decode cb_P_putDigits 42 = .ok (.bipush 48, 2) := by decide +kernel
theorem d_P_putDigits_44 : decode cb_P_putDigits 44 = .ok (.iload_n 1, 1) := by decide +kernel
theorem d_P_putDigits_45 : decode cb_P_putDigits 45 = .ok (.iload_n 3, 1) := by decide +kernel
theorem d_P_putDigits_46 : decode cb_P_putDigits 46 = .ok (.idiv, 1) := by decide +kernel
theorem d_P_putDigits_47 : decode cb_P_putDigits 47 = .ok (.bipush 10, 2) := by decide +kernel
theorem d_P_putDigits_49 : decode cb_P_putDigits 49 = .ok (.irem, 1) := by decide +kernel
theorem d_P_putDigits_50 : decode cb_P_putDigits 50 = .ok (.iadd, 1) := by decide +kernel
theorem d_P_putDigits_51 : decode cb_P_putDigits 51 = .ok (.i2c, 1) := by decide +kernel
theorem d_P_putDigits_52 : decode cb_P_putDigits 52 = .ok (.invokevirtual 50, 3) := by decide +kernel
theorem d_P_putDigits_55 : decode cb_P_putDigits 55 = .ok (.iload_n 3, 1) := by decide +kernel
theorem d_P_putDigits_56 : decode cb_P_putDigits 56 = .ok (.bipush 10, 2) := by decide +kernel
theorem d_P_putDigits_58 : decode cb_P_putDigits 58 = .ok (.idiv, 1) := by decide +kernel
theorem d_P_putDigits_59 : decode cb_P_putDigits 59 = .ok (.istore_n 3, 1) := by decide +kernel
theorem d_P_putDigits_60 : decode cb_P_putDigits 60 = .ok (.goto (-23), 3) := by decide +kernel
theorem d_P_putDigits_63 : decode cb_P_putDigits 63 = .ok (.return_, 1) := by decide +kernel
theorem d_P_putDate_0 : decode cb_P_putDate 0 = .ok (.aload_n 0, 1) := by decide +kernel
theorem d_P_putDate_1 : decode cb_P_putDate 1 = .ok (.iload_n 1, 1) := by decide +kernel
theorem d_P_putDate_2 : decode cb_P_putDate 2 = .ok (.sipush 10000, 3) := by decide +kernel
theorem d_P_putDate_5 : decode cb_P_putDate 5 = .ok (.idiv, 1) := by decide +kernel
theorem d_P_putDate_6 : decode cb_P_putDate 6 = .ok (.iconst 4, 1) := by decide +kernel
theorem d_P_putDate_7 : decode cb_P_putDate 7 = .ok (.invokevirtual 118, 3) := by decide +kernel
theorem d_P_putDate_10 : decode cb_P_putDate 10 = .ok (.aload_n 0, 1) := by decide +kernel
theorem d_P_putDate_11 : decode cb_P_putDate 11 = .ok (.bipush 45, 2) := by decide +kernel
theorem d_P_putDate_13 : decode cb_P_putDate 13 = .ok (.invokevirtual 50, 3) := by decide +kernel
theorem d_P_putDate_16 : decode cb_P_putDate 16 = .ok (.aload_n 0, 1) := by decide +kernel
theorem d_P_putDate_17 : decode cb_P_putDate 17 = .ok (.iload_n 1, 1) := by decide +kernel
theorem d_P_putDate_18 : decode cb_P_putDate 18 = .ok (.bipush 100, 2) := by decide +kernel
theorem d_P_putDate_20 : decode cb_P_putDate 20 = .ok (.idiv, 1) := by decide +kernel
theorem d_P_putDate_21 : decode cb_P_putDate 21 = .ok (.bipush 100, 2) := by decide +kernel
theorem d_P_putDate_23 : decode cb_P_putDate 23 = .ok (.irem, 1) := by decide +kernel
theorem d_P_putDate_24 : decode cb_P_putDate 24 = .ok (.iconst 2, 1) := by decide +kernel
theorem d_P_putDate_25 : decode cb_P_putDate 25 = .ok (.invokevirtual 118, 3) := by decide +kernel
theorem d_P_putDate_28 : decode cb_P_putDate 28 = .ok (.aload_n 0, 1) := by decide +kernel
theorem d_P_putDate_29 : decode cb_P_putDate 29 = .ok (.bipush 45, 2) := by decide +kernel
theorem d_P_putDate_31 : decode cb_P_putDate 31 = .ok (.invokevirtual 50, 3) := by decide +kernel
theorem d_P_putDate_34 : decode cb_P_putDate 34 = .ok (.aload_n 0, 1) := by decide +kernel
theorem d_P_putDate_35 : decode cb_P_putDate 35 = .ok (.iload_n 1, 1) := by decide +kernel
theorem d_P_putDate_36 : decode cb_P_putDate 36 = .ok (.bipush 100, 2) := by decide +kernel
theorem d_P_putDate_38 : decode cb_P_putDate 38 = .ok (.irem, 1) := by decide +kernel
theorem d_P_putDate_39 : decode cb_P_putDate 39 = .ok (.iconst 2, 1) := by decide +kernel
theorem d_P_putDate_40 : decode cb_P_putDate 40 = .ok (.invokevirtual 118, 3) := by decide +kernel
theorem d_P_putDate_43 : decode cb_P_putDate 43 = .ok (.return_, 1) := by decide +kernel
theorem d_P_putEnd_0 : decode cb_P_putEnd 0 = .ok (.aload_n 1, 1) := by decide +kernel
theorem d_P_putEnd_1 : decode cb_P_putEnd 1 = .ok (.invokevirtual 46, 3) := by decide +kernel
theorem d_P_putEnd_4 : decode cb_P_putEnd 4 = .ok (.ifCond .eq 12, 3) := by decide +kernel
theorem d_P_putEnd_7 : decode cb_P_putEnd 7 = .ok (.aload_n 0, 1) := by decide +kernel
theorem d_P_putEnd_8 : decode cb_P_putEnd 8 = .ok (.bipush 125, 2) := by decide +kernel
theorem d_P_putEnd_10 : decode cb_P_putEnd 10 = .ok (.invokevirtual 50, 3) := by decide +kernel
theorem d_P_putEnd_13 : decode cb_P_putEnd 13 = .ok (.goto 16, 3) := by decide +kernel
theorem d_P_putEnd_16 : decode cb_P_putEnd 16 = .ok (.aload_n 1, 1) := by decide +kernel
theorem d_P_putEnd_17 : decode cb_P_putEnd 17 = .ok (.invokevirtual 54, 3) := by decide +kernel
theorem d_P_putEnd_20 : decode cb_P_putEnd 20 = .ok (.ifCond .eq 9, 3) := by decide +kernel
theorem d_P_putEnd_23 : decode cb_P_putEnd 23 = .ok (.aload_n 0, 1) := by decide +kernel
theorem d_P_putEnd_24 : decode cb_P_putEnd 24 = .ok (.bipush 93, 2) := by decide +kernel
theorem d_P_putEnd_26 : decode cb_P_putEnd 26 = .ok (.invokevirtual 50, 3) := by decide +kernel
theorem d_P_putEnd_29 : decode cb_P_putEnd 29 = .ok (.return_, 1) := by decide +kernel
theorem d_P_isLine_0 : decode cb_P_isLine 0 = .ok (.aload_n 0, 1) := by decide +kernel
theorem d_P_isLine_1 : decode cb_P_isLine 1 = .ok (.getfield 90, 3) := by decide +kernel
theorem d_P_isLine_4 : decode cb_P_isLine 4 = .ok (.ifnull 13, 3) := by decide +kernel
theorem d_P_isLine_7 : decode cb_P_isLine 7 = .ok (.aload_n 0, 1) := by decide +kernel
theorem d_P_isLine_8 : decode cb_P_isLine 8 = .ok (.getfield 90, 3) := by decide +kernel
theorem d_P_isLine_11 : decode cb_P_isLine 11 = .ok (.getfield 90, 3) := by decide +kernel
theorem d_P_isLine_14 : decode cb_P_isLine 14 = .ok (.ifnonnull 7, 3) := by decide +kernel
theorem d_P_isLine_17 : decode cb_P_isLine 17 = .ok (.iconst 1, 1) := by decide +kernel
theorem d_P_isLine_18 : decode cb_P_isLine 18 = .ok (.goto 4, 3) := by decide +kernel
theorem d_P_isLine_21 : decode cb_P_isLine 21 = .ok (.iconst 0, 1) := by decide +kernel
theorem d_P_isLine_22 : decode cb_P_isLine 22 = .ok (.ireturn, 1) := by decide +kernel
theorem d_T_top_0 : decode cb_T_top 0 = .ok (.aload_n 0, 1) := by decide +kernel
theorem d_T_top_1 : decode cb_T_top 1 = .ok (.aload_n 0, 1) := by decide +kernel
theorem d_T_top_2 : decode cb_T_top 2 = .ok (.getfield 29, 3) := by decide +kernel
theorem d_T_top_5 : decode cb_T_top 5 = .ok (.putfield 33, 3) := by decide +kernel
theorem d_T_top_8 : decode cb_T_top 8 = .ok (.aload_n 0, 1) := by decide +kernel
theorem d_T_top_9 : decode cb_T_top 9 = .ok (.getfield 29, 3) := by decide +kernel
theorem d_T_top_12 : decode cb_T_top 12 = .ok (.getfield 75, 3) := by decide +kernel
theorem d_T_top_15 : decode cb_T_top 15 = .ok (.ireturn, 1) := by decide +kernel
theorem d_T_kind_0 : decode cb_T_kind 0 = .ok (.aload_n 0, 1) := by decide +kernel
theorem d_T_kind_1 : decode cb_T_kind 1 = .ok (.getfield 33, 3) := by decide +kernel
theorem d_T_kind_4 : decode cb_T_kind 4 = .ok (.getfield 82, 3) := by decide +kernel
theorem d_T_kind_7 : decode cb_T_kind 7 = .ok (.ireturn, 1) := by decide +kernel
theorem d_T_value_0 : decode cb_T_value 0 = .ok (.aload_n 0, 1) := by decide +kernel
theorem d_T_value_1 : decode cb_T_value 1 = .ok (.getfield 33, 3) := by decide +kernel
theorem d_T_value_4 : decode cb_T_value 4 = .ok (.getfield 75, 3) := by decide +kernel
theorem d_T_value_7 : decode cb_T_value 7 = .ok (.ireturn, 1) := by decide +kernel
