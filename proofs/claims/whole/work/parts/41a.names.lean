abbrev cb_Str_coder : ByteArray := prog_20_method_152_code
def y_Str_coder : MethodName := ⟨RZ6, "coder", "()B"⟩
abbrev cb_Str_length : ByteArray := prog_20_method_54_code
def y_Str_length : MethodName := ⟨RZ6, "length", "()I"⟩
abbrev cb_Str_isEmpty : ByteArray := prog_20_method_55_code
def y_Str_isEmpty : MethodName := ⟨RZ6, "isEmpty", "()Z"⟩
abbrev cb_Str_isLatin1 : ByteArray := prog_20_method_154_code
def y_Str_isLatin1 : MethodName := ⟨RZ6, "isLatin1", "()Z"⟩
abbrev cb_Pc_checkIndex : ByteArray := prog_37_method_11_code
def y_Pc_checkIndex : MethodName := ⟨RJ_Pc, "checkIndex", "(IILjava/util/function/BiFunction;)I"⟩
abbrev cb_Str_checkIndex : ByteArray := prog_20_method_155_code
def y_Str_checkIndex : MethodName := ⟨RZ6, "checkIndex", "(II)V"⟩
abbrev cb_Ob_checkIndex : ByteArray := prog_33_method_17_code
def y_Ob_checkIndex : MethodName := ⟨RJ_Ob, "checkIndex", "(II)I"⟩
abbrev cb_L1_charAt : ByteArray := prog_23_method_2_code
def y_L1_charAt : MethodName := ⟨RJ_L1, "charAt", "([BI)C"⟩
abbrev cb_Str_charAt : ByteArray := prog_20_method_56_code
def y_Str_charAt : MethodName := ⟨RZ6, "charAt", "(I)C"⟩
abbrev cb_L1_equals : ByteArray := prog_23_method_13_code
def y_L1_equals : MethodName := ⟨RJ_L1, "equals", "([B[B)Z"⟩
abbrev cb_Str_equals : ByteArray := prog_20_method_66_code
def y_Str_equals : MethodName := ⟨RZ6, "equals", "(Ljava/lang/Object;)Z"⟩
abbrev cb_Ma_abs : ByteArray := prog_18_method_59_code
def y_Ma_abs : MethodName := ⟨RJ_Ma, "abs", "(I)I"⟩
abbrev cb_AL_size : ByteArray := prog_29_method_8_code
def y_AL_size : MethodName := ⟨RZ8, "size", "()I"⟩
abbrev cb_AL_elementData : ByteArray := prog_29_method_18_code
def y_AL_elementData : MethodName := ⟨RZ8, "elementData", "(I)Ljava/lang/Object;"⟩
abbrev cb_AL_get : ByteArray := prog_29_method_20_code
def y_AL_get : MethodName := ⟨RZ8, "get", "(I)Ljava/lang/Object;"⟩
abbrev cb_AbC_init : ByteArray := prog_27_method_1_code
def y_AbC_init : MethodName := ⟨RJ_AbC, "<init>", "()V"⟩
abbrev cb_AbL_init : ByteArray := prog_28_method_1_code
def y_AbL_init : MethodName := ⟨RJ_AbL, "<init>", "()V"⟩
abbrev cb_AL_init : ByteArray := prog_29_method_2_code
def y_AL_init : MethodName := ⟨RZ8, "<init>", "()V"⟩
abbrev cb_AB_isLatin1 : ByteArray := prog_9_method_68_code
def y_AB_isLatin1 : MethodName := ⟨RJ_AB, "isLatin1", "()Z"⟩
abbrev cb_AB_getValue : ByteArray := prog_9_method_64_code
def y_AB_getValue : MethodName := ⟨RJ_AB, "getValue", "()[B"⟩
abbrev cb_AB_length : ByteArray := prog_9_method_6_code
def y_AB_length : MethodName := ⟨RJ_AB, "length", "()I"⟩
abbrev cb_L1_canEncode : ByteArray := prog_23_method_3_code
def y_L1_canEncode : MethodName := ⟨RJ_L1, "canEncode", "(C)Z"⟩
abbrev cb_AB_init : ByteArray := prog_9_method_2_code
def y_AB_init : MethodName := ⟨RJ_AB, "<init>", "(I)V"⟩
abbrev cb_SB_init : ByteArray := prog_21_method_1_code
def y_SB_init : MethodName := ⟨RZ7, "<init>", "()V"⟩
theorem mF_Str_38 : Cond.fieldLink RZ6 38 "java/lang/String" "COMPACT_STRINGS" "Z" ∈ wsA := List.mem_filter.mpr ⟨List.mem_of_getElem? (i := 435) (by decide +kernel), by decide +kernel⟩
theorem mF_Str_15 : Cond.fieldLink RZ6 15 (cT 6 1).1 (cT 6 1).2.1 (cT 6 1).2.2.1 ∈ wsA := List.mem_filter.mpr ⟨List.mem_of_getElem? (i := 619) (by decide +kernel), by decide +kernel⟩
theorem mF_Str_9 : Cond.fieldLink RZ6 9 (cT 6 0).1 (cT 6 0).2.1 (cT 6 0).2.2.1 ∈ wsA := List.mem_filter.mpr ⟨List.mem_of_getElem? (i := 618) (by decide +kernel), by decide +kernel⟩
theorem kw_Str_335 : kW RZ6 335 (cC 6) y_Str_coder (.code y_Str_coder cb_Str_coder 1 (some .byte)) 0 := ⟨gV (List.mem_filter.mpr ⟨List.mem_of_getElem? (i := 431) (by decide +kernel), by decide +kernel⟩) (List.mem_filter.mpr ⟨List.mem_of_getElem? (i := 432) (by decide +kernel), by decide +kernel⟩) (List.mem_filter.mpr ⟨List.mem_of_getElem? (i := 433) (by decide +kernel), by decide +kernel⟩) (List.mem_filter.mpr ⟨List.mem_of_getElem? (i := 108) (by decide +kernel), by decide +kernel⟩) (List.mem_filter.mpr ⟨List.mem_of_getElem? (i := 434) (by decide +kernel), by decide +kernel⟩), rfl, by decide, by decide, by decide +kernel⟩
theorem mF_Str_1053 : Cond.fieldLink RZ6 1053 "jdk/internal/util/Preconditions" "SIOOBE_FORMATTER" "Ljava/util/function/BiFunction;" ∈ wsA := List.mem_filter.mpr ⟨List.mem_of_getElem? (i := 413) (by decide +kernel), by decide +kernel⟩
theorem kw_Str_1059 : kWS RZ6 1059 y_Pc_checkIndex (.code y_Pc_checkIndex cb_Pc_checkIndex 3 (some .int)) 3 := ⟨gS (List.mem_filter.mpr ⟨List.mem_of_getElem? (i := 702) (by decide +kernel), by decide +kernel⟩) (List.mem_filter.mpr ⟨List.mem_of_getElem? (i := 703) (by decide +kernel), by decide +kernel⟩) (List.mem_filter.mpr ⟨List.mem_of_getElem? (i := 119) (by decide +kernel), by decide +kernel⟩) (List.mem_filter.mpr ⟨List.mem_of_getElem? (i := 704) (by decide +kernel), by decide +kernel⟩), by decide, by decide, by decide +kernel⟩
theorem kw_Ob_105 : kWS RJ_Ob 105 y_Pc_checkIndex (.code y_Pc_checkIndex cb_Pc_checkIndex 3 (some .int)) 3 := ⟨gS (List.mem_filter.mpr ⟨List.mem_of_getElem? (i := 864) (by decide +kernel), by decide +kernel⟩) (List.mem_filter.mpr ⟨List.mem_of_getElem? (i := 703) (by decide +kernel), by decide +kernel⟩) (List.mem_filter.mpr ⟨List.mem_of_getElem? (i := 119) (by decide +kernel), by decide +kernel⟩) (List.mem_filter.mpr ⟨List.mem_of_getElem? (i := 704) (by decide +kernel), by decide +kernel⟩), by decide, by decide, by decide +kernel⟩
theorem kw_L1_9 : kWS RJ_L1 9 y_Str_checkIndex (.code y_Str_checkIndex cb_Str_checkIndex 2 none) 2 := ⟨gS (List.mem_filter.mpr ⟨List.mem_of_getElem? (i := 894) (by decide +kernel), by decide +kernel⟩) (List.mem_filter.mpr ⟨List.mem_of_getElem? (i := 700) (by decide +kernel), by decide +kernel⟩) (List.mem_filter.mpr ⟨List.mem_of_getElem? (i := 108) (by decide +kernel), by decide +kernel⟩) (List.mem_filter.mpr ⟨List.mem_of_getElem? (i := 701) (by decide +kernel), by decide +kernel⟩), by decide, by decide, by decide +kernel⟩
theorem kw_Str_492 : kW RZ6 492 (cC 6) y_Str_isLatin1 (.code y_Str_isLatin1 cb_Str_isLatin1 1 (some .boolean)) 0 := ⟨gV (List.mem_filter.mpr ⟨List.mem_of_getElem? (i := 887) (by decide +kernel), by decide +kernel⟩) (List.mem_filter.mpr ⟨List.mem_of_getElem? (i := 888) (by decide +kernel), by decide +kernel⟩) (List.mem_filter.mpr ⟨List.mem_of_getElem? (i := 889) (by decide +kernel), by decide +kernel⟩) (List.mem_filter.mpr ⟨List.mem_of_getElem? (i := 108) (by decide +kernel), by decide +kernel⟩) (List.mem_filter.mpr ⟨List.mem_of_getElem? (i := 890) (by decide +kernel), by decide +kernel⟩), rfl, by decide, by decide, by decide +kernel⟩
theorem kw_Str_495 : kWS RZ6 495 y_L1_charAt (.code y_L1_charAt cb_L1_charAt 2 (some .char)) 2 := ⟨gS (List.mem_filter.mpr ⟨List.mem_of_getElem? (i := 891) (by decide +kernel), by decide +kernel⟩) (List.mem_filter.mpr ⟨List.mem_of_getElem? (i := 892) (by decide +kernel), by decide +kernel⟩) (List.mem_filter.mpr ⟨List.mem_of_getElem? (i := 120) (by decide +kernel), by decide +kernel⟩) (List.mem_filter.mpr ⟨List.mem_of_getElem? (i := 893) (by decide +kernel), by decide +kernel⟩), by decide, by decide, by decide +kernel⟩
theorem mC_Str_10 : Cond.classLink RZ6 10 (cC 6) ∈ wsA := List.mem_filter.mpr ⟨List.mem_of_getElem? (i := 759) (by decide +kernel), by decide +kernel⟩
theorem kw_Str_541 : kWS RZ6 541 y_L1_equals (.code y_L1_equals cb_L1_equals 3 (some .boolean)) 2 := ⟨gS (List.mem_filter.mpr ⟨List.mem_of_getElem? (i := 760) (by decide +kernel), by decide +kernel⟩) (List.mem_filter.mpr ⟨List.mem_of_getElem? (i := 761) (by decide +kernel), by decide +kernel⟩) (List.mem_filter.mpr ⟨List.mem_of_getElem? (i := 120) (by decide +kernel), by decide +kernel⟩) (List.mem_filter.mpr ⟨List.mem_of_getElem? (i := 762) (by decide +kernel), by decide +kernel⟩), by decide, by decide, by decide +kernel⟩
theorem mF_AL_48 : Cond.fieldLink RZ8 48 (cT 8 2).1 (cT 8 2).2.1 (cT 8 2).2.2.1 ∈ wsA := List.mem_filter.mpr ⟨List.mem_of_getElem? (i := 269) (by decide +kernel), by decide +kernel⟩
theorem mF_AL_9 : Cond.fieldLink RZ8 9 (cT 8 1).1 (cT 8 1).2.1 (cT 8 1).2.2.1 ∈ wsA := List.mem_filter.mpr ⟨List.mem_of_getElem? (i := 268) (by decide +kernel), by decide +kernel⟩
theorem kw_AL_118 : kWS RZ8 118 y_Ob_checkIndex (.code y_Ob_checkIndex cb_Ob_checkIndex 2 (some .int)) 2 := ⟨gS (List.mem_filter.mpr ⟨List.mem_of_getElem? (i := 861) (by decide +kernel), by decide +kernel⟩) (List.mem_filter.mpr ⟨List.mem_of_getElem? (i := 862) (by decide +kernel), by decide +kernel⟩) (List.mem_filter.mpr ⟨List.mem_of_getElem? (i := 124) (by decide +kernel), by decide +kernel⟩) (List.mem_filter.mpr ⟨List.mem_of_getElem? (i := 863) (by decide +kernel), by decide +kernel⟩), by decide, by decide, by decide +kernel⟩
theorem kw_AL_123 : kW RZ8 123 (cC 8) y_AL_elementData (.code y_AL_elementData cb_AL_elementData 2 (some (.object "java/lang/Object"))) 1 := ⟨gV (List.mem_filter.mpr ⟨List.mem_of_getElem? (i := 865) (by decide +kernel), by decide +kernel⟩) (List.mem_filter.mpr ⟨List.mem_of_getElem? (i := 866) (by decide +kernel), by decide +kernel⟩) (List.mem_filter.mpr ⟨List.mem_of_getElem? (i := 867) (by decide +kernel), by decide +kernel⟩) (List.mem_filter.mpr ⟨List.mem_of_getElem? (i := 112) (by decide +kernel), by decide +kernel⟩) (List.mem_filter.mpr ⟨List.mem_of_getElem? (i := 868) (by decide +kernel), by decide +kernel⟩), rfl, by decide, by decide, by decide +kernel⟩
theorem mO_AbC_1 : Cond.methodLink RJ_AbC 1 objectInit ∈ wsA := List.mem_filter.mpr ⟨List.mem_of_getElem? (i := 265) (by decide +kernel), by decide +kernel⟩
theorem mF_AbL_7 : Cond.fieldLink RJ_AbL 7 (cT 8 0).1 (cT 8 0).2.1 (cT 8 0).2.2.1 ∈ wsA := List.mem_filter.mpr ⟨List.mem_of_getElem? (i := 270) (by decide +kernel), by decide +kernel⟩
theorem kw_AbL_1 : kWI RJ_AbL 1 y_AbC_init (.code y_AbC_init cb_AbC_init 1 none) 0 := ⟨⟨List.mem_filter.mpr ⟨List.mem_of_getElem? (i := 264) (by decide +kernel), by decide +kernel⟩, List.mem_filter.mpr ⟨List.mem_of_getElem? (i := 110) (by decide +kernel), by decide +kernel⟩, List.mem_filter.mpr ⟨List.mem_of_getElem? (i := 262) (by decide +kernel), by decide +kernel⟩, List.mem_filter.mpr ⟨List.mem_of_getElem? (i := 263) (by decide +kernel), by decide +kernel⟩⟩, rfl, by decide, by decide, by decide +kernel⟩
theorem mF_AL_39 : Cond.fieldLink RZ8 39 "java/util/ArrayList" "DEFAULTCAPACITY_EMPTY_ELEMENTDATA" "[Ljava/lang/Object;" ∈ wsA := List.mem_filter.mpr ⟨List.mem_of_getElem? (i := 266) (by decide +kernel), by decide +kernel⟩
theorem kw_AL_1 : kWI RZ8 1 y_AbL_init (.code y_AbL_init cb_AbL_init 1 none) 0 := ⟨⟨List.mem_filter.mpr ⟨List.mem_of_getElem? (i := 261) (by decide +kernel), by decide +kernel⟩, List.mem_filter.mpr ⟨List.mem_of_getElem? (i := 111) (by decide +kernel), by decide +kernel⟩, List.mem_filter.mpr ⟨List.mem_of_getElem? (i := 259) (by decide +kernel), by decide +kernel⟩, List.mem_filter.mpr ⟨List.mem_of_getElem? (i := 260) (by decide +kernel), by decide +kernel⟩⟩, rfl, by decide, by decide, by decide +kernel⟩
theorem mF_AB_18 : Cond.fieldLink RJ_AB 18 "java/lang/String" "COMPACT_STRINGS" "Z" ∈ wsA := List.mem_filter.mpr ⟨List.mem_of_getElem? (i := 230) (by decide +kernel), by decide +kernel⟩
theorem mF_AB_22 : Cond.fieldLink RJ_AB 22 (cT 7 1).1 (cT 7 1).2.1 (cT 7 1).2.2.1 ∈ wsA := List.mem_filter.mpr ⟨List.mem_of_getElem? (i := 240) (by decide +kernel), by decide +kernel⟩
theorem mF_AB_15 : Cond.fieldLink RJ_AB 15 (cT 7 0).1 (cT 7 0).2.1 (cT 7 0).2.2.1 ∈ wsA := List.mem_filter.mpr ⟨List.mem_of_getElem? (i := 239) (by decide +kernel), by decide +kernel⟩
theorem mF_AB_79 : Cond.fieldLink RJ_AB 79 (cT 7 3).1 (cT 7 3).2.1 (cT 7 3).2.2.1 ∈ wsA := List.mem_filter.mpr ⟨List.mem_of_getElem? (i := 243) (by decide +kernel), by decide +kernel⟩
theorem mO_AB_3 : Cond.methodLink RJ_AB 3 objectInit ∈ wsA := List.mem_filter.mpr ⟨List.mem_of_getElem? (i := 229) (by decide +kernel), by decide +kernel⟩
theorem kw_SB_1 : kWI RZ7 1 y_AB_init (.code y_AB_init cb_AB_init 2 none) 1 := ⟨⟨List.mem_filter.mpr ⟨List.mem_of_getElem? (i := 228) (by decide +kernel), by decide +kernel⟩, List.mem_filter.mpr ⟨List.mem_of_getElem? (i := 106) (by decide +kernel), by decide +kernel⟩, List.mem_filter.mpr ⟨List.mem_of_getElem? (i := 226) (by decide +kernel), by decide +kernel⟩, List.mem_filter.mpr ⟨List.mem_of_getElem? (i := 227) (by decide +kernel), by decide +kernel⟩⟩, rfl, by decide, by decide, by decide +kernel⟩
theorem d_Str_coder_0 : decode cb_Str_coder 0 = .ok (.getstatic 38, 3) := by decide +kernel
theorem d_Str_coder_3 : decode cb_Str_coder 3 = .ok (.ifCond .eq 10, 3) := by decide +kernel
theorem d_Str_coder_6 : decode cb_Str_coder 6 = .ok (.aload_n 0, 1) := by decide +kernel
theorem d_Str_coder_7 : decode cb_Str_coder 7 = .ok (.getfield 15, 3) := by decide +kernel
theorem d_Str_coder_10 : decode cb_Str_coder 10 = .ok (.goto 4, 3) := by decide +kernel
theorem d_Str_coder_13 : decode cb_Str_coder 13 = .ok (.iconst 1, 1) := by decide +kernel
theorem d_Str_coder_14 : decode cb_Str_coder 14 = .ok (.ireturn, 1) := by decide +kernel
theorem d_Str_length_0 : decode cb_Str_length 0 = .ok (.aload_n 0, 1) := by decide +kernel
theorem d_Str_length_1 : decode cb_Str_length 1 = .ok (.getfield 9, 3) := by decide +kernel
theorem d_Str_length_4 : decode cb_Str_length 4 = .ok (.arraylength, 1) := by decide +kernel
theorem d_Str_length_5 : decode cb_Str_length 5 = .ok (.aload_n 0, 1) := by decide +kernel
theorem d_Str_length_6 : decode cb_Str_length 6 = .ok (.invokevirtual 335, 3) := by decide +kernel
theorem d_Str_length_9 : decode cb_Str_length 9 = .ok (.ishr, 1) := by decide +kernel
theorem d_Str_length_10 : decode cb_Str_length 10 = .ok (.ireturn, 1) := by decide +kernel
theorem d_Str_isEmpty_0 : decode cb_Str_isEmpty 0 = .ok (.aload_n 0, 1) := by decide +kernel
theorem d_Str_isEmpty_1 : decode cb_Str_isEmpty 1 = .ok (.getfield 9, 3) := by decide +kernel
theorem d_Str_isEmpty_4 : decode cb_Str_isEmpty 4 = .ok (.arraylength, 1) := by decide +kernel
theorem d_Str_isEmpty_5 : decode cb_Str_isEmpty 5 = .ok (.ifCond .ne 7, 3) := by decide +kernel
theorem d_Str_isEmpty_8 : decode cb_Str_isEmpty 8 = .ok (.iconst 1, 1) := by decide +kernel
theorem d_Str_isEmpty_9 : decode cb_Str_isEmpty 9 = .ok (.goto 4, 3) := by decide +kernel
theorem d_Str_isEmpty_12 : decode cb_Str_isEmpty 12 = .ok (.iconst 0, 1) := by decide +kernel
theorem d_Str_isEmpty_13 : decode cb_Str_isEmpty 13 = .ok (.ireturn, 1) := by decide +kernel
theorem d_Str_isLatin1_0 : decode cb_Str_isLatin1 0 = .ok (.getstatic 38, 3) := by decide +kernel
theorem d_Str_isLatin1_3 : decode cb_Str_isLatin1 3 = .ok (.ifCond .eq 14, 3) := by decide +kernel
theorem d_Str_isLatin1_6 : decode cb_Str_isLatin1 6 = .ok (.aload_n 0, 1) := by decide +kernel
theorem d_Str_isLatin1_7 : decode cb_Str_isLatin1 7 = .ok (.getfield 15, 3) := by decide +kernel
theorem d_Str_isLatin1_10 : decode cb_Str_isLatin1 10 = .ok (.ifCond .ne 7, 3) := by decide +kernel
theorem d_Str_isLatin1_13 : decode cb_Str_isLatin1 13 = .ok (.iconst 1, 1) := by decide +kernel
theorem d_Str_isLatin1_14 : decode cb_Str_isLatin1 14 = .ok (.goto 4, 3) := by decide +kernel
theorem d_Str_isLatin1_17 : decode cb_Str_isLatin1 17 = .ok (.iconst 0, 1) := by decide +kernel
theorem d_Str_isLatin1_18 : decode cb_Str_isLatin1 18 = .ok (.ireturn, 1) := by decide +kernel
theorem d_Pc_checkIndex_0 : decode cb_Pc_checkIndex 0 = .ok (.iload_n 0, 1) := by decide +kernel
theorem d_Pc_checkIndex_1 : decode cb_Pc_checkIndex 1 = .ok (.ifCond .lt 8, 3) := by decide +kernel
theorem d_Pc_checkIndex_4 : decode cb_Pc_checkIndex 4 = .ok (.iload_n 0, 1) := by decide +kernel
theorem d_Pc_checkIndex_5 : decode cb_Pc_checkIndex 5 = .ok (.iload_n 1, 1) := by decide +kernel
theorem d_Pc_checkIndex_6 : decode cb_Pc_checkIndex 6 = .ok (.if_icmp .lt 10, 3) := by decide +kernel
theorem d_Pc_checkIndex_9 : decode cb_Pc_checkIndex 9 = .ok (.aload_n 2, 1) := by decide +kernel
theorem d_Pc_checkIndex_10 : decode cb_Pc_checkIndex 10 = .ok (.iload_n 0, 1) := by decide +kernel
theorem d_Pc_checkIndex_11 : decode cb_Pc_checkIndex 11 = .ok (.iload_n 1, 1) := by decide +kernel
theorem d_Pc_checkIndex_12 : decode cb_Pc_checkIndex 12 = .ok (.invokestatic 95, 3) := by decide +kernel
theorem d_Pc_checkIndex_15 : decode cb_Pc_checkIndex 15 = .ok (.athrow, 1) := by decide +kernel
theorem d_Pc_checkIndex_16 : decode cb_Pc_checkIndex 16 = .ok (.iload_n 0, 1) := by decide +kernel
theorem d_Pc_checkIndex_17 : decode cb_Pc_checkIndex 17 = .ok (.ireturn, 1) := by decide +kernel
theorem d_Str_checkIndex_0 : decode cb_Str_checkIndex 0 = .ok (.iload_n 0, 1) := by decide +kernel
theorem d_Str_checkIndex_1 : decode cb_Str_checkIndex 1 = .ok (.iload_n 1, 1) := by decide +kernel
theorem d_Str_checkIndex_2 : decode cb_Str_checkIndex 2 = .ok (.getstatic 1053, 3) := by decide +kernel
theorem d_Str_checkIndex_5 : decode cb_Str_checkIndex 5 = .ok (.invokestatic 1059, 3) := by decide +kernel
theorem d_Str_checkIndex_8 : decode cb_Str_checkIndex 8 = .ok (.pop, 1) := by decide +kernel
theorem d_Str_checkIndex_9 : decode cb_Str_checkIndex 9 = .ok (.return_, 1) := by decide +kernel
theorem d_Ob_checkIndex_0 : decode cb_Ob_checkIndex 0 = .ok (.iload_n 0, 1) := by decide +kernel
theorem d_Ob_checkIndex_1 : decode cb_Ob_checkIndex 1 = .ok (.iload_n 1, 1) := by decide +kernel
theorem d_Ob_checkIndex_2 : decode cb_Ob_checkIndex 2 = .ok (.aconst_null, 1) := by decide +kernel
theorem d_Ob_checkIndex_3 : decode cb_Ob_checkIndex 3 = .ok (.invokestatic 105, 3) := by decide +kernel
theorem d_Ob_checkIndex_6 : decode cb_Ob_checkIndex 6 = .ok (.ireturn, 1) := by decide +kernel
theorem d_L1_charAt_0 : decode cb_L1_charAt 0 = .ok (.iload_n 1, 1) := by decide +kernel
theorem d_L1_charAt_1 : decode cb_L1_charAt 1 = .ok (.aload_n 0, 1) := by decide +kernel
theorem d_L1_charAt_2 : decode cb_L1_charAt 2 = .ok (.arraylength, 1) := by decide +kernel
theorem d_L1_charAt_3 : decode cb_L1_charAt 3 = .ok (.invokestatic 9, 3) := by decide +kernel
theorem d_L1_charAt_6 : decode cb_L1_charAt 6 = .ok (.aload_n 0, 1) := by decide +kernel
theorem d_L1_charAt_7 : decode cb_L1_charAt 7 = .ok (.iload_n 1, 1) := by decide +kernel
theorem d_L1_charAt_8 : decode cb_L1_charAt 8 = .ok (.baload, 1) := by decide +kernel
theorem d_L1_charAt_9 : decode cb_L1_charAt 9 = .ok (.sipush 255, 3) := by decide +kernel
theorem d_L1_charAt_12 : decode cb_L1_charAt 12 = .ok (.iand, 1) := by decide +kernel
theorem d_L1_charAt_13 : decode cb_L1_charAt 13 = .ok (.i2c, 1) := by decide +kernel
theorem d_L1_charAt_14 : decode cb_L1_charAt 14 = .ok (.ireturn, 1) := by decide +kernel
theorem d_Str_charAt_0 : decode cb_Str_charAt 0 = .ok (.aload_n 0, 1) := by decide +kernel
theorem d_Str_charAt_1 : decode cb_Str_charAt 1 = .ok (.invokevirtual 492, 3) := by decide +kernel
theorem d_Str_charAt_4 : decode cb_Str_charAt 4 = .ok (.ifCond .eq 12, 3) := by decide +kernel
theorem d_Str_charAt_7 : decode cb_Str_charAt 7 = .ok (.aload_n 0, 1) := by decide +kernel
theorem d_Str_charAt_8 : decode cb_Str_charAt 8 = .ok (.getfield 9, 3) := by decide +kernel
theorem d_Str_charAt_11 : decode cb_Str_charAt 11 = .ok (.iload_n 1, 1) := by decide +kernel
theorem d_Str_charAt_12 : decode cb_Str_charAt 12 = .ok (.invokestatic 495, 3) := by decide +kernel
theorem d_Str_charAt_15 : decode cb_Str_charAt 15 = .ok (.ireturn, 1) := by decide +kernel
theorem d_Str_charAt_16 : decode cb_Str_charAt 16 = .ok (.aload_n 0, 1) := by decide +kernel
theorem d_Str_charAt_17 : decode cb_Str_charAt 17 = .ok (.getfield 9, 3) := by decide +kernel
theorem d_Str_charAt_20 : decode cb_Str_charAt 20 = .ok (.iload_n 1, 1) := by decide +kernel
theorem d_Str_charAt_21 : decode cb_Str_charAt 21 = .ok (.invokestatic 498, 3) := by decide +kernel
theorem d_Str_charAt_24 : decode cb_Str_charAt 24 = .ok (.ireturn, 1) := by decide +kernel
theorem d_L1_equals_0 : decode cb_L1_equals 0 = .ok (.aload_n 0, 1) := by decide +kernel
theorem d_L1_equals_1 : decode cb_L1_equals 1 = .ok (.arraylength, 1) := by decide +kernel
theorem d_L1_equals_2 : decode cb_L1_equals 2 = .ok (.aload_n 1, 1) := by decide +kernel
theorem d_L1_equals_3 : decode cb_L1_equals 3 = .ok (.arraylength, 1) := by decide +kernel
theorem d_L1_equals_4 : decode cb_L1_equals 4 = .ok (.if_icmp .ne 30, 3) := by decide +kernel
theorem d_L1_equals_7 : decode cb_L1_equals 7 = .ok (.iconst 0, 1) := by decide +kernel
theorem d_L1_equals_8 : decode cb_L1_equals 8 = .ok (.istore_n 2, 1) := by decide +kernel
theorem d_L1_equals_9 : decode cb_L1_equals 9 = .ok (.iload_n 2, 1) := by decide +kernel
theorem d_L1_equals_10 : decode cb_L1_equals 10 = .ok (.aload_n 0, 1) := by decide +kernel
theorem d_L1_equals_11 : decode cb_L1_equals 11 = .ok (.arraylength, 1) := by decide +kernel
theorem d_L1_equals_12 : decode cb_L1_equals 12 = .ok (.if_icmp .ge 20, 3) := by decide +kernel
theorem d_L1_equals_15 : decode cb_L1_equals 15 = .ok (.aload_n 0, 1) := by decide +kernel
theorem d_L1_equals_16 : decode cb_L1_equals 16 = .ok (.iload_n 2, 1) := by decide +kernel
theorem d_L1_equals_17 : decode cb_L1_equals 17 = .ok (.baload, 1) := by decide +kernel
theorem d_L1_equals_18 : decode cb_L1_equals 18 = .ok (.aload_n 1, 1) := by decide +kernel
theorem d_L1_equals_19 : decode cb_L1_equals 19 = .ok (.iload_n 2, 1) := by decide +kernel
theorem d_L1_equals_20 : decode cb_L1_equals 20 = .ok (.baload, 1) := by decide +kernel
theorem d_L1_equals_21 : decode cb_L1_equals 21 = .ok (.if_icmp .eq 5, 3) := by decide +kernel
theorem d_L1_equals_24 : decode cb_L1_equals 24 = .ok (.iconst 0, 1) := by decide +kernel
theorem d_L1_equals_25 : decode cb_L1_equals 25 = .ok (.ireturn, 1) := by decide +kernel
theorem d_L1_equals_26 : decode cb_L1_equals 26 = .ok (.iinc 2 1, 3) := by decide +kernel
theorem d_L1_equals_29 : decode cb_L1_equals 29 = .ok (.goto (-20), 3) := by decide +kernel
theorem d_L1_equals_32 : decode cb_L1_equals 32 = .ok (.iconst 1, 1) := by decide +kernel
theorem d_L1_equals_33 : decode cb_L1_equals 33 = .ok (.ireturn, 1) := by decide +kernel
theorem d_L1_equals_34 : decode cb_L1_equals 34 = .ok (.iconst 0, 1) := by decide +kernel
theorem d_L1_equals_35 : decode cb_L1_equals 35 = .ok (.ireturn, 1) := by decide +kernel
theorem d_Str_equals_0 : decode cb_Str_equals 0 = .ok (.aload_n 0, 1) := by decide +kernel
theorem d_Str_equals_1 : decode cb_Str_equals 1 = .ok (.aload_n 1, 1) := by decide +kernel
theorem d_Str_equals_2 : decode cb_Str_equals 2 = .ok (.if_acmp .ne 5, 3) := by decide +kernel
theorem d_Str_equals_5 : decode cb_Str_equals 5 = .ok (.iconst 1, 1) := by decide +kernel
theorem d_Str_equals_6 : decode cb_Str_equals 6 = .ok (.ireturn, 1) := by decide +kernel
theorem d_Str_equals_7 : decode cb_Str_equals 7 = .ok (.aload_n 1, 1) := by decide +kernel
theorem d_Str_equals_8 : decode cb_Str_equals 8 = .ok (.instanceof 10, 3) := by decide +kernel
theorem d_Str_equals_11 : decode cb_Str_equals 11 = .ok (.ifCond .eq 43, 3) := by decide +kernel
theorem d_Str_equals_14 : decode cb_Str_equals 14 = .ok (.aload_n 1, 1) := by decide +kernel
theorem d_Str_equals_15 : decode cb_Str_equals 15 = .ok (.checkcast 10, 3) := by decide +kernel
theorem d_Str_equals_18 : decode cb_Str_equals 18 = .ok (.astore_n 2, 1) := by decide +kernel
theorem d_Str_equals_19 : decode cb_Str_equals 19 = .ok (.getstatic 38, 3) := by decide +kernel
theorem d_Str_equals_22 : decode cb_Str_equals 22 = .ok (.ifCond .eq 14, 3) := by decide +kernel
theorem d_Str_equals_25 : decode cb_Str_equals 25 = .ok (.aload_n 0, 1) := by decide +kernel
theorem d_Str_equals_26 : decode cb_Str_equals 26 = .ok (.getfield 15, 3) := by decide +kernel
theorem d_Str_equals_29 : decode cb_Str_equals 29 = .ok (.aload_n 2, 1) := by decide +kernel
theorem d_Str_equals_30 : decode cb_Str_equals 30 = .ok (.getfield 15, 3) := by decide +kernel
theorem d_Str_equals_33 : decode cb_Str_equals 33 = .ok (.if_icmp .ne 21, 3) := by decide +kernel
theorem d_Str_equals_36 : decode cb_Str_equals 36 = .ok (.aload_n 0, 1) := by decide +kernel
theorem d_Str_equals_37 : decode cb_Str_equals 37 = .ok (.getfield 9, 3) := by decide +kernel
theorem d_Str_equals_40 : decode cb_Str_equals 40 = .ok (.aload_n 2, 1) := by decide +kernel
theorem d_Str_equals_41 : decode cb_Str_equals 41 = .ok (.getfield 9, 3) := by decide +kernel
theorem d_Str_equals_44 : decode cb_Str_equals 44 = .ok (.invokestatic 541, 3) := by decide +kernel
theorem d_Str_equals_47 : decode cb_Str_equals 47 = .ok (.ifCond .eq 7, 3) := by decide +kernel
theorem d_Str_equals_50 : decode cb_Str_equals 50 = .ok (.iconst 1, 1) := by decide +kernel
theorem d_Str_equals_51 : decode cb_Str_equals 51 = .ok (.goto 4, 3) := by decide +kernel
theorem d_Str_equals_54 : decode cb_Str_equals 54 = .ok (.iconst 0, 1) := by decide +kernel
theorem d_Str_equals_55 : decode cb_Str_equals 55 = .ok (.ireturn, 1) := by decide +kernel
theorem d_Ma_abs_0 : decode cb_Ma_abs 0 = .ok (.iload_n 0, 1) := by decide +kernel
theorem d_Ma_abs_1 : decode cb_Ma_abs 1 = .ok (.ifCond .ge 8, 3) := by decide +kernel
theorem d_Ma_abs_4 : decode cb_Ma_abs 4 = .ok (.iload_n 0, 1) := by decide +kernel
theorem d_Ma_abs_5 : decode cb_Ma_abs 5 = .ok (.ineg, 1) := by decide +kernel
theorem d_Ma_abs_6 : decode cb_Ma_abs 6 = .ok (.goto 4, 3) := by decide +kernel
theorem d_Ma_abs_9 : decode cb_Ma_abs 9 = .ok (.iload_n 0, 1) := by decide +kernel
theorem d_Ma_abs_10 : decode cb_Ma_abs 10 = .ok (.ireturn, 1) := by decide +kernel
theorem d_AL_size_0 : decode cb_AL_size 0 = .ok (.aload_n 0, 1) := by decide +kernel
theorem d_AL_size_1 : decode cb_AL_size 1 = .ok (.getfield 48, 3) := by decide +kernel
theorem d_AL_size_4 : decode cb_AL_size 4 = .ok (.ireturn, 1) := by decide +kernel
theorem d_AL_elementData_0 : decode cb_AL_elementData 0 = .ok (.aload_n 0, 1) := by decide +kernel
theorem d_AL_elementData_1 : decode cb_AL_elementData 1 = .ok (.getfield 9, 3) := by decide +kernel
theorem d_AL_elementData_4 : decode cb_AL_elementData 4 = .ok (.iload_n 1, 1) := by decide +kernel
theorem d_AL_elementData_5 : decode cb_AL_elementData 5 = .ok (.aaload, 1) := by decide +kernel
theorem d_AL_elementData_6 : decode cb_AL_elementData 6 = .ok (.areturn, 1) := by decide +kernel
theorem d_AL_get_0 : decode cb_AL_get 0 = .ok (.iload_n 1, 1) := by decide +kernel
theorem d_AL_get_1 : decode cb_AL_get 1 = .ok (.aload_n 0, 1) := by decide +kernel
theorem d_AL_get_2 : decode cb_AL_get 2 = .ok (.getfield 48, 3) := by decide +kernel
theorem d_AL_get_5 : decode cb_AL_get 5 = .ok (.invokestatic 118, 3) := by decide +kernel
theorem d_AL_get_8 : decode cb_AL_get 8 = .ok (.pop, 1) := by decide +kernel
theorem d_AL_get_9 : decode cb_AL_get 9 = .ok (.aload_n 0, 1) := by decide +kernel
theorem d_AL_get_10 : decode cb_AL_get 10 = .ok (.iload_n 1, 1) := by decide +kernel
theorem d_AL_get_11 : decode cb_AL_get 11 = .ok (.invokevirtual 123, 3) := by decide +kernel
theorem d_AL_get_14 : decode cb_AL_get 14 = .ok (.areturn, 1) := by decide +kernel
theorem d_AbC_init_0 : decode cb_AbC_init 0 = .ok (.aload_n 0, 1) := by decide +kernel
theorem d_AbC_init_1 : decode cb_AbC_init 1 = .ok (.invokespecial 1, 3) := by decide +kernel
theorem d_AbC_init_4 : decode cb_AbC_init 4 = .ok (.return_, 1) := by decide +kernel
theorem d_AbL_init_0 : decode cb_AbL_init 0 = .ok (.aload_n 0, 1) := by decide +kernel
theorem d_AbL_init_1 : decode cb_AbL_init 1 = .ok (.invokespecial 1, 3) := by decide +kernel
theorem d_AbL_init_4 : decode cb_AbL_init 4 = .ok (.aload_n 0, 1) := by decide +kernel
theorem d_AbL_init_5 : decode cb_AbL_init 5 = .ok (.iconst 0, 1) := by decide +kernel
theorem d_AbL_init_6 : decode cb_AbL_init 6 = .ok (.putfield 7, 3) := by decide +kernel
theorem d_AbL_init_9 : decode cb_AbL_init 9 = .ok (.return_, 1) := by decide +kernel
theorem d_AL_init_0 : decode cb_AL_init 0 = .ok (.aload_n 0, 1) := by decide +kernel
theorem d_AL_init_1 : decode cb_AL_init 1 = .ok (.invokespecial 1, 3) := by decide +kernel
theorem d_AL_init_4 : decode cb_AL_init 4 = .ok (.aload_n 0, 1) := by decide +kernel
theorem d_AL_init_5 : decode cb_AL_init 5 = .ok (.getstatic 39, 3) := by decide +kernel
theorem d_AL_init_8 : decode cb_AL_init 8 = .ok (.putfield 9, 3) := by decide +kernel
theorem d_AL_init_11 : decode cb_AL_init 11 = .ok (.return_, 1) := by decide +kernel
theorem d_AB_isLatin1_0 : decode cb_AB_isLatin1 0 = .ok (.getstatic 18, 3) := by decide +kernel
theorem d_AB_isLatin1_3 : decode cb_AB_isLatin1 3 = .ok (.ifCond .eq 14, 3) := by decide +kernel
theorem d_AB_isLatin1_6 : decode cb_AB_isLatin1 6 = .ok (.aload_n 0, 1) := by decide +kernel
theorem d_AB_isLatin1_7 : decode cb_AB_isLatin1 7 = .ok (.getfield 22, 3) := by decide +kernel
theorem d_AB_isLatin1_10 : decode cb_AB_isLatin1 10 = .ok (.ifCond .ne 7, 3) := by decide +kernel
theorem d_AB_isLatin1_13 : decode cb_AB_isLatin1 13 = .ok (.iconst 1, 1) := by decide +kernel
theorem d_AB_isLatin1_14 : decode cb_AB_isLatin1 14 = .ok (.goto 4, 3) := by decide +kernel
theorem d_AB_isLatin1_17 : decode cb_AB_isLatin1 17 = .ok (.iconst 0, 1) := by decide +kernel
theorem d_AB_isLatin1_18 : decode cb_AB_isLatin1 18 = .ok (.ireturn, 1) := by decide +kernel
theorem d_AB_getValue_0 : decode cb_AB_getValue 0 = .ok (.aload_n 0, 1) := by decide +kernel
theorem d_AB_getValue_1 : decode cb_AB_getValue 1 = .ok (.getfield 15, 3) := by decide +kernel
theorem d_AB_getValue_4 : decode cb_AB_getValue 4 = .ok (.areturn, 1) := by decide +kernel
theorem d_AB_length_0 : decode cb_AB_length 0 = .ok (.aload_n 0, 1) := by decide +kernel
theorem d_AB_length_1 : decode cb_AB_length 1 = .ok (.getfield 79, 3) := by decide +kernel
theorem d_AB_length_4 : decode cb_AB_length 4 = .ok (.ireturn, 1) := by decide +kernel
theorem d_L1_canEncode_0 : decode cb_L1_canEncode 0 = .ok (.iload_n 0, 1) := by decide +kernel
theorem d_L1_canEncode_1 : decode cb_L1_canEncode 1 = .ok (.sipush 255, 3) := by decide +kernel
theorem d_L1_canEncode_4 : decode cb_L1_canEncode 4 = .ok (.if_icmp .gt 7, 3) := by decide +kernel
theorem d_L1_canEncode_7 : decode cb_L1_canEncode 7 = .ok (.iconst 1, 1) := by decide +kernel
theorem d_L1_canEncode_8 : decode cb_L1_canEncode 8 = .ok (.goto 4, 3) := by decide +kernel
theorem d_L1_canEncode_11 : decode cb_L1_canEncode 11 = .ok (.iconst 0, 1) := by decide +kernel
theorem d_L1_canEncode_12 : decode cb_L1_canEncode 12 = .ok (.ireturn, 1) := by decide +kernel
theorem d_AB_init_0 : decode cb_AB_init 0 = .ok (.aload_n 0, 1) := by decide +kernel
theorem d_AB_init_1 : decode cb_AB_init 1 = .ok (.invokespecial 3, 3) := by decide +kernel
theorem d_AB_init_4 : decode cb_AB_init 4 = .ok (.getstatic 18, 3) := by decide +kernel
theorem d_AB_init_7 : decode cb_AB_init 7 = .ok (.ifCond .eq 18, 3) := by decide +kernel
theorem d_AB_init_10 : decode cb_AB_init 10 = .ok (.aload_n 0, 1) := by decide +kernel
theorem d_AB_init_11 : decode cb_AB_init 11 = .ok (.iload_n 1, 1) := by decide +kernel
theorem d_AB_init_12 : decode cb_AB_init 12 = .ok (.newarray .byte, 2) := by decide +kernel
theorem d_AB_init_14 : decode cb_AB_init 14 = .ok (.putfield 15, 3) := by decide +kernel
theorem d_AB_init_17 : decode cb_AB_init 17 = .ok (.aload_n 0, 1) := by decide +kernel
theorem d_AB_init_18 : decode cb_AB_init 18 = .ok (.iconst 0, 1) := by decide +kernel
theorem d_AB_init_19 : decode cb_AB_init 19 = .ok (.putfield 22, 3) := by decide +kernel
theorem d_AB_init_22 : decode cb_AB_init 22 = .ok (.goto 16, 3) := by decide +kernel
theorem d_AB_init_25 : decode cb_AB_init 25 = .ok (.aload_n 0, 1) := by decide +kernel
theorem d_AB_init_26 : decode cb_AB_init 26 = .ok (.iload_n 1, 1) := by decide +kernel
theorem d_AB_init_27 : decode cb_AB_init 27 = .ok (.invokestatic 26, 3) := by decide +kernel
theorem d_AB_init_30 : decode cb_AB_init 30 = .ok (.putfield 15, 3) := by decide +kernel
theorem d_AB_init_33 : decode cb_AB_init 33 = .ok (.aload_n 0, 1) := by decide +kernel
theorem d_AB_init_34 : decode cb_AB_init 34 = .ok (.iconst 1, 1) := by decide +kernel
theorem d_AB_init_35 : decode cb_AB_init 35 = .ok (.putfield 22, 3) := by decide +kernel
theorem d_AB_init_38 : decode cb_AB_init 38 = .ok (.return_, 1) := by decide +kernel
theorem d_SB_init_0 : decode cb_SB_init 0 = .ok (.aload_n 0, 1) := by decide +kernel
theorem d_SB_init_1 : decode cb_SB_init 1 = .ok (.bipush 16, 2) := by decide +kernel
theorem d_SB_init_3 : decode cb_SB_init 3 = .ok (.invokespecial 1, 3) := by decide +kernel
theorem d_SB_init_6 : decode cb_SB_init 6 = .ok (.return_, 1) := by decide +kernel
