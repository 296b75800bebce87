abbrev cb_R_init : ByteArray := prog_4_method_1_code
def y_R_init : MethodName := ⟨RZ4, "<init>", "([CI)V"⟩
abbrev cb_R_readQuoted : ByteArray := prog_4_method_16_code
def y_R_readQuoted : MethodName := ⟨RZ4, "readQuoted", "()Ljava/lang/String;"⟩
abbrev cb_R_readPlainlyQuoted : ByteArray := prog_4_method_17_code
def y_R_readPlainlyQuoted : MethodName := ⟨RZ4, "readPlainlyQuoted", "()Ljava/lang/String;"⟩
abbrev cb_R_readBare : ByteArray := prog_4_method_20_code
def y_R_readBare : MethodName := ⟨RZ4, "readBare", "()Ljava/lang/String;"⟩
abbrev cb_R_readString : ByteArray := prog_4_method_15_code
def y_R_readString : MethodName := ⟨RZ4, "readString", "()LTableText$Node;"⟩
abbrev cb_R_readPath : ByteArray := prog_4_method_6_code
def y_R_readPath : MethodName := ⟨RZ4, "readPath", "()LTableText$Step;"⟩
abbrev cb_R_readHeader : ByteArray := prog_4_method_4_code
def y_R_readHeader : MethodName := ⟨RZ4, "readHeader", "()Z"⟩
abbrev cb_R_dottedTable : ByteArray := prog_4_method_7_code
def y_R_dottedTable : MethodName := ⟨RZ4, "dottedTable", "(LTableText$Node;LTableText$Step;)LTableText$Node;"⟩
theorem mO_R_3 : Cond.methodLink RZ4 3 objectInit ∈ wsA := List.mem_filter.mpr ⟨List.mem_of_getElem? (i := 220) (by decide +kernel), by decide +kernel⟩
theorem mC_R_19 : Cond.classLink RZ4 19 (cC 7) ∈ wsA := List.mem_filter.mpr ⟨List.mem_of_getElem? (i := 221) (by decide +kernel), by decide +kernel⟩
theorem mI_7 : Cond.instantiable (cC 7) 4 ∈ wsA := List.mem_filter.mpr ⟨List.mem_of_getElem? (i := 222) (by decide +kernel), by decide +kernel⟩
theorem mN_7 : Cond.initialized (cC 7) ∈ wsA := List.mem_filter.mpr ⟨List.mem_of_getElem? (i := 107) (by decide +kernel), by decide +kernel⟩
theorem mF_R_22 : Cond.fieldLink RZ4 22 (cT 4 2).1 (cT 4 2).2.1 (cT 4 2).2.2.1 ∈ wsA := List.mem_filter.mpr ⟨List.mem_of_getElem? (i := 284) (by decide +kernel), by decide +kernel⟩
theorem mC_R_26 : Cond.classLink RZ4 26 (cC 8) ∈ wsA := List.mem_filter.mpr ⟨List.mem_of_getElem? (i := 254) (by decide +kernel), by decide +kernel⟩
theorem mI_8 : Cond.instantiable (cC 8) 3 ∈ wsA := List.mem_filter.mpr ⟨List.mem_of_getElem? (i := 255) (by decide +kernel), by decide +kernel⟩
theorem mN_8 : Cond.initialized (cC 8) ∈ wsA := List.mem_filter.mpr ⟨List.mem_of_getElem? (i := 112) (by decide +kernel), by decide +kernel⟩
theorem mF_R_29 : Cond.fieldLink RZ4 29 (cT 4 3).1 (cT 4 3).2.1 (cT 4 3).2.2.1 ∈ wsA := List.mem_filter.mpr ⟨List.mem_of_getElem? (i := 285) (by decide +kernel), by decide +kernel⟩
theorem mF_R_42 : Cond.fieldLink RZ4 42 (cT 4 5).1 (cT 4 5).2.1 (cT 4 5).2.2.1 ∈ wsA := List.mem_filter.mpr ⟨List.mem_of_getElem? (i := 287) (by decide +kernel), by decide +kernel⟩
theorem kw_R_21 : kWI RZ4 21 y_SB_init (.code y_SB_init cb_SB_init 1 none) 0 := ⟨⟨List.mem_filter.mpr ⟨List.mem_of_getElem? (i := 225) (by decide +kernel), by decide +kernel⟩, List.mem_filter.mpr ⟨List.mem_of_getElem? (i := 107) (by decide +kernel), by decide +kernel⟩, List.mem_filter.mpr ⟨List.mem_of_getElem? (i := 223) (by decide +kernel), by decide +kernel⟩, List.mem_filter.mpr ⟨List.mem_of_getElem? (i := 224) (by decide +kernel), by decide +kernel⟩⟩, rfl, by decide, by decide, by decide +kernel⟩
theorem kw_R_28 : kWI RZ4 28 y_AL_init (.code y_AL_init cb_AL_init 1 none) 0 := ⟨⟨List.mem_filter.mpr ⟨List.mem_of_getElem? (i := 258) (by decide +kernel), by decide +kernel⟩, List.mem_filter.mpr ⟨List.mem_of_getElem? (i := 112) (by decide +kernel), by decide +kernel⟩, List.mem_filter.mpr ⟨List.mem_of_getElem? (i := 256) (by decide +kernel), by decide +kernel⟩, List.mem_filter.mpr ⟨List.mem_of_getElem? (i := 257) (by decide +kernel), by decide +kernel⟩⟩, rfl, by decide, by decide, by decide +kernel⟩
theorem kw_R_209 : kW RZ4 209 (cC 7) y_SB_append (.code y_SB_append cb_SB_append 2 (some (.object "java/lang/StringBuilder"))) 1 := ⟨gV (List.mem_filter.mpr ⟨List.mem_of_getElem? (i := 683) (by decide +kernel), by decide +kernel⟩) (List.mem_filter.mpr ⟨List.mem_of_getElem? (i := 684) (by decide +kernel), by decide +kernel⟩) (List.mem_filter.mpr ⟨List.mem_of_getElem? (i := 685) (by decide +kernel), by decide +kernel⟩) (List.mem_filter.mpr ⟨List.mem_of_getElem? (i := 107) (by decide +kernel), by decide +kernel⟩) (List.mem_filter.mpr ⟨List.mem_of_getElem? (i := 686) (by decide +kernel), by decide +kernel⟩), rfl, by decide, by decide, by decide +kernel⟩
theorem kw_R_213 : kW RZ4 213 (cC 7) y_SB_toString (.code y_SB_toString cb_SB_toString 1 (some (.object "java/lang/String"))) 0 := ⟨gV (List.mem_filter.mpr ⟨List.mem_of_getElem? (i := 709) (by decide +kernel), by decide +kernel⟩) (List.mem_filter.mpr ⟨List.mem_of_getElem? (i := 496) (by decide +kernel), by decide +kernel⟩) (List.mem_filter.mpr ⟨List.mem_of_getElem? (i := 497) (by decide +kernel), by decide +kernel⟩) (List.mem_filter.mpr ⟨List.mem_of_getElem? (i := 107) (by decide +kernel), by decide +kernel⟩) (List.mem_filter.mpr ⟨List.mem_of_getElem? (i := 498) (by decide +kernel), by decide +kernel⟩), rfl, by decide, by decide, by decide +kernel⟩
theorem kw_R_201 : kW RZ4 201 (cC 7) y_SB_length (.code y_SB_length cb_SB_length 1 (some .int)) 0 := ⟨gV (List.mem_filter.mpr ⟨List.mem_of_getElem? (i := 675) (by decide +kernel), by decide +kernel⟩) (List.mem_filter.mpr ⟨List.mem_of_getElem? (i := 517) (by decide +kernel), by decide +kernel⟩) (List.mem_filter.mpr ⟨List.mem_of_getElem? (i := 1453) (by decide +kernel), by decide +kernel⟩) (List.mem_filter.mpr ⟨List.mem_of_getElem? (i := 107) (by decide +kernel), by decide +kernel⟩) (List.mem_filter.mpr ⟨List.mem_of_getElem? (i := 518) (by decide +kernel), by decide +kernel⟩), rfl, by decide, by decide, by decide +kernel⟩
theorem kw_R_202 : kW RZ4 202 (cC 4) y_R_goesOnInString (.code y_R_goesOnInString cb_R_goesOnInString 2 (some .boolean)) 1 := ⟨gV (List.mem_filter.mpr ⟨List.mem_of_getElem? (i := 676) (by decide +kernel), by decide +kernel⟩) (List.mem_filter.mpr ⟨List.mem_of_getElem? (i := 678) (by decide +kernel), by decide +kernel⟩) (List.mem_filter.mpr ⟨List.mem_of_getElem? (i := 7) (by decide +kernel), by decide +kernel⟩) (List.mem_filter.mpr ⟨List.mem_of_getElem? (i := 105) (by decide +kernel), by decide +kernel⟩) (List.mem_filter.mpr ⟨List.mem_of_getElem? (i := 679) (by decide +kernel), by decide +kernel⟩), rfl, by decide, by decide, by decide +kernel⟩
theorem kw_R_205 : kWS RZ4 205 y_R_escaped (.code y_R_escaped cb_R_escaped 1 (some .char)) 1 := ⟨gS (List.mem_filter.mpr ⟨List.mem_of_getElem? (i := 680) (by decide +kernel), by decide +kernel⟩) (List.mem_filter.mpr ⟨List.mem_of_getElem? (i := 681) (by decide +kernel), by decide +kernel⟩) (List.mem_filter.mpr ⟨List.mem_of_getElem? (i := 105) (by decide +kernel), by decide +kernel⟩) (List.mem_filter.mpr ⟨List.mem_of_getElem? (i := 682) (by decide +kernel), by decide +kernel⟩), by decide, by decide, by decide +kernel⟩
theorem kw_R_197 : kW RZ4 197 (cC 7) y_SB_setLength (.code y_SB_setLength cb_SB_setLength 2 none) 1 := ⟨gV (List.mem_filter.mpr ⟨List.mem_of_getElem? (i := 335) (by decide +kernel), by decide +kernel⟩) (List.mem_filter.mpr ⟨List.mem_of_getElem? (i := 336) (by decide +kernel), by decide +kernel⟩) (List.mem_filter.mpr ⟨List.mem_of_getElem? (i := 337) (by decide +kernel), by decide +kernel⟩) (List.mem_filter.mpr ⟨List.mem_of_getElem? (i := 107) (by decide +kernel), by decide +kernel⟩) (List.mem_filter.mpr ⟨List.mem_of_getElem? (i := 338) (by decide +kernel), by decide +kernel⟩), rfl, by decide, by decide, by decide +kernel⟩
theorem kw_R_216 : kWN RZ4 216 "TableText" y_T_isBareLetter (.code y_T_isBareLetter cb_T_isBareLetter 1 (some .boolean)) 1 ∧ Cond.static y_T_isBareLetter ∈ wsA := ⟨⟨List.mem_filter.mpr ⟨List.mem_of_getElem? (i := 716) (by decide +kernel), by decide +kernel⟩, List.mem_filter.mpr ⟨List.mem_of_getElem? (i := 619) (by decide +kernel), by decide +kernel⟩, List.mem_filter.mpr ⟨List.mem_of_getElem? (i := 96) (by decide +kernel), by decide +kernel⟩, by decide, by decide, by decide +kernel⟩, List.mem_filter.mpr ⟨List.mem_of_getElem? (i := 715) (by decide +kernel), by decide +kernel⟩⟩
theorem nF_R_195 : Cond.fieldLinkNest RZ4 195 (cT 2 2).1 (cT 2 2).2.1 (cT 2 2).2.2.1 "TableText" ∈ nwA := List.mem_filter.mpr ⟨List.mem_of_getElem? (i := 69) (by decide +kernel), by decide +kernel⟩
theorem kw_R_188 : kW RZ4 188 (cC 4) y_R_readPlainlyQuoted (.code y_R_readPlainlyQuoted cb_R_readPlainlyQuoted 1 (some (.object "java/lang/String"))) 0 := ⟨gV (List.mem_filter.mpr ⟨List.mem_of_getElem? (i := 873) (by decide +kernel), by decide +kernel⟩) (List.mem_filter.mpr ⟨List.mem_of_getElem? (i := 875) (by decide +kernel), by decide +kernel⟩) (List.mem_filter.mpr ⟨List.mem_of_getElem? (i := 29) (by decide +kernel), by decide +kernel⟩) (List.mem_filter.mpr ⟨List.mem_of_getElem? (i := 105) (by decide +kernel), by decide +kernel⟩) (List.mem_filter.mpr ⟨List.mem_of_getElem? (i := 876) (by decide +kernel), by decide +kernel⟩), rfl, by decide, by decide, by decide +kernel⟩
theorem kw_R_117 : kW RZ4 117 (cC 4) y_R_readQuoted (.code y_R_readQuoted cb_R_readQuoted 3 (some (.object "java/lang/String"))) 0 := ⟨gV (List.mem_filter.mpr ⟨List.mem_of_getElem? (i := 331) (by decide +kernel), by decide +kernel⟩) (List.mem_filter.mpr ⟨List.mem_of_getElem? (i := 333) (by decide +kernel), by decide +kernel⟩) (List.mem_filter.mpr ⟨List.mem_of_getElem? (i := 5) (by decide +kernel), by decide +kernel⟩) (List.mem_filter.mpr ⟨List.mem_of_getElem? (i := 105) (by decide +kernel), by decide +kernel⟩) (List.mem_filter.mpr ⟨List.mem_of_getElem? (i := 334) (by decide +kernel), by decide +kernel⟩), rfl, by decide, by decide, by decide +kernel⟩
theorem mC_R_85 : Cond.classLink RZ4 85 (cC 3) ∈ wsA := List.mem_filter.mpr ⟨List.mem_of_getElem? (i := 721) (by decide +kernel), by decide +kernel⟩
theorem mI_3 : Cond.instantiable (cC 3) 3 ∈ wsA := List.mem_filter.mpr ⟨List.mem_of_getElem? (i := 722) (by decide +kernel), by decide +kernel⟩
theorem mN_3 : Cond.initialized (cC 3) ∈ wsA := List.mem_filter.mpr ⟨List.mem_of_getElem? (i := 123) (by decide +kernel), by decide +kernel⟩
theorem kw_R_51 : kW RZ4 51 (cC 4) y_R_skipBlanks (.code y_R_skipBlanks cb_R_skipBlanks 1 none) 0 := ⟨gV (List.mem_filter.mpr ⟨List.mem_of_getElem? (i := 312) (by decide +kernel), by decide +kernel⟩) (List.mem_filter.mpr ⟨List.mem_of_getElem? (i := 314) (by decide +kernel), by decide +kernel⟩) (List.mem_filter.mpr ⟨List.mem_of_getElem? (i := 1) (by decide +kernel), by decide +kernel⟩) (List.mem_filter.mpr ⟨List.mem_of_getElem? (i := 105) (by decide +kernel), by decide +kernel⟩) (List.mem_filter.mpr ⟨List.mem_of_getElem? (i := 315) (by decide +kernel), by decide +kernel⟩), rfl, by decide, by decide, by decide +kernel⟩
theorem kw_R_124 : kWN RZ4 124 "TableText" y_S_init (.code y_S_init cb_S_init 3 none) 2 ∧ y_S_init.name = "<init>" ∧ Cond.instanceMethod y_S_init ∈ wsA := ⟨⟨List.mem_filter.mpr ⟨List.mem_of_getElem? (i := 725) (by decide +kernel), by decide +kernel⟩, List.mem_filter.mpr ⟨List.mem_of_getElem? (i := 628) (by decide +kernel), by decide +kernel⟩, List.mem_filter.mpr ⟨List.mem_of_getElem? (i := 123) (by decide +kernel), by decide +kernel⟩, by decide, by decide, by decide +kernel⟩, rfl, List.mem_filter.mpr ⟨List.mem_of_getElem? (i := 724) (by decide +kernel), by decide +kernel⟩⟩
theorem kw_R_121 : kW RZ4 121 (cC 4) y_R_readBare (.code y_R_readBare cb_R_readBare 1 (some (.object "java/lang/String"))) 0 := ⟨gV (List.mem_filter.mpr ⟨List.mem_of_getElem? (i := 710) (by decide +kernel), by decide +kernel⟩) (List.mem_filter.mpr ⟨List.mem_of_getElem? (i := 712) (by decide +kernel), by decide +kernel⟩) (List.mem_filter.mpr ⟨List.mem_of_getElem? (i := 9) (by decide +kernel), by decide +kernel⟩) (List.mem_filter.mpr ⟨List.mem_of_getElem? (i := 105) (by decide +kernel), by decide +kernel⟩) (List.mem_filter.mpr ⟨List.mem_of_getElem? (i := 713) (by decide +kernel), by decide +kernel⟩), rfl, by decide, by decide, by decide +kernel⟩
theorem kw_R_76 : kW RZ4 76 (cC 4) y_R_readPath (.code y_R_readPath cb_R_readPath 8 (some (.object "TableText$Step"))) 0 := ⟨gV (List.mem_filter.mpr ⟨List.mem_of_getElem? (i := 327) (by decide +kernel), by decide +kernel⟩) (List.mem_filter.mpr ⟨List.mem_of_getElem? (i := 329) (by decide +kernel), by decide +kernel⟩) (List.mem_filter.mpr ⟨List.mem_of_getElem? (i := 4) (by decide +kernel), by decide +kernel⟩) (List.mem_filter.mpr ⟨List.mem_of_getElem? (i := 105) (by decide +kernel), by decide +kernel⟩) (List.mem_filter.mpr ⟨List.mem_of_getElem? (i := 330) (by decide +kernel), by decide +kernel⟩), rfl, by decide, by decide, by decide +kernel⟩
theorem kw_R_80 : kW RZ4 80 (cC 4) y_R_openTable (.code y_R_openTable cb_R_openTable 5 (some (.object "TableText$Node"))) 2 := ⟨gV (List.mem_filter.mpr ⟨List.mem_of_getElem? (i := 739) (by decide +kernel), by decide +kernel⟩) (List.mem_filter.mpr ⟨List.mem_of_getElem? (i := 741) (by decide +kernel), by decide +kernel⟩) (List.mem_filter.mpr ⟨List.mem_of_getElem? (i := 11) (by decide +kernel), by decide +kernel⟩) (List.mem_filter.mpr ⟨List.mem_of_getElem? (i := 105) (by decide +kernel), by decide +kernel⟩) (List.mem_filter.mpr ⟨List.mem_of_getElem? (i := 742) (by decide +kernel), by decide +kernel⟩), rfl, by decide, by decide, by decide +kernel⟩
theorem kw_R_134 : kW RZ4 134 (cC 8) y_AL_add (.code y_AL_add cb_AL_add 2 (some .boolean)) 1 := ⟨gV (List.mem_filter.mpr ⟨List.mem_of_getElem? (i := 790) (by decide +kernel), by decide +kernel⟩) (List.mem_filter.mpr ⟨List.mem_of_getElem? (i := 791) (by decide +kernel), by decide +kernel⟩) (List.mem_filter.mpr ⟨List.mem_of_getElem? (i := 792) (by decide +kernel), by decide +kernel⟩) (List.mem_filter.mpr ⟨List.mem_of_getElem? (i := 112) (by decide +kernel), by decide +kernel⟩) (List.mem_filter.mpr ⟨List.mem_of_getElem? (i := 793) (by decide +kernel), by decide +kernel⟩), rfl, by decide, by decide, by decide +kernel⟩
theorem d_R_init_0 : decode cb_R_init 0 = .ok (.aload_n 0, 1) := by decide +kernel
theorem d_R_init_1 : decode cb_R_init 1 = .ok (.invokespecial 3, 3) := by decide +kernel
theorem d_R_init_4 : decode cb_R_init 4 = .ok (.aload_n 0, 1) := by decide +kernel
theorem d_R_init_5 : decode cb_R_init 5 = .ok (.aload_n 1, 1) := by decide +kernel
theorem d_R_init_6 : decode cb_R_init 6 = .ok (.putfield 9, 3) := by decide +kernel
theorem d_R_init_9 : decode cb_R_init 9 = .ok (.aload_n 0, 1) := by decide +kernel
theorem d_R_init_10 : decode cb_R_init 10 = .ok (.iload_n 2, 1) := by decide +kernel
theorem d_R_init_11 : decode cb_R_init 11 = .ok (.putfield 15, 3) := by decide +kernel
theorem d_R_init_14 : decode cb_R_init 14 = .ok (.aload_n 0, 1) := by decide +kernel
theorem d_R_init_15 : decode cb_R_init 15 = .ok (.new 19, 3) := by decide +kernel
theorem d_R_init_18 : decode cb_R_init 18 = .ok (.dup, 1) := by decide +kernel
theorem d_R_init_19 : decode cb_R_init 19 = .ok (.invokespecial 21, 3) := by decide +kernel
theorem d_R_init_22 : decode cb_R_init 22 = .ok (.putfield 22, 3) := by decide +kernel
theorem d_R_init_25 : decode cb_R_init 25 = .ok (.aload_n 0, 1) := by decide +kernel
theorem d_R_init_26 : decode cb_R_init 26 = .ok (.new 26, 3) := by decide +kernel
theorem d_R_init_29 : decode cb_R_init 29 = .ok (.dup, 1) := by decide +kernel
theorem d_R_init_30 : decode cb_R_init 30 = .ok (.invokespecial 28, 3) := by decide +kernel
theorem d_R_init_33 : decode cb_R_init 33 = .ok (.putfield 29, 3) := by decide +kernel
theorem d_R_init_36 : decode cb_R_init 36 = .ok (.aload_n 0, 1) := by decide +kernel
theorem d_R_init_37 : decode cb_R_init 37 = .ok (.new 33, 3) := by decide +kernel
theorem d_R_init_40 : decode cb_R_init 40 = .ok (.dup, 1) := by decide +kernel
theorem d_R_init_41 : decode cb_R_init 41 = .ok (.bipush 7, 2) := by decide +kernel
theorem d_R_init_43 : decode cb_R_init 43 = .ok (.iconst 0, 1) := by decide +kernel
theorem d_R_init_44 : decode cb_R_init 44 = .ok (.invokespecial 35, 3) := by decide +kernel
theorem d_R_init_47 : decode cb_R_init 47 = .ok (.putfield 38, 3) := by decide +kernel
theorem d_R_init_50 : decode cb_R_init 50 = .ok (.aload_n 0, 1) := by decide +kernel
theorem d_R_init_51 : decode cb_R_init 51 = .ok (.aload_n 0, 1) := by decide +kernel
theorem d_R_init_52 : decode cb_R_init 52 = .ok (.getfield 38, 3) := by decide +kernel
theorem d_R_init_55 : decode cb_R_init 55 = .ok (.putfield 42, 3) := by decide +kernel
theorem d_R_init_58 : decode cb_R_init 58 = .ok (.aload_n 0, 1) := by decide +kernel
theorem d_R_init_59 : decode cb_R_init 59 = .ok (.iconst 0, 1) := by decide +kernel
theorem d_R_init_60 : decode cb_R_init 60 = .ok (.putfield 45, 3) := by decide +kernel
theorem d_R_init_63 : decode cb_R_init 63 = .ok (.aload_n 0, 1) := by decide +kernel
theorem d_R_init_64 : decode cb_R_init 64 = .ok (.iconst (-1), 1) := by decide +kernel
theorem d_R_init_65 : decode cb_R_init 65 = .ok (.putfield 48, 3) := by decide +kernel
theorem d_R_init_68 : decode cb_R_init 68 = .ok (.return_, 1) := by decide +kernel
theorem d_R_readQuoted_0 : decode cb_R_readQuoted 0 = .ok (.aload_n 0, 1) := by decide +kernel
theorem d_R_readQuoted_1 : decode cb_R_readQuoted 1 = .ok (.getfield 22, 3) := by decide +kernel
theorem d_R_readQuoted_4 : decode cb_R_readQuoted 4 = .ok (.iconst 0, 1) := by decide +kernel
theorem d_R_readQuoted_5 : decode cb_R_readQuoted 5 = .ok (.invokevirtual 197, 3) := by decide +kernel
theorem d_R_readQuoted_8 : decode cb_R_readQuoted 8 = .ok (.aload_n 0, 1) := by decide +kernel
theorem d_R_readQuoted_9 : decode cb_R_readQuoted 9 = .ok (.dup, 1) := by decide +kernel
theorem d_R_readQuoted_10 : decode cb_R_readQuoted 10 = .ok (.getfield 45, 3) := by decide +kernel
theorem d_R_readQuoted_13 : decode cb_R_readQuoted 13 = .ok (.iconst 1, 1) := by decide +kernel
theorem d_R_readQuoted_14 : decode cb_R_readQuoted 14 = .ok (.iadd, 1) := by decide +kernel
theorem d_R_readQuoted_15 : decode cb_R_readQuoted 15 = .ok (.putfield 45, 3) := by decide +kernel
theorem d_R_readQuoted_18 : decode cb_R_readQuoted 18 = .ok (.iconst 1, 1) := by decide +kernel
theorem d_R_readQuoted_19 : decode cb_R_readQuoted 19 = .ok (.istore_n 1, 1) := by decide +kernel
theorem d_R_readQuoted_20 : decode cb_R_readQuoted 20 = .ok (.iload_n 1, 1) := by decide +kernel
theorem d_R_readQuoted_21 : decode cb_R_readQuoted 21 = .ok (.ifCond .eq 94, 3) := by decide +kernel
theorem d_R_readQuoted_24 : decode cb_R_readQuoted 24 = .ok (.aload_n 0, 1) := by decide +kernel
theorem d_R_readQuoted_25 : decode cb_R_readQuoted 25 = .ok (.getfield 22, 3) := by decide +kernel
theorem d_R_readQuoted_28 : decode cb_R_readQuoted 28 = .ok (.invokevirtual 201, 3) := by decide +kernel
theorem d_R_readQuoted_31 : decode cb_R_readQuoted 31 = .ok (.bipush 30, 2) := by decide +kernel
theorem d_R_readQuoted_33 : decode cb_R_readQuoted 33 = .ok (.if_icmp .ge 82, 3) := by decide +kernel
theorem d_R_readQuoted_36 : decode cb_R_readQuoted 36 = .ok (.aload_n 0, 1) := by decide +kernel
theorem d_R_readQuoted_37 : decode cb_R_readQuoted 37 = .ok (.bipush 34, 2) := by decide +kernel
theorem d_R_readQuoted_39 : decode cb_R_readQuoted 39 = .ok (.invokevirtual 202, 3) := by decide +kernel
theorem d_R_readQuoted_42 : decode cb_R_readQuoted 42 = .ok (.ifCond .eq 73, 3) := by decide +kernel
theorem d_R_readQuoted_45 : decode cb_R_readQuoted 45 = .ok (.aload_n 0, 1) := by decide +kernel
theorem d_R_readQuoted_46 : decode cb_R_readQuoted 46 = .ok (.getfield 9, 3) := by decide +kernel
theorem d_R_readQuoted_49 : decode cb_R_readQuoted 49 = .ok (.aload_n 0, 1) := by decide +kernel
theorem d_R_readQuoted_50 : decode cb_R_readQuoted 50 = .ok (.getfield 45, 3) := by decide +kernel
theorem d_R_readQuoted_53 : decode cb_R_readQuoted 53 = .ok (.caload, 1) := by decide +kernel
theorem d_R_readQuoted_54 : decode cb_R_readQuoted 54 = .ok (.istore_n 2, 1) := by decide +kernel
theorem d_R_readQuoted_55 : decode cb_R_readQuoted 55 = .ok (.iload_n 2, 1) := by decide +kernel
theorem d_R_readQuoted_56 : decode cb_R_readQuoted 56 = .ok (.bipush 92, 2) := by decide +kernel
theorem d_R_readQuoted_58 : decode cb_R_readQuoted 58 = .ok (.if_icmp .ne 21, 3) := by decide +kernel
theorem d_R_readQuoted_61 : decode cb_R_readQuoted 61 = .ok (.aload_n 0, 1) := by decide +kernel
theorem d_R_readQuoted_62 : decode cb_R_readQuoted 62 = .ok (.dup, 1) := by decide +kernel
theorem d_R_readQuoted_63 : decode cb_R_readQuoted 63 = .ok (.getfield 45, 3) := by decide +kernel
theorem d_R_readQuoted_66 : decode cb_R_readQuoted 66 = .ok (.iconst 1, 1) := by decide +kernel
theorem d_R_readQuoted_67 : decode cb_R_readQuoted 67 = .ok (.iadd, 1) := by decide +kernel
theorem d_R_readQuoted_68 : decode cb_R_readQuoted 68 = .ok (.putfield 45, 3) := by decide +kernel
theorem d_R_readQuoted_71 : decode cb_R_readQuoted 71 = .ok (.aload_n 0, 1) := by decide +kernel
theorem d_R_readQuoted_72 : decode cb_R_readQuoted 72 = .ok (.invokevirtual 54, 3) := by decide +kernel
theorem d_R_readQuoted_75 : decode cb_R_readQuoted 75 = .ok (.invokestatic 205, 3) := by decide +kernel
theorem d_R_readQuoted_78 : decode cb_R_readQuoted 78 = .ok (.istore_n 2, 1) := by decide +kernel
theorem d_R_readQuoted_79 : decode cb_R_readQuoted 79 = .ok (.iload_n 2, 1) := by decide +kernel
theorem d_R_readQuoted_80 : decode cb_R_readQuoted 80 = .ok (.ifCond .eq 7, 3) := by decide +kernel
theorem d_R_readQuoted_83 : decode cb_R_readQuoted 83 = .ok (.iconst 1, 1) := by decide +kernel
theorem d_R_readQuoted_84 : decode cb_R_readQuoted 84 = .ok (.goto 4, 3) := by decide +kernel
theorem d_R_readQuoted_87 : decode cb_R_readQuoted 87 = .ok (.iconst 0, 1) := by decide +kernel
theorem d_R_readQuoted_88 : decode cb_R_readQuoted 88 = .ok (.istore_n 1, 1) := by decide +kernel
theorem d_R_readQuoted_89 : decode cb_R_readQuoted 89 = .ok (.iload_n 1, 1) := by decide +kernel
theorem d_R_readQuoted_90 : decode cb_R_readQuoted 90 = .ok (.ifCond .eq 22, 3) := by decide +kernel
theorem d_R_readQuoted_93 : decode cb_R_readQuoted 93 = .ok (.aload_n 0, 1) := by decide +kernel
theorem d_R_readQuoted_94 : decode cb_R_readQuoted 94 = .ok (.getfield 22, 3) := by decide +kernel
theorem d_R_readQuoted_97 : decode cb_R_readQuoted 97 = .ok (.iload_n 2, 1) := by decide +kernel
theorem d_R_readQuoted_98 : decode cb_R_readQuoted 98 = .ok (.invokevirtual 209, 3) := by decide +kernel
theorem d_R_readQuoted_101 : decode cb_R_readQuoted 101 = .ok (.pop, 1) := by decide +kernel
theorem d_R_readQuoted_102 : decode cb_R_readQuoted 102 = .ok (.aload_n 0, 1) := by decide +kernel
theorem d_R_readQuoted_103 : decode cb_R_readQuoted 103 = .ok (.dup, 1) := by decide +kernel
theorem d_R_readQuoted_104 : decode cb_R_readQuoted 104 = .ok (.getfield 45, 3) := by decide +kernel
theorem d_R_readQuoted_107 : decode cb_R_readQuoted 107 = .ok (.iconst 1, 1) := by decide +kernel
theorem d_R_readQuoted_108 : decode cb_R_readQuoted 108 = .ok (.iadd, 1) := by decide +kernel
theorem d_R_readQuoted_109 : decode cb_R_readQuoted 109 = .ok (.putfield 45, 3) := by decide +kernel
theorem d_R_readQuoted_112 : decode cb_R_readQuoted 112 = .ok (.goto (-92), 3) := by decide +kernel
theorem d_R_readQuoted_115 : decode cb_R_readQuoted 115 = .ok (.aload_n 0, 1) := by decide +kernel
theorem d_R_readQuoted_116 : decode cb_R_readQuoted 116 = .ok (.bipush 34, 2) := by decide +kernel
theorem d_R_readQuoted_118 : decode cb_R_readQuoted 118 = .ok (.invokevirtual 73, 3) := by decide +kernel
theorem d_R_readQuoted_121 : decode cb_R_readQuoted 121 = .ok (.ifCond .eq 13, 3) := by decide +kernel
theorem d_R_readQuoted_124 : decode cb_R_readQuoted 124 = .ok (.aload_n 0, 1) := by decide +kernel
theorem d_R_readQuoted_125 : decode cb_R_readQuoted 125 = .ok (.getfield 22, 3) := by decide +kernel
theorem d_R_readQuoted_128 : decode cb_R_readQuoted 128 = .ok (.invokevirtual 213, 3) := by decide +kernel
theorem d_R_readQuoted_131 : decode cb_R_readQuoted 131 = .ok (.goto 4, 3) := by decide +kernel
theorem d_R_readQuoted_134 : decode cb_R_readQuoted 134 = .ok (.aconst_null, 1) := by decide +kernel
theorem d_R_readQuoted_135 : decode cb_R_readQuoted 135 = .ok (.areturn, 1) := by decide +kernel
theorem d_R_readPlainlyQuoted_0 : decode cb_R_readPlainlyQuoted 0 = .ok (.aload_n 0, 1) := by decide +kernel
theorem d_R_readPlainlyQuoted_1 : decode cb_R_readPlainlyQuoted 1 = .ok (.getfield 22, 3) := by decide +kernel
theorem d_R_readPlainlyQuoted_4 : decode cb_R_readPlainlyQuoted 4 = .ok (.iconst 0, 1) := by decide +kernel
theorem d_R_readPlainlyQuoted_5 : decode cb_R_readPlainlyQuoted 5 = .ok (.invokevirtual 197, 3) := by decide +kernel
theorem d_R_readPlainlyQuoted_8 : decode cb_R_readPlainlyQuoted 8 = .ok (.aload_n 0, 1) := by decide +kernel
theorem d_R_readPlainlyQuoted_9 : decode cb_R_readPlainlyQuoted 9 = .ok (.dup, 1) := by decide +kernel
theorem d_R_readPlainlyQuoted_10 : decode cb_R_readPlainlyQuoted 10 = .ok (.getfield 45, 3) := by decide +kernel
theorem d_R_readPlainlyQuoted_13 : decode cb_R_readPlainlyQuoted 13 = .ok (.iconst 1, 1) := by decide +kernel
theorem d_R_readPlainlyQuoted_14 : decode cb_R_readPlainlyQuoted 14 = .ok (.iadd, 1) := by decide +kernel
theorem d_R_readPlainlyQuoted_15 : decode cb_R_readPlainlyQuoted 15 = .ok (.putfield 45, 3) := by decide +kernel
theorem d_R_readPlainlyQuoted_18 : decode cb_R_readPlainlyQuoted 18 = .ok (.aload_n 0, 1) := by decide +kernel
theorem d_R_readPlainlyQuoted_19 : decode cb_R_readPlainlyQuoted 19 = .ok (.getfield 22, 3) := by decide +kernel
theorem d_R_readPlainlyQuoted_22 : decode cb_R_readPlainlyQuoted 22 = .ok (.invokevirtual 201, 3) := by decide +kernel
theorem d_R_readPlainlyQuoted_25 : decode cb_R_readPlainlyQuoted 25 = .ok (.bipush 30, 2) := by decide +kernel
theorem d_R_readPlainlyQuoted_27 : decode cb_R_readPlainlyQuoted 27 = .ok (.if_icmp .ge 42, 3) := by decide +kernel
theorem d_R_readPlainlyQuoted_30 : decode cb_R_readPlainlyQuoted 30 = .ok (.aload_n 0, 1) := by decide +kernel
theorem d_R_readPlainlyQuoted_31 : decode cb_R_readPlainlyQuoted 31 = .ok (.bipush 39, 2) := by decide +kernel
theorem d_R_readPlainlyQuoted_33 : decode cb_R_readPlainlyQuoted 33 = .ok (.invokevirtual 202, 3) := by decide +kernel
theorem d_R_readPlainlyQuoted_36 : decode cb_R_readPlainlyQuoted 36 = .ok (.ifCond .eq 33, 3) := by decide +kernel
theorem d_R_readPlainlyQuoted_39 : decode cb_R_readPlainlyQuoted 39 = .ok (.aload_n 0, 1) := by decide +kernel
theorem d_R_readPlainlyQuoted_40 : decode cb_R_readPlainlyQuoted 40 = .ok (.getfield 22, 3) := by decide +kernel
theorem d_R_readPlainlyQuoted_43 : decode cb_R_readPlainlyQuoted 43 = .ok (.aload_n 0, 1) := by decide +kernel
theorem d_R_readPlainlyQuoted_44 : decode cb_R_readPlainlyQuoted 44 = .ok (.getfield 9, 3) := by decide +kernel
theorem d_R_readPlainlyQuoted_47 : decode cb_R_readPlainlyQuoted 47 = .ok (.aload_n 0, 1) := by decide +kernel
theorem d_R_readPlainlyQuoted_48 : decode cb_R_readPlainlyQuoted 48 = .ok (.getfield 45, 3) := by decide +kernel
theorem d_R_readPlainlyQuoted_51 : decode cb_R_readPlainlyQuoted 51 = .ok (.caload, 1) := by decide +kernel
theorem d_R_readPlainlyQuoted_52 : decode cb_R_readPlainlyQuoted 52 = .ok (.invokevirtual 209, 3) := by decide +kernel
theorem d_R_readPlainlyQuoted_55 : decode cb_R_readPlainlyQuoted 55 = .ok (.pop, 1) := by decide +kernel
theorem d_R_readPlainlyQuoted_56 : decode cb_R_readPlainlyQuoted 56 = .ok (.aload_n 0, 1) := by decide +kernel
theorem d_R_readPlainlyQuoted_57 : decode cb_R_readPlainlyQuoted 57 = .ok (.dup, 1) := by decide +kernel
theorem d_R_readPlainlyQuoted_58 : decode cb_R_readPlainlyQuoted 58 = .ok (.getfield 45, 3) := by decide +kernel
theorem d_R_readPlainlyQuoted_61 : decode cb_R_readPlainlyQuoted 61 = .ok (.iconst 1, 1) := by decide +kernel
theorem d_R_readPlainlyQuoted_62 : decode cb_R_readPlainlyQuoted 62 = .ok (.iadd, 1) := by decide +kernel
theorem d_R_readPlainlyQuoted_63 : decode cb_R_readPlainlyQuoted 63 = .ok (.putfield 45, 3) := by decide +kernel
theorem d_R_readPlainlyQuoted_66 : decode cb_R_readPlainlyQuoted 66 = .ok (.goto (-48), 3) := by decide +kernel
theorem d_R_readPlainlyQuoted_69 : decode cb_R_readPlainlyQuoted 69 = .ok (.aload_n 0, 1) := by decide +kernel
theorem d_R_readPlainlyQuoted_70 : decode cb_R_readPlainlyQuoted 70 = .ok (.bipush 39, 2) := by decide +kernel
theorem d_R_readPlainlyQuoted_72 : decode cb_R_readPlainlyQuoted 72 = .ok (.invokevirtual 73, 3) := by decide +kernel
theorem d_R_readPlainlyQuoted_75 : decode cb_R_readPlainlyQuoted 75 = .ok (.ifCond .eq 13, 3) := by decide +kernel
theorem d_R_readPlainlyQuoted_78 : decode cb_R_readPlainlyQuoted 78 = .ok (.aload_n 0, 1) := by decide +kernel
theorem d_R_readPlainlyQuoted_79 : decode cb_R_readPlainlyQuoted 79 = .ok (.getfield 22, 3) := by decide +kernel
theorem d_R_readPlainlyQuoted_82 : decode cb_R_readPlainlyQuoted 82 = .ok (.invokevirtual 213, 3) := by decide +kernel
theorem d_R_readPlainlyQuoted_85 : decode cb_R_readPlainlyQuoted 85 = .ok (.goto 4, 3) := by decide +kernel
theorem d_R_readPlainlyQuoted_88 : decode cb_R_readPlainlyQuoted 88 = .ok (.aconst_null, 1) := by decide +kernel
theorem d_R_readPlainlyQuoted_89 : decode cb_R_readPlainlyQuoted 89 = .ok (.areturn, 1) := by decide +kernel
theorem d_R_readBare_0 : decode cb_R_readBare 0 = .ok (.aload_n 0, 1) := by decide +kernel
theorem d_R_readBare_1 : decode cb_R_readBare 1 = .ok (.getfield 22, 3) := by decide +kernel
theorem d_R_readBare_4 : decode cb_R_readBare 4 = .ok (.iconst 0, 1) := by decide +kernel
theorem d_R_readBare_5 : decode cb_R_readBare 5 = .ok (.invokevirtual 197, 3) := by decide +kernel
theorem d_R_readBare_8 : decode cb_R_readBare 8 = .ok (.aload_n 0, 1) := by decide +kernel
theorem d_R_readBare_9 : decode cb_R_readBare 9 = .ok (.getfield 22, 3) := by decide +kernel
theorem d_R_readBare_12 : decode cb_R_readBare 12 = .ok (.invokevirtual 201, 3) := by decide +kernel
theorem d_R_readBare_15 : decode cb_R_readBare 15 = .ok (.bipush 30, 2) := by decide +kernel
theorem d_R_readBare_17 : decode cb_R_readBare 17 = .ok (.if_icmp .ge 59, 3) := by decide +kernel
theorem d_R_readBare_20 : decode cb_R_readBare 20 = .ok (.aload_n 0, 1) := by decide +kernel
theorem d_R_readBare_21 : decode cb_R_readBare 21 = .ok (.getfield 45, 3) := by decide +kernel
theorem d_R_readBare_24 : decode cb_R_readBare 24 = .ok (.aload_n 0, 1) := by decide +kernel
theorem d_R_readBare_25 : decode cb_R_readBare 25 = .ok (.getfield 15, 3) := by decide +kernel
theorem d_R_readBare_28 : decode cb_R_readBare 28 = .ok (.if_icmp .ge 48, 3) := by decide +kernel
theorem d_R_readBare_31 : decode cb_R_readBare 31 = .ok (.aload_n 0, 1) := by decide +kernel
theorem d_R_readBare_32 : decode cb_R_readBare 32 = .ok (.getfield 9, 3) := by decide +kernel
theorem d_R_readBare_35 : decode cb_R_readBare 35 = .ok (.aload_n 0, 1) := by decide +kernel
theorem d_R_readBare_36 : decode cb_R_readBare 36 = .ok (.getfield 45, 3) := by decide +kernel
theorem d_R_readBare_39 : decode cb_R_readBare 39 = .ok (.caload, 1) := by decide +kernel
theorem d_R_readBare_40 : decode cb_R_readBare 40 = .ok (.invokestatic 216, 3) := by decide +kernel
theorem d_R_readBare_43 : decode cb_R_readBare 43 = .ok (.ifCond .eq 33, 3) := by decide +kernel
theorem d_R_readBare_46 : decode cb_R_readBare 46 = .ok (.aload_n 0, 1) := by decide +kernel
theorem d_R_readBare_47 : decode cb_R_readBare 47 = .ok (.getfield 22, 3) := by decide +kernel
theorem d_R_readBare_50 : decode cb_R_readBare 50 = .ok (.aload_n 0, 1) := by decide +kernel
theorem d_R_readBare_51 : decode cb_R_readBare 51 = .ok (.getfield 9, 3) := by decide +kernel
theorem d_R_readBare_54 : decode cb_R_readBare 54 = .ok (.aload_n 0, 1) := by decide +kernel
theorem d_R_readBare_55 : decode cb_R_readBare 55 = .ok (.getfield 45, 3) := by decide +kernel
theorem d_R_readBare_58 : decode cb_R_readBare 58 = .ok (.caload, 1) := by decide +kernel
theorem d_R_readBare_59 : decode cb_R_readBare 59 = .ok (.invokevirtual 209, 3) := by decide +kernel
theorem d_R_readBare_62 : decode cb_R_readBare 62 = .ok (.pop, 1) := by decide +kernel
theorem d_R_readBare_63 : decode cb_R_readBare 63 = .ok (.aload_n 0, 1) := by decide +kernel
theorem d_R_readBare_64 : decode cb_R_readBare 64 = .ok (.dup, 1) := by decide +kernel
theorem d_R_readBare_65 : decode cb_R_readBare 65 = .ok (.getfield 45, 3) := by decide +kernel
theorem d_R_readBare_68 : decode cb_R_readBare 68 = .ok (.iconst 1, 1) := by decide +kernel
theorem d_R_readBare_69 : decode cb_R_readBare 69 = .ok (.iadd, 1) := by decide +kernel
theorem d_R_readBare_70 : decode cb_R_readBare 70 = .ok (.putfield 45, 3) := by decide +kernel
theorem d_R_readBare_73 : decode cb_R_readBare 73 = .ok (.goto (-65), 3) := by decide +kernel
theorem d_R_readBare_76 : decode cb_R_readBare 76 = .ok (.aload_n 0, 1) := by decide +kernel
theorem d_R_readBare_77 : decode cb_R_readBare 77 = .ok (.getfield 22, 3) := by decide +kernel
theorem d_R_readBare_80 : decode cb_R_readBare 80 = .ok (.invokevirtual 201, 3) := by decide +kernel
theorem d_R_readBare_83 : decode cb_R_readBare 83 = .ok (.ifCond .eq 13, 3) := by decide +kernel
theorem d_R_readBare_86 : decode cb_R_readBare 86 = .ok (.aload_n 0, 1) := by decide +kernel
theorem d_R_readBare_87 : decode cb_R_readBare 87 = .ok (.invokevirtual 54, 3) := by decide +kernel
theorem d_R_readBare_90 : decode cb_R_readBare 90 = .ok (.invokestatic 216, 3) := by decide +kernel
theorem d_R_readBare_93 : decode cb_R_readBare 93 = .ok (.ifCond .eq 14, 3) := by decide +kernel
theorem d_R_readBare_96 : decode cb_R_readBare 96 = .ok (.aload_n 0, 1) := by decide +kernel
theorem d_R_readBare_97 : decode cb_R_readBare 97 = .ok (.aload_n 0, 1) := by decide +kernel
theorem d_R_readBare_98 : decode cb_R_readBare 98 = .ok (.getfield 45, 3) := by decide +kernel
theorem d_R_readBare_101 : decode cb_R_readBare 101 = .ok (.invokevirtual 105, 3) := by decide +kernel
theorem d_R_readBare_104 : decode cb_R_readBare 104 = .ok (.pop, 1) := by decide +kernel
theorem d_R_readBare_105 : decode cb_R_readBare 105 = .ok (.aconst_null, 1) := by decide +kernel
theorem d_R_readBare_106 : decode cb_R_readBare 106 = .ok (.areturn, 1) := by decide +kernel
theorem d_R_readBare_107 : decode cb_R_readBare 107 = .ok (.aload_n 0, 1) := by decide +kernel
theorem d_R_readBare_108 : decode cb_R_readBare 108 = .ok (.getfield 22, 3) := by decide +kernel
theorem d_R_readBare_111 : decode cb_R_readBare 111 = .ok (.invokevirtual 213, 3) := by decide +kernel
theorem d_R_readBare_114 : decode cb_R_readBare 114 = .ok (.areturn, 1) := by decide +kernel
theorem d_R_readString_0 : decode cb_R_readString 0 = .ok (.aload_n 0, 1) := by decide +kernel
theorem d_R_readString_1 : decode cb_R_readString 1 = .ok (.invokevirtual 54, 3) := by decide +kernel
theorem d_R_readString_4 : decode cb_R_readString 4 = .ok (.bipush 34, 2) := by decide +kernel
theorem d_R_readString_6 : decode cb_R_readString 6 = .ok (.if_icmp .ne 10, 3) := by decide +kernel
theorem d_R_readString_9 : decode cb_R_readString 9 = .ok (.aload_n 0, 1) := by decide +kernel
theorem d_R_readString_10 : decode cb_R_readString 10 = .ok (.invokevirtual 117, 3) := by decide +kernel
theorem d_R_readString_13 : decode cb_R_readString 13 = .ok (.goto 7, 3) := by decide +kernel
theorem d_R_readString_16 : decode cb_R_readString 16 = .ok (.aload_n 0, 1) := by decide +kernel
theorem d_R_readString_17 : decode cb_R_readString 17 = .ok (.invokevirtual 188, 3) := by decide +kernel
theorem d_R_readString_20 : decode cb_R_readString 20 = .ok (.astore_n 1, 1) := by decide +kernel
theorem d_R_readString_21 : decode cb_R_readString 21 = .ok (.aload_n 1, 1) := by decide +kernel
theorem d_R_readString_22 : decode cb_R_readString 22 = .ok (.ifnonnull 5, 3) := by decide +kernel
theorem d_R_readString_25 : decode cb_R_readString 25 = .ok (.aconst_null, 1) := by decide +kernel
theorem d_R_readString_26 : decode cb_R_readString 26 = .ok (.areturn, 1) := by decide +kernel
theorem d_R_readString_27 : decode cb_R_readString 27 = .ok (.new 33, 3) := by decide +kernel
theorem d_R_readString_30 : decode cb_R_readString 30 = .ok (.dup, 1) := by decide +kernel
theorem d_R_readString_31 : decode cb_R_readString 31 = .ok (.iconst 3, 1) := by decide +kernel
theorem d_R_readString_32 : decode cb_R_readString 32 = .ok (.aload_n 1, 1) := by decide +kernel
theorem d_R_readString_33 : decode cb_R_readString 33 = .ok (.invokevirtual 191, 3) := by decide +kernel
theorem d_R_readString_36 : decode cb_R_readString 36 = .ok (.invokespecial 35, 3) := by decide +kernel
theorem d_R_readString_39 : decode cb_R_readString 39 = .ok (.astore_n 2, 1) := by decide +kernel
theorem d_R_readString_40 : decode cb_R_readString 40 = .ok (.aload_n 2, 1) := by decide +kernel
theorem d_R_readString_41 : decode cb_R_readString 41 = .ok (.aload_n 1, 1) := by decide +kernel
theorem d_R_readString_42 : decode cb_R_readString 42 = .ok (.putfield 195, 3) := by decide +kernel
theorem d_R_readString_45 : decode cb_R_readString 45 = .ok (.aload_n 2, 1) := by decide +kernel
theorem d_R_readString_46 : decode cb_R_readString 46 = .ok (.areturn, 1) := by decide +kernel
theorem d_R_readPath_0 : decode cb_R_readPath 0 = .ok (.aconst_null, 1) := by decide +kernel
theorem d_R_readPath_1 : decode cb_R_readPath 1 = .ok (.astore_n 1, 1) := by decide +kernel
theorem d_R_readPath_2 : decode cb_R_readPath 2 = .ok (.aconst_null, 1) := by decide +kernel
theorem d_R_readPath_3 : decode cb_R_readPath 3 = .ok (.astore_n 2, 1) := by decide +kernel
theorem d_R_readPath_4 : decode cb_R_readPath 4 = .ok (.iconst 1, 1) := by decide +kernel
theorem d_R_readPath_5 : decode cb_R_readPath 5 = .ok (.istore_n 3, 1) := by decide +kernel
theorem d_R_readPath_6 : decode cb_R_readPath 6 = .ok (.iconst 0, 1) := by decide +kernel
theorem d_R_readPath_7 : decode cb_R_readPath 7 = .ok (.istore 4, 2) := by decide +kernel
theorem d_R_readPath_9 : decode cb_R_readPath 9 = .ok (.iload_n 3, 1) := by decide +kernel
theorem d_R_readPath_10 : decode cb_R_readPath 10 = .ok (.ifCond .eq 121, 3) := by decide +kernel
theorem d_R_readPath_13 : decode cb_R_readPath 13 = .ok (.iload 4, 2) := by decide +kernel
theorem d_R_readPath_15 : decode cb_R_readPath 15 = .ok (.sipush 240, 3) := by decide +kernel
theorem d_R_readPath_18 : decode cb_R_readPath 18 = .ok (.if_icmp .ge 113, 3) := by decide +kernel
theorem d_R_readPath_21 : decode cb_R_readPath 21 = .ok (.aload_n 0, 1) := by decide +kernel
theorem d_R_readPath_22 : decode cb_R_readPath 22 = .ok (.getfield 45, 3) := by decide +kernel
theorem d_R_readPath_25 : decode cb_R_readPath 25 = .ok (.istore 5, 2) := by decide +kernel
theorem d_R_readPath_27 : decode cb_R_readPath 27 = .ok (.aload_n 0, 1) := by decide +kernel
theorem d_R_readPath_28 : decode cb_R_readPath 28 = .ok (.invokevirtual 54, 3) := by decide +kernel
theorem d_R_readPath_31 : decode cb_R_readPath 31 = .ok (.bipush 34, 2) := by decide +kernel
theorem d_R_readPath_33 : decode cb_R_readPath 33 = .ok (.if_icmp .ne 10, 3) := by decide +kernel
theorem d_R_readPath_36 : decode cb_R_readPath 36 = .ok (.aload_n 0, 1) := by decide +kernel
theorem d_R_readPath_37 : decode cb_R_readPath 37 = .ok (.invokevirtual 117, 3) := by decide +kernel
theorem d_R_readPath_40 : decode cb_R_readPath 40 = .ok (.goto 7, 3) := by decide +kernel
theorem d_R_readPath_43 : decode cb_R_readPath 43 = .ok (.aload_n 0, 1) := by decide +kernel
theorem d_R_readPath_44 : decode cb_R_readPath 44 = .ok (.invokevirtual 121, 3) := by decide +kernel
theorem d_R_readPath_47 : decode cb_R_readPath 47 = .ok (.astore 6, 2) := by decide +kernel
theorem d_R_readPath_49 : decode cb_R_readPath 49 = .ok (.aload 6, 2) := by decide +kernel
theorem d_R_readPath_51 : decode cb_R_readPath 51 = .ok (.ifnonnull 5, 3) := by decide +kernel
theorem d_R_readPath_54 : decode cb_R_readPath 54 = .ok (.aconst_null, 1) := by decide +kernel
theorem d_R_readPath_55 : decode cb_R_readPath 55 = .ok (.areturn, 1) := by decide +kernel
theorem d_R_readPath_56 : decode cb_R_readPath 56 = .ok (.new 85, 3) := by decide +kernel
theorem d_R_readPath_59 : decode cb_R_readPath 59 = .ok (.dup, 1) := by decide +kernel
theorem d_R_readPath_60 : decode cb_R_readPath 60 = .ok (.aload 6, 2) := by decide +kernel
theorem d_R_readPath_62 : decode cb_R_readPath 62 = .ok (.iload 5, 2) := by decide +kernel
theorem d_R_readPath_64 : decode cb_R_readPath 64 = .ok (.invokespecial 124, 3) := by decide +kernel
theorem d_R_readPath_67 : decode cb_R_readPath 67 = .ok (.astore 7, 2) := by decide +kernel
theorem d_R_readPath_69 : decode cb_R_readPath 69 = .ok (.aload_n 2, 1) := by decide +kernel
theorem d_R_readPath_70 : decode cb_R_readPath 70 = .ok (.ifnonnull 9, 3) := by decide +kernel
theorem d_R_readPath_73 : decode cb_R_readPath 73 = .ok (.aload 7, 2) := by decide +kernel
theorem d_R_readPath_75 : decode cb_R_readPath 75 = .ok (.astore_n 1, 1) := by decide +kernel
theorem d_R_readPath_76 : decode cb_R_readPath 76 = .ok (.goto 9, 3) := by decide +kernel
theorem d_R_readPath_79 : decode cb_R_readPath 79 = .ok (.aload_n 2, 1) := by decide +kernel
theorem d_R_readPath_80 : decode cb_R_readPath 80 = .ok (.aload 7, 2) := by decide +kernel
theorem d_R_readPath_82 : decode cb_R_readPath 82 = .ok (.putfield 84, 3) := by decide +kernel
theorem d_R_readPath_85 : decode cb_R_readPath 85 = .ok (.aload 7, 2) := by decide +kernel
theorem d_R_readPath_87 : decode cb_R_readPath 87 = .ok (.astore_n 2, 1) := by decide +kernel
theorem d_R_readPath_88 : decode cb_R_readPath 88 = .ok (.aload_n 0, 1) := by decide +kernel
theorem d_R_readPath_89 : decode cb_R_readPath 89 = .ok (.invokevirtual 51, 3) := by decide +kernel
theorem d_R_readPath_92 : decode cb_R_readPath 92 = .ok (.aload_n 0, 1) := by decide +kernel
theorem d_R_readPath_93 : decode cb_R_readPath 93 = .ok (.invokevirtual 54, 3) := by decide +kernel
theorem d_R_readPath_96 : decode cb_R_readPath 96 = .ok (.bipush 46, 2) := by decide +kernel
theorem d_R_readPath_98 : decode cb_R_readPath 98 = .ok (.if_icmp .ne 7, 3) := by decide +kernel
theorem d_R_readPath_101 : decode cb_R_readPath 101 = .ok (.iconst 1, 1) := by decide +kernel
theorem d_R_readPath_102 : decode cb_R_readPath 102 = .ok (.goto 4, 3) := by decide +kernel
theorem d_R_readPath_105 : decode cb_R_readPath 105 = .ok (.iconst 0, 1) := by decide +kernel
theorem d_R_readPath_106 : decode cb_R_readPath 106 = .ok (.istore_n 3, 1) := by decide +kernel
theorem d_R_readPath_107 : decode cb_R_readPath 107 = .ok (.iload_n 3, 1) := by decide +kernel
theorem d_R_readPath_108 : decode cb_R_readPath 108 = .ok (.ifCond .eq 17, 3) := by decide +kernel
theorem d_R_readPath_111 : decode cb_R_readPath 111 = .ok (.aload_n 0, 1) := by decide +kernel
theorem d_R_readPath_112 : decode cb_R_readPath 112 = .ok (.dup, 1) := by decide +kernel
theorem d_R_readPath_113 : decode cb_R_readPath 113 = .ok (.getfield 45, 3) := by decide +kernel
theorem d_R_readPath_116 : decode cb_R_readPath 116 = .ok (.iconst 1, 1) := by decide +kernel
theorem d_R_readPath_117 : decode cb_R_readPath 117 = .ok (.iadd, 1) := by decide +kernel
theorem d_R_readPath_118 : decode cb_R_readPath 118 = .ok (.putfield 45, 3) := by decide +kernel
theorem d_R_readPath_121 : decode cb_R_readPath 121 = .ok (.aload_n 0, 1) := by decide +kernel
theorem d_R_readPath_122 : decode cb_R_readPath 122 = .ok (.invokevirtual 51, 3) := by decide +kernel
theorem d_R_readPath_125 : decode cb_R_readPath 125 = .ok (.iinc 4 1, 3) := by decide +kernel
theorem d_R_readPath_128 : decode cb_R_readPath 128 = .ok (.goto (-119), 3) := by decide +kernel
theorem d_R_readPath_131 : decode cb_R_readPath 131 = .ok (.aload_n 1, 1) := by decide +kernel
theorem d_R_readPath_132 : decode cb_R_readPath 132 = .ok (.areturn, 1) := by decide +kernel
theorem d_R_readHeader_0 : decode cb_R_readHeader 0 = .ok (.aload_n 0, 1) := by decide +kernel
theorem d_R_readHeader_1 : decode cb_R_readHeader 1 = .ok (.dup, 1) := by decide +kernel
theorem d_R_readHeader_2 : decode cb_R_readHeader 2 = .ok (.getfield 45, 3) := by decide +kernel
theorem d_R_readHeader_5 : decode cb_R_readHeader 5 = .ok (.iconst 1, 1) := by decide +kernel
theorem d_R_readHeader_6 : decode cb_R_readHeader 6 = .ok (.iadd, 1) := by decide +kernel
theorem d_R_readHeader_7 : decode cb_R_readHeader 7 = .ok (.putfield 45, 3) := by decide +kernel
theorem d_R_readHeader_10 : decode cb_R_readHeader 10 = .ok (.aload_n 0, 1) := by decide +kernel
theorem d_R_readHeader_11 : decode cb_R_readHeader 11 = .ok (.invokevirtual 54, 3) := by decide +kernel
theorem d_R_readHeader_14 : decode cb_R_readHeader 14 = .ok (.bipush 91, 2) := by decide +kernel
theorem d_R_readHeader_16 : decode cb_R_readHeader 16 = .ok (.if_icmp .ne 7, 3) := by decide +kernel
theorem d_R_readHeader_19 : decode cb_R_readHeader 19 = .ok (.iconst 1, 1) := by decide +kernel
theorem d_R_readHeader_20 : decode cb_R_readHeader 20 = .ok (.goto 4, 3) := by decide +kernel
theorem d_R_readHeader_23 : decode cb_R_readHeader 23 = .ok (.iconst 0, 1) := by decide +kernel
theorem d_R_readHeader_24 : decode cb_R_readHeader 24 = .ok (.istore_n 1, 1) := by decide +kernel
theorem d_R_readHeader_25 : decode cb_R_readHeader 25 = .ok (.iload_n 1, 1) := by decide +kernel
theorem d_R_readHeader_26 : decode cb_R_readHeader 26 = .ok (.ifCond .eq 13, 3) := by decide +kernel
theorem d_R_readHeader_29 : decode cb_R_readHeader 29 = .ok (.aload_n 0, 1) := by decide +kernel
theorem d_R_readHeader_30 : decode cb_R_readHeader 30 = .ok (.dup, 1) := by decide +kernel
theorem d_R_readHeader_31 : decode cb_R_readHeader 31 = .ok (.getfield 45, 3) := by decide +kernel
theorem d_R_readHeader_34 : decode cb_R_readHeader 34 = .ok (.iconst 1, 1) := by decide +kernel
theorem d_R_readHeader_35 : decode cb_R_readHeader 35 = .ok (.iadd, 1) := by decide +kernel
theorem d_R_readHeader_36 : decode cb_R_readHeader 36 = .ok (.putfield 45, 3) := by decide +kernel
theorem d_R_readHeader_39 : decode cb_R_readHeader 39 = .ok (.aload_n 0, 1) := by decide +kernel
theorem d_R_readHeader_40 : decode cb_R_readHeader 40 = .ok (.invokevirtual 51, 3) := by decide +kernel
theorem d_R_readHeader_43 : decode cb_R_readHeader 43 = .ok (.aload_n 0, 1) := by decide +kernel
theorem d_R_readHeader_44 : decode cb_R_readHeader 44 = .ok (.invokevirtual 76, 3) := by decide +kernel
theorem d_R_readHeader_47 : decode cb_R_readHeader 47 = .ok (.astore_n 2, 1) := by decide +kernel
theorem d_R_readHeader_48 : decode cb_R_readHeader 48 = .ok (.aload_n 2, 1) := by decide +kernel
theorem d_R_readHeader_49 : decode cb_R_readHeader 49 = .ok (.ifnonnull 7, 3) := by decide +kernel
theorem d_R_readHeader_52 : decode cb_R_readHeader 52 = .ok (.aconst_null, 1) := by decide +kernel
theorem d_R_readHeader_53 : decode cb_R_readHeader 53 = .ok (.goto 9, 3) := by decide +kernel
theorem d_R_readHeader_56 : decode cb_R_readHeader 56 = .ok (.aload_n 0, 1) := by decide +kernel
theorem d_R_readHeader_57 : decode cb_R_readHeader 57 = .ok (.aload_n 2, 1) := by decide +kernel
theorem d_R_readHeader_58 : decode cb_R_readHeader 58 = .ok (.iload_n 1, 1) := by decide +kernel
theorem d_R_readHeader_59 : decode cb_R_readHeader 59 = .ok (.invokevirtual 80, 3) := by decide +kernel
theorem d_R_readHeader_62 : decode cb_R_readHeader 62 = .ok (.astore_n 3, 1) := by decide +kernel
theorem d_R_readHeader_63 : decode cb_R_readHeader 63 = .ok (.aload_n 3, 1) := by decide +kernel
theorem d_R_readHeader_64 : decode cb_R_readHeader 64 = .ok (.ifnonnull 5, 3) := by decide +kernel
theorem d_R_readHeader_67 : decode cb_R_readHeader 67 = .ok (.iconst 0, 1) := by decide +kernel
theorem d_R_readHeader_68 : decode cb_R_readHeader 68 = .ok (.ireturn, 1) := by decide +kernel
theorem d_R_readHeader_69 : decode cb_R_readHeader 69 = .ok (.aload_n 0, 1) := by decide +kernel
theorem d_R_readHeader_70 : decode cb_R_readHeader 70 = .ok (.aload_n 3, 1) := by decide +kernel
theorem d_R_readHeader_71 : decode cb_R_readHeader 71 = .ok (.putfield 42, 3) := by decide +kernel
theorem d_R_readHeader_74 : decode cb_R_readHeader 74 = .ok (.aload_n 0, 1) := by decide +kernel
theorem d_R_readHeader_75 : decode cb_R_readHeader 75 = .ok (.bipush 93, 2) := by decide +kernel
theorem d_R_readHeader_77 : decode cb_R_readHeader 77 = .ok (.invokevirtual 73, 3) := by decide +kernel
theorem d_R_readHeader_80 : decode cb_R_readHeader 80 = .ok (.ifCond .eq 20, 3) := by decide +kernel
theorem d_R_readHeader_83 : decode cb_R_readHeader 83 = .ok (.iload_n 1, 1) := by decide +kernel
theorem d_R_readHeader_84 : decode cb_R_readHeader 84 = .ok (.ifCond .eq 12, 3) := by decide +kernel
theorem d_R_readHeader_87 : decode cb_R_readHeader 87 = .ok (.aload_n 0, 1) := by decide +kernel
theorem d_R_readHeader_88 : decode cb_R_readHeader 88 = .ok (.bipush 93, 2) := by decide +kernel
theorem d_R_readHeader_90 : decode cb_R_readHeader 90 = .ok (.invokevirtual 73, 3) := by decide +kernel
theorem d_R_readHeader_93 : decode cb_R_readHeader 93 = .ok (.ifCond .eq 7, 3) := by decide +kernel
theorem d_R_readHeader_96 : decode cb_R_readHeader 96 = .ok (.iconst 1, 1) := by decide +kernel
theorem d_R_readHeader_97 : decode cb_R_readHeader 97 = .ok (.goto 4, 3) := by decide +kernel
theorem d_R_readHeader_100 : decode cb_R_readHeader 100 = .ok (.iconst 0, 1) := by decide +kernel
theorem d_R_readHeader_101 : decode cb_R_readHeader 101 = .ok (.ireturn, 1) := by decide +kernel
theorem d_R_dottedTable_0 : decode cb_R_dottedTable 0 = .ok (.aload_n 1, 1) := by decide +kernel
theorem d_R_dottedTable_1 : decode cb_R_dottedTable 1 = .ok (.aload_n 2, 1) := by decide +kernel
theorem d_R_dottedTable_2 : decode cb_R_dottedTable 2 = .ok (.getfield 94, 3) := by decide +kernel
theorem d_R_dottedTable_5 : decode cb_R_dottedTable 5 = .ok (.bipush 9, 2) := by decide +kernel
theorem d_R_dottedTable_7 : decode cb_R_dottedTable 7 = .ok (.invokevirtual 127, 3) := by decide +kernel
theorem d_R_dottedTable_10 : decode cb_R_dottedTable 10 = .ok (.astore_n 3, 1) := by decide +kernel
theorem d_R_dottedTable_11 : decode cb_R_dottedTable 11 = .ok (.aload_n 3, 1) := by decide +kernel
theorem d_R_dottedTable_12 : decode cb_R_dottedTable 12 = .ok (.getfield 131, 3) := by decide +kernel
theorem d_R_dottedTable_15 : decode cb_R_dottedTable 15 = .ok (.bipush 9, 2) := by decide +kernel
theorem d_R_dottedTable_17 : decode cb_R_dottedTable 17 = .ok (.if_icmp .eq 12, 3) := by decide +kernel
theorem d_R_dottedTable_20 : decode cb_R_dottedTable 20 = .ok (.aload_n 0, 1) := by decide +kernel
theorem d_R_dottedTable_21 : decode cb_R_dottedTable 21 = .ok (.aload_n 2, 1) := by decide +kernel
theorem d_R_dottedTable_22 : decode cb_R_dottedTable 22 = .ok (.getfield 102, 3) := by decide +kernel
theorem d_R_dottedTable_25 : decode cb_R_dottedTable 25 = .ok (.invokevirtual 105, 3) := by decide +kernel
theorem d_R_dottedTable_28 : decode cb_R_dottedTable 28 = .ok (.areturn, 1) := by decide +kernel
theorem d_R_dottedTable_29 : decode cb_R_dottedTable 29 = .ok (.aload_n 0, 1) := by decide +kernel
theorem d_R_dottedTable_30 : decode cb_R_dottedTable 30 = .ok (.getfield 29, 3) := by decide +kernel
theorem d_R_dottedTable_33 : decode cb_R_dottedTable 33 = .ok (.aload_n 3, 1) := by decide +kernel
theorem d_R_dottedTable_34 : decode cb_R_dottedTable 34 = .ok (.invokevirtual 134, 3) := by decide +kernel
theorem d_R_dottedTable_37 : decode cb_R_dottedTable 37 = .ok (.pop, 1) := by decide +kernel
theorem d_R_dottedTable_38 : decode cb_R_dottedTable 38 = .ok (.aload_n 3, 1) := by decide +kernel
theorem d_R_dottedTable_39 : decode cb_R_dottedTable 39 = .ok (.areturn, 1) := by decide +kernel
