abbrev cb_Ma_max : ByteArray := prog_18_method_65_code
def y_Ma_max : MethodName := ⟨RJ_Ma, "max", "(II)I"⟩
abbrev cb_Ma_min : ByteArray := prog_18_method_69_code
def y_Ma_min : MethodName := ⟨RJ_Ma, "min", "(II)I"⟩
abbrev cb_AS_newLength : ByteArray := prog_36_method_27_code
def y_AS_newLength : MethodName := ⟨RJ_AS, "newLength", "(III)I"⟩
abbrev cb_Ar_copyOf : ByteArray := prog_30_method_121_code
def y_Ar_copyOf : MethodName := ⟨RJ_Ar, "copyOf", "([BI)[B"⟩
abbrev cb_Ar_checkLength : ByteArray := prog_30_method_131_code
def y_Ar_checkLength : MethodName := ⟨RJ_Ar, "checkLength", "(II)V"⟩
abbrev cb_Ar_copyOfRangeByte : ByteArray := prog_30_method_133_code
def y_Ar_copyOfRangeByte : MethodName := ⟨RJ_Ar, "copyOfRangeByte", "([BII)[B"⟩
abbrev cb_Ar_copyOfRange : ByteArray := prog_30_method_132_code
def y_Ar_copyOfRange : MethodName := ⟨RJ_Ar, "copyOfRange", "([BII)[B"⟩
abbrev cb_Ar_copyOfC : ByteArray := prog_30_method_120_code
def y_Ar_copyOfC : MethodName := ⟨RJ_Ar, "copyOf", "([Ljava/lang/Object;ILjava/lang/Class;)[Ljava/lang/Object;"⟩
abbrev cb_Ar_copyOfO : ByteArray := prog_30_method_119_code
def y_Ar_copyOfO : MethodName := ⟨RJ_Ar, "copyOf", "([Ljava/lang/Object;I)[Ljava/lang/Object;"⟩
abbrev cb_AL_grow1 : ByteArray := prog_29_method_6_code
def y_AL_grow1 : MethodName := ⟨RZ8, "grow", "(I)[Ljava/lang/Object;"⟩
abbrev cb_AL_grow : ByteArray := prog_29_method_7_code
def y_AL_grow : MethodName := ⟨RZ8, "grow", "()[Ljava/lang/Object;"⟩
abbrev cb_AL_add3 : ByteArray := prog_29_method_24_code
def y_AL_add3 : MethodName := ⟨RZ8, "add", "(Ljava/lang/Object;[Ljava/lang/Object;I)V"⟩
abbrev cb_AL_add : ByteArray := prog_29_method_25_code
def y_AL_add : MethodName := ⟨RZ8, "add", "(Ljava/lang/Object;)Z"⟩
abbrev cb_AB_newCapacity : ByteArray := prog_9_method_10_code
def y_AB_newCapacity : MethodName := ⟨RJ_AB, "newCapacity", "(I)I"⟩
abbrev cb_AB_ensureCapacityInternal : ByteArray := prog_9_method_9_code
def y_AB_ensureCapacityInternal : MethodName := ⟨RJ_AB, "ensureCapacityInternal", "(I)V"⟩
abbrev cb_AB_append : ByteArray := prog_9_method_31_code
def y_AB_append : MethodName := ⟨RJ_AB, "append", "(C)Ljava/lang/AbstractStringBuilder;"⟩
abbrev cb_AB_setLength : ByteArray := prog_9_method_13_code
def y_AB_setLength : MethodName := ⟨RJ_AB, "setLength", "(I)V"⟩
abbrev cb_SB_append : ByteArray := prog_21_method_14_code
def y_SB_append : MethodName := ⟨RZ7, "append", "(C)Ljava/lang/StringBuilder;"⟩
abbrev cb_SB_setLength : ByteArray := prog_21_method_89_code
def y_SB_setLength : MethodName := ⟨RZ7, "setLength", "(I)V"⟩
abbrev cb_SB_length : ByteArray := prog_21_method_93_code
def y_SB_length : MethodName := ⟨RZ7, "length", "()I"⟩
abbrev cb_Str_initAB : ByteArray := prog_20_method_150_code
def y_Str_initAB : MethodName := ⟨RZ6, "<init>", "(Ljava/lang/AbstractStringBuilder;Ljava/lang/Void;)V"⟩
abbrev cb_Str_initSB : ByteArray := prog_20_method_53_code
def y_Str_initSB : MethodName := ⟨RZ6, "<init>", "(Ljava/lang/StringBuilder;)V"⟩
abbrev cb_SB_toString : ByteArray := prog_21_method_42_code
def y_SB_toString : MethodName := ⟨RZ7, "toString", "()Ljava/lang/String;"⟩
theorem mK_AS_200 : Cond.constant RJ_AS 200 2147483639 ∈ wsA := List.mem_filter.mpr ⟨List.mem_of_getElem? (i := 375) (by decide +kernel), by decide +kernel⟩
theorem kw_AS_194 : kWS RJ_AS 194 y_Ma_max (.code y_Ma_max cb_Ma_max 2 (some .int)) 2 := ⟨gS (List.mem_filter.mpr ⟨List.mem_of_getElem? (i := 372) (by decide +kernel), by decide +kernel⟩) (List.mem_filter.mpr ⟨List.mem_of_getElem? (i := 373) (by decide +kernel), by decide +kernel⟩) (List.mem_filter.mpr ⟨List.mem_of_getElem? (i := 116) (by decide +kernel), by decide +kernel⟩) (List.mem_filter.mpr ⟨List.mem_of_getElem? (i := 374) (by decide +kernel), by decide +kernel⟩), by decide, by decide, by decide +kernel⟩
theorem mL_Ar_150 : Cond.methodLink RJ_Ar 150 ⟨"java/lang/System", "arraycopy", "(Ljava/lang/Object;ILjava/lang/Object;II)V"⟩ ∈ wsA := List.mem_filter.mpr ⟨List.mem_of_getElem? (i := 393) (by decide +kernel), by decide +kernel⟩
theorem kw_Ar_304 : kWS RJ_Ar 304 y_Ma_min (.code y_Ma_min cb_Ma_min 2 (some .int)) 2 := ⟨gS (List.mem_filter.mpr ⟨List.mem_of_getElem? (i := 390) (by decide +kernel), by decide +kernel⟩) (List.mem_filter.mpr ⟨List.mem_of_getElem? (i := 391) (by decide +kernel), by decide +kernel⟩) (List.mem_filter.mpr ⟨List.mem_of_getElem? (i := 116) (by decide +kernel), by decide +kernel⟩) (List.mem_filter.mpr ⟨List.mem_of_getElem? (i := 392) (by decide +kernel), by decide +kernel⟩), by decide, by decide, by decide +kernel⟩
theorem kw_Ar_343 : kWS RJ_Ar 343 y_Ar_checkLength (.code y_Ar_checkLength cb_Ar_checkLength 2 none) 2 := ⟨gS (List.mem_filter.mpr ⟨List.mem_of_getElem? (i := 528) (by decide +kernel), by decide +kernel⟩) (List.mem_filter.mpr ⟨List.mem_of_getElem? (i := 529) (by decide +kernel), by decide +kernel⟩) (List.mem_filter.mpr ⟨List.mem_of_getElem? (i := 117) (by decide +kernel), by decide +kernel⟩) (List.mem_filter.mpr ⟨List.mem_of_getElem? (i := 530) (by decide +kernel), by decide +kernel⟩), by decide, by decide, by decide +kernel⟩
theorem mL_Ar_310 : Cond.methodLink RJ_Ar 310 ⟨"[B", "clone", "()Ljava/lang/Object;"⟩ ∈ wsA := List.mem_filter.mpr ⟨List.mem_of_getElem? (i := 383) (by decide +kernel), by decide +kernel⟩
theorem mC_Ar_311 : Cond.classLink RJ_Ar 311 "[B" ∈ wsA := List.mem_filter.mpr ⟨List.mem_of_getElem? (i := 389) (by decide +kernel), by decide +kernel⟩
theorem kw_Ar_339 : kWS RJ_Ar 339 y_Ar_copyOfRangeByte (.code y_Ar_copyOfRangeByte cb_Ar_copyOfRangeByte 5 (some (.array .byte))) 3 := ⟨gS (List.mem_filter.mpr ⟨List.mem_of_getElem? (i := 525) (by decide +kernel), by decide +kernel⟩) (List.mem_filter.mpr ⟨List.mem_of_getElem? (i := 526) (by decide +kernel), by decide +kernel⟩) (List.mem_filter.mpr ⟨List.mem_of_getElem? (i := 117) (by decide +kernel), by decide +kernel⟩) (List.mem_filter.mpr ⟨List.mem_of_getElem? (i := 527) (by decide +kernel), by decide +kernel⟩), by decide, by decide, by decide +kernel⟩
theorem mC_Ar_110 : Cond.classLink RJ_Ar 110 "[Ljava/lang/Object;" ∈ wsA := List.mem_filter.mpr ⟨List.mem_of_getElem? (i := 831) (by decide +kernel), by decide +kernel⟩
theorem mC_Ar_2 : Cond.classLink RJ_Ar 2 "java/lang/Object" ∈ wsA := List.mem_filter.mpr ⟨List.mem_of_getElem? (i := 833) (by decide +kernel), by decide +kernel⟩
theorem mL_Ar_86 : Cond.methodLink RJ_Ar 86 ⟨"java/lang/Object", "getClass", "()Ljava/lang/Class;"⟩ ∈ wsA := List.mem_filter.mpr ⟨List.mem_of_getElem? (i := 810) (by decide +kernel), by decide +kernel⟩
theorem kw_Ar_300 : kWS RJ_Ar 300 y_Ar_copyOfC (.code y_Ar_copyOfC cb_Ar_copyOfC 4 (some (.array (.object "java/lang/Object")))) 3 := ⟨gS (List.mem_filter.mpr ⟨List.mem_of_getElem? (i := 828) (by decide +kernel), by decide +kernel⟩) (List.mem_filter.mpr ⟨List.mem_of_getElem? (i := 829) (by decide +kernel), by decide +kernel⟩) (List.mem_filter.mpr ⟨List.mem_of_getElem? (i := 117) (by decide +kernel), by decide +kernel⟩) (List.mem_filter.mpr ⟨List.mem_of_getElem? (i := 830) (by decide +kernel), by decide +kernel⟩), by decide, by decide, by decide +kernel⟩
theorem mC_AL_7 : Cond.classLink RZ8 7 "java/lang/Object" ∈ wsA := List.mem_filter.mpr ⟨List.mem_of_getElem? (i := 835) (by decide +kernel), by decide +kernel⟩
theorem kw_AL_73 : kWS RZ8 73 y_AS_newLength (.code y_AS_newLength cb_AS_newLength 4 (some .int)) 3 := ⟨gS (List.mem_filter.mpr ⟨List.mem_of_getElem? (i := 806) (by decide +kernel), by decide +kernel⟩) (List.mem_filter.mpr ⟨List.mem_of_getElem? (i := 370) (by decide +kernel), by decide +kernel⟩) (List.mem_filter.mpr ⟨List.mem_of_getElem? (i := 115) (by decide +kernel), by decide +kernel⟩) (List.mem_filter.mpr ⟨List.mem_of_getElem? (i := 371) (by decide +kernel), by decide +kernel⟩), by decide, by decide, by decide +kernel⟩
theorem kw_AL_66 : kWS RZ8 66 y_Ar_copyOfO (.code y_Ar_copyOfO cb_Ar_copyOfO 2 (some (.array (.object "java/lang/Object")))) 2 := ⟨gS (List.mem_filter.mpr ⟨List.mem_of_getElem? (i := 807) (by decide +kernel), by decide +kernel⟩) (List.mem_filter.mpr ⟨List.mem_of_getElem? (i := 808) (by decide +kernel), by decide +kernel⟩) (List.mem_filter.mpr ⟨List.mem_of_getElem? (i := 117) (by decide +kernel), by decide +kernel⟩) (List.mem_filter.mpr ⟨List.mem_of_getElem? (i := 809) (by decide +kernel), by decide +kernel⟩), by decide, by decide, by decide +kernel⟩
theorem kw_AL_79 : kWS RZ8 79 y_Ma_max (.code y_Ma_max cb_Ma_max 2 (some .int)) 2 := ⟨gS (List.mem_filter.mpr ⟨List.mem_of_getElem? (i := 834) (by decide +kernel), by decide +kernel⟩) (List.mem_filter.mpr ⟨List.mem_of_getElem? (i := 373) (by decide +kernel), by decide +kernel⟩) (List.mem_filter.mpr ⟨List.mem_of_getElem? (i := 116) (by decide +kernel), by decide +kernel⟩) (List.mem_filter.mpr ⟨List.mem_of_getElem? (i := 374) (by decide +kernel), by decide +kernel⟩), by decide, by decide, by decide +kernel⟩
theorem kw_AL_69 : kW RZ8 69 (cC 8) y_AL_grow1 (.code y_AL_grow1 cb_AL_grow1 4 (some (.array (.object "java/lang/Object")))) 1 := ⟨gV (List.mem_filter.mpr ⟨List.mem_of_getElem? (i := 802) (by decide +kernel), by decide +kernel⟩) (List.mem_filter.mpr ⟨List.mem_of_getElem? (i := 804) (by decide +kernel), by decide +kernel⟩) (List.mem_filter.mpr ⟨List.mem_of_getElem? (i := 23) (by decide +kernel), by decide +kernel⟩) (List.mem_filter.mpr ⟨List.mem_of_getElem? (i := 112) (by decide +kernel), by decide +kernel⟩) (List.mem_filter.mpr ⟨List.mem_of_getElem? (i := 805) (by decide +kernel), by decide +kernel⟩), rfl, by decide, by decide, by decide +kernel⟩
theorem kw_AL_129 : kW RZ8 129 (cC 8) y_AL_grow (.code y_AL_grow cb_AL_grow 1 (some (.array (.object "java/lang/Object")))) 0 := ⟨gV (List.mem_filter.mpr ⟨List.mem_of_getElem? (i := 798) (by decide +kernel), by decide +kernel⟩) (List.mem_filter.mpr ⟨List.mem_of_getElem? (i := 800) (by decide +kernel), by decide +kernel⟩) (List.mem_filter.mpr ⟨List.mem_of_getElem? (i := 22) (by decide +kernel), by decide +kernel⟩) (List.mem_filter.mpr ⟨List.mem_of_getElem? (i := 112) (by decide +kernel), by decide +kernel⟩) (List.mem_filter.mpr ⟨List.mem_of_getElem? (i := 801) (by decide +kernel), by decide +kernel⟩), rfl, by decide, by decide, by decide +kernel⟩
theorem mF_AL_63 : Cond.fieldLink RZ8 63 "java/util/ArrayList" (cT 8 0).2.1 (cT 8 0).2.2.1 ∈ wsA := List.mem_filter.mpr ⟨List.mem_of_getElem? (i := 271) (by decide +kernel), by decide +kernel⟩
theorem kw_AL_131 : kW RZ8 131 (cC 8) y_AL_add3 (.code y_AL_add3 cb_AL_add3 4 none) 3 := ⟨gV (List.mem_filter.mpr ⟨List.mem_of_getElem? (i := 794) (by decide +kernel), by decide +kernel⟩) (List.mem_filter.mpr ⟨List.mem_of_getElem? (i := 796) (by decide +kernel), by decide +kernel⟩) (List.mem_filter.mpr ⟨List.mem_of_getElem? (i := 21) (by decide +kernel), by decide +kernel⟩) (List.mem_filter.mpr ⟨List.mem_of_getElem? (i := 112) (by decide +kernel), by decide +kernel⟩) (List.mem_filter.mpr ⟨List.mem_of_getElem? (i := 797) (by decide +kernel), by decide +kernel⟩), rfl, by decide, by decide, by decide +kernel⟩
theorem mK_AB_39 : Cond.constant RJ_AB 39 2147483647 ∈ wsA := List.mem_filter.mpr ⟨List.mem_of_getElem? (i := 379) (by decide +kernel), by decide +kernel⟩
theorem kw_AB_114 : kWS RJ_AB 114 y_AS_newLength (.code y_AS_newLength cb_AS_newLength 4 (some .int)) 3 := ⟨gS (List.mem_filter.mpr ⟨List.mem_of_getElem? (i := 369) (by decide +kernel), by decide +kernel⟩) (List.mem_filter.mpr ⟨List.mem_of_getElem? (i := 370) (by decide +kernel), by decide +kernel⟩) (List.mem_filter.mpr ⟨List.mem_of_getElem? (i := 115) (by decide +kernel), by decide +kernel⟩) (List.mem_filter.mpr ⟨List.mem_of_getElem? (i := 371) (by decide +kernel), by decide +kernel⟩), by decide, by decide, by decide +kernel⟩
theorem kw_AB_104 : (Cond.code y_AB_newCapacity cb_AB_newCapacity 6 (some .int) ∈ wsA ∧ Cond.initialized y_AB_newCapacity.cls ∈ wsA ∧ Cond.methodLink RJ_AB 104 y_AB_newCapacity ∈ wsA ∧ Cond.instanceMethod y_AB_newCapacity ∈ wsA) ∧ y_AB_newCapacity.cls ≠ "java/lang/invoke/MethodHandle" ∧ y_AB_newCapacity.cls ≠ "java/lang/invoke/VarHandle" ∧ (parseMethodDescriptor y_AB_newCapacity.desc).map (fun d => d.parameters.length) = some 1 := ⟨⟨List.mem_filter.mpr ⟨List.mem_of_getElem? (i := 368) (by decide +kernel), by decide +kernel⟩, List.mem_filter.mpr ⟨List.mem_of_getElem? (i := 106) (by decide +kernel), by decide +kernel⟩, List.mem_filter.mpr ⟨List.mem_of_getElem? (i := 365) (by decide +kernel), by decide +kernel⟩, List.mem_filter.mpr ⟨List.mem_of_getElem? (i := 367) (by decide +kernel), by decide +kernel⟩⟩, by decide, by decide, by decide +kernel⟩
theorem kw_AB_108 : kWS RJ_AB 108 y_Ar_copyOf (.code y_Ar_copyOf cb_Ar_copyOf 3 (some (.array .byte))) 2 := ⟨gS (List.mem_filter.mpr ⟨List.mem_of_getElem? (i := 380) (by decide +kernel), by decide +kernel⟩) (List.mem_filter.mpr ⟨List.mem_of_getElem? (i := 381) (by decide +kernel), by decide +kernel⟩) (List.mem_filter.mpr ⟨List.mem_of_getElem? (i := 117) (by decide +kernel), by decide +kernel⟩) (List.mem_filter.mpr ⟨List.mem_of_getElem? (i := 382) (by decide +kernel), by decide +kernel⟩), by decide, by decide, by decide +kernel⟩
theorem kw_AB_100 : (Cond.code y_AB_ensureCapacityInternal cb_AB_ensureCapacityInternal 3 none ∈ wsA ∧ Cond.initialized y_AB_ensureCapacityInternal.cls ∈ wsA ∧ Cond.methodLink RJ_AB 100 y_AB_ensureCapacityInternal ∈ wsA ∧ Cond.instanceMethod y_AB_ensureCapacityInternal ∈ wsA) ∧ y_AB_ensureCapacityInternal.cls ≠ "java/lang/invoke/MethodHandle" ∧ y_AB_ensureCapacityInternal.cls ≠ "java/lang/invoke/VarHandle" ∧ (parseMethodDescriptor y_AB_ensureCapacityInternal.desc).map (fun d => d.parameters.length) = some 1 := ⟨⟨List.mem_filter.mpr ⟨List.mem_of_getElem? (i := 364) (by decide +kernel), by decide +kernel⟩, List.mem_filter.mpr ⟨List.mem_of_getElem? (i := 106) (by decide +kernel), by decide +kernel⟩, List.mem_filter.mpr ⟨List.mem_of_getElem? (i := 361) (by decide +kernel), by decide +kernel⟩, List.mem_filter.mpr ⟨List.mem_of_getElem? (i := 363) (by decide +kernel), by decide +kernel⟩⟩, by decide, by decide, by decide +kernel⟩
theorem kw_AB_83 : (Cond.code y_AB_isLatin1 cb_AB_isLatin1 1 (some .boolean) ∈ wsA ∧ Cond.initialized y_AB_isLatin1.cls ∈ wsA ∧ Cond.methodLink RJ_AB 83 y_AB_isLatin1 ∈ wsA ∧ Cond.instanceMethod y_AB_isLatin1 ∈ wsA) ∧ y_AB_isLatin1.cls ≠ "java/lang/invoke/MethodHandle" ∧ y_AB_isLatin1.cls ≠ "java/lang/invoke/VarHandle" ∧ (parseMethodDescriptor y_AB_isLatin1.desc).map (fun d => d.parameters.length) = some 0 := ⟨⟨List.mem_filter.mpr ⟨List.mem_of_getElem? (i := 400) (by decide +kernel), by decide +kernel⟩, List.mem_filter.mpr ⟨List.mem_of_getElem? (i := 106) (by decide +kernel), by decide +kernel⟩, List.mem_filter.mpr ⟨List.mem_of_getElem? (i := 396) (by decide +kernel), by decide +kernel⟩, List.mem_filter.mpr ⟨List.mem_of_getElem? (i := 397) (by decide +kernel), by decide +kernel⟩⟩, by decide, by decide, by decide +kernel⟩
theorem sel_AB_isLatin1 : Cond.selects (cC 7) y_AB_isLatin1 y_AB_isLatin1 ∈ wsA := List.mem_filter.mpr ⟨List.mem_of_getElem? (i := 399) (by decide +kernel), by decide +kernel⟩
theorem kw_AB_191 : kWS RJ_AB 191 y_L1_canEncode (.code y_L1_canEncode cb_L1_canEncode 1 (some .boolean)) 1 := ⟨gS (List.mem_filter.mpr ⟨List.mem_of_getElem? (i := 690) (by decide +kernel), by decide +kernel⟩) (List.mem_filter.mpr ⟨List.mem_of_getElem? (i := 691) (by decide +kernel), by decide +kernel⟩) (List.mem_filter.mpr ⟨List.mem_of_getElem? (i := 120) (by decide +kernel), by decide +kernel⟩) (List.mem_filter.mpr ⟨List.mem_of_getElem? (i := 692) (by decide +kernel), by decide +kernel⟩), by decide, by decide, by decide +kernel⟩
theorem mF_AB_73 : Cond.fieldLink RJ_AB 73 (cT 7 2).1 (cT 7 2).2.1 (cT 7 2).2.2.1 ∈ wsA := List.mem_filter.mpr ⟨List.mem_of_getElem? (i := 241) (by decide +kernel), by decide +kernel⟩
theorem kw_SB_50 : GoodIn wsA (va_wsSU RZ7 50 y_AB_append (.code y_AB_append cb_AB_append 2 (some (.object "java/lang/AbstractStringBuilder")) :: wsA)) ∧ y_AB_append.name ≠ "<init>" ∧ (parseMethodDescriptor y_AB_append.desc).map (fun d => d.parameters.length) = some 1 := ⟨gSU (List.mem_filter.mpr ⟨List.mem_of_getElem? (i := 687) (by decide +kernel), by decide +kernel⟩) (List.mem_filter.mpr ⟨List.mem_of_getElem? (i := 1454) (by decide +kernel), by decide +kernel⟩) (List.mem_filter.mpr ⟨List.mem_of_getElem? (i := 252) (by decide +kernel), by decide +kernel⟩) (List.mem_filter.mpr ⟨List.mem_of_getElem? (i := 688) (by decide +kernel), by decide +kernel⟩) (List.mem_filter.mpr ⟨List.mem_of_getElem? (i := 106) (by decide +kernel), by decide +kernel⟩) (List.mem_filter.mpr ⟨List.mem_of_getElem? (i := 689) (by decide +kernel), by decide +kernel⟩), by decide, by decide +kernel⟩
theorem kw_SB_333 : GoodIn wsA (va_wsSU RZ7 333 y_AB_setLength (.code y_AB_setLength cb_AB_setLength 2 none :: wsA)) ∧ y_AB_setLength.name ≠ "<init>" ∧ (parseMethodDescriptor y_AB_setLength.desc).map (fun d => d.parameters.length) = some 1 := ⟨gSU (List.mem_filter.mpr ⟨List.mem_of_getElem? (i := 339) (by decide +kernel), by decide +kernel⟩) (List.mem_filter.mpr ⟨List.mem_of_getElem? (i := 1443) (by decide +kernel), by decide +kernel⟩) (List.mem_filter.mpr ⟨List.mem_of_getElem? (i := 252) (by decide +kernel), by decide +kernel⟩) (List.mem_filter.mpr ⟨List.mem_of_getElem? (i := 340) (by decide +kernel), by decide +kernel⟩) (List.mem_filter.mpr ⟨List.mem_of_getElem? (i := 106) (by decide +kernel), by decide +kernel⟩) (List.mem_filter.mpr ⟨List.mem_of_getElem? (i := 341) (by decide +kernel), by decide +kernel⟩), by decide, by decide +kernel⟩
theorem kw_SB_343 : GoodIn wsA (va_wsSU RZ7 343 y_AB_length (.code y_AB_length cb_AB_length 1 (some .int) :: wsA)) ∧ y_AB_length.name ≠ "<init>" ∧ (parseMethodDescriptor y_AB_length.desc).map (fun d => d.parameters.length) = some 0 := ⟨gSU (List.mem_filter.mpr ⟨List.mem_of_getElem? (i := 519) (by decide +kernel), by decide +kernel⟩) (List.mem_filter.mpr ⟨List.mem_of_getElem? (i := 515) (by decide +kernel), by decide +kernel⟩) (List.mem_filter.mpr ⟨List.mem_of_getElem? (i := 252) (by decide +kernel), by decide +kernel⟩) (List.mem_filter.mpr ⟨List.mem_of_getElem? (i := 514) (by decide +kernel), by decide +kernel⟩) (List.mem_filter.mpr ⟨List.mem_of_getElem? (i := 106) (by decide +kernel), by decide +kernel⟩) (List.mem_filter.mpr ⟨List.mem_of_getElem? (i := 520) (by decide +kernel), by decide +kernel⟩), by decide, by decide +kernel⟩
theorem mO_Str_1 : Cond.methodLink RZ6 1 objectInit ∈ wsA := List.mem_filter.mpr ⟨List.mem_of_getElem? (i := 507) (by decide +kernel), by decide +kernel⟩
theorem kw_Str_552 : (Cond.code y_AB_getValue cb_AB_getValue 1 (some (.array .byte)) ∈ wsA ∧ Cond.initialized y_AB_getValue.cls ∈ wsA ∧ Cond.methodLink RZ6 552 y_AB_getValue ∈ wsA ∧ Cond.instanceMethod y_AB_getValue ∈ wsA) ∧ y_AB_getValue.cls ≠ "java/lang/invoke/MethodHandle" ∧ y_AB_getValue.cls ≠ "java/lang/invoke/VarHandle" ∧ (parseMethodDescriptor y_AB_getValue.desc).map (fun d => d.parameters.length) = some 0 := ⟨⟨List.mem_filter.mpr ⟨List.mem_of_getElem? (i := 512) (by decide +kernel), by decide +kernel⟩, List.mem_filter.mpr ⟨List.mem_of_getElem? (i := 106) (by decide +kernel), by decide +kernel⟩, List.mem_filter.mpr ⟨List.mem_of_getElem? (i := 508) (by decide +kernel), by decide +kernel⟩, List.mem_filter.mpr ⟨List.mem_of_getElem? (i := 509) (by decide +kernel), by decide +kernel⟩⟩, by decide, by decide, by decide +kernel⟩
theorem sel_AB_getValue : Cond.selects (cC 7) y_AB_getValue y_AB_getValue ∈ wsA := List.mem_filter.mpr ⟨List.mem_of_getElem? (i := 511) (by decide +kernel), by decide +kernel⟩
theorem kw_Str_549 : GoodIn wsA (va_wsO RZ6 549 (cC 7) RJ_AB y_AB_length y_SB_length (.code y_SB_length cb_SB_length 1 (some .int) :: wsA)) ∧ Cond.code ⟨RJ_AB, y_AB_length.name, y_AB_length.desc⟩ cb_AB_length 1 (some .int) ∈ wsA ∧ RJ_AB ≠ "java/lang/invoke/MethodHandle" ∧ RJ_AB ≠ "java/lang/invoke/VarHandle" ∧ (parseMethodDescriptor y_AB_length.desc).map (fun d => d.parameters.length) = some 0 := ⟨gO (List.mem_filter.mpr ⟨List.mem_of_getElem? (i := 513) (by decide +kernel), by decide +kernel⟩) (List.mem_filter.mpr ⟨List.mem_of_getElem? (i := 515) (by decide +kernel), by decide +kernel⟩) (List.mem_filter.mpr ⟨List.mem_of_getElem? (i := 514) (by decide +kernel), by decide +kernel⟩) (List.mem_filter.mpr ⟨List.mem_of_getElem? (i := 516) (by decide +kernel), by decide +kernel⟩) (List.mem_filter.mpr ⟨List.mem_of_getElem? (i := 517) (by decide +kernel), by decide +kernel⟩) (List.mem_filter.mpr ⟨List.mem_of_getElem? (i := 107) (by decide +kernel), by decide +kernel⟩) (List.mem_filter.mpr ⟨List.mem_of_getElem? (i := 518) (by decide +kernel), by decide +kernel⟩), List.mem_filter.mpr ⟨List.mem_of_getElem? (i := 520) (by decide +kernel), by decide +kernel⟩, by decide, by decide, by decide +kernel⟩
theorem kw_Str_1047 : (Cond.code y_AB_isLatin1 cb_AB_isLatin1 1 (some .boolean) ∈ wsA ∧ Cond.initialized y_AB_isLatin1.cls ∈ wsA ∧ Cond.methodLink RZ6 1047 y_AB_isLatin1 ∈ wsA ∧ Cond.instanceMethod y_AB_isLatin1 ∈ wsA) ∧ y_AB_isLatin1.cls ≠ "java/lang/invoke/MethodHandle" ∧ y_AB_isLatin1.cls ≠ "java/lang/invoke/VarHandle" ∧ (parseMethodDescriptor y_AB_isLatin1.desc).map (fun d => d.parameters.length) = some 0 := ⟨⟨List.mem_filter.mpr ⟨List.mem_of_getElem? (i := 400) (by decide +kernel), by decide +kernel⟩, List.mem_filter.mpr ⟨List.mem_of_getElem? (i := 106) (by decide +kernel), by decide +kernel⟩, List.mem_filter.mpr ⟨List.mem_of_getElem? (i := 521) (by decide +kernel), by decide +kernel⟩, List.mem_filter.mpr ⟨List.mem_of_getElem? (i := 397) (by decide +kernel), by decide +kernel⟩⟩, by decide, by decide, by decide +kernel⟩
theorem kw_Str_54 : kWS RZ6 54 y_Ar_copyOfRange (.code y_Ar_copyOfRange cb_Ar_copyOfRange 3 (some (.array .byte))) 3 := ⟨gS (List.mem_filter.mpr ⟨List.mem_of_getElem? (i := 522) (by decide +kernel), by decide +kernel⟩) (List.mem_filter.mpr ⟨List.mem_of_getElem? (i := 523) (by decide +kernel), by decide +kernel⟩) (List.mem_filter.mpr ⟨List.mem_of_getElem? (i := 117) (by decide +kernel), by decide +kernel⟩) (List.mem_filter.mpr ⟨List.mem_of_getElem? (i := 524) (by decide +kernel), by decide +kernel⟩), by decide, by decide, by decide +kernel⟩
theorem kw_Str_489 : kWI RZ6 489 y_Str_initAB (.code y_Str_initAB cb_Str_initAB 5 none) 2 := ⟨⟨List.mem_filter.mpr ⟨List.mem_of_getElem? (i := 506) (by decide +kernel), by decide +kernel⟩, List.mem_filter.mpr ⟨List.mem_of_getElem? (i := 108) (by decide +kernel), by decide +kernel⟩, List.mem_filter.mpr ⟨List.mem_of_getElem? (i := 504) (by decide +kernel), by decide +kernel⟩, List.mem_filter.mpr ⟨List.mem_of_getElem? (i := 505) (by decide +kernel), by decide +kernel⟩⟩, rfl, by decide, by decide, by decide +kernel⟩
theorem mC_SB_18 : Cond.classLink RZ7 18 (cC 6) ∈ wsA := List.mem_filter.mpr ⟨List.mem_of_getElem? (i := 499) (by decide +kernel), by decide +kernel⟩
theorem mI_6 : Cond.instantiable (cC 6) 4 ∈ wsA := List.mem_filter.mpr ⟨List.mem_of_getElem? (i := 500) (by decide +kernel), by decide +kernel⟩
theorem mN_6 : Cond.initialized (cC 6) ∈ wsA := List.mem_filter.mpr ⟨List.mem_of_getElem? (i := 108) (by decide +kernel), by decide +kernel⟩
theorem kw_SB_137 : kWI RZ7 137 y_Str_initSB (.code y_Str_initSB cb_Str_initSB 2 none) 1 := ⟨⟨List.mem_filter.mpr ⟨List.mem_of_getElem? (i := 503) (by decide +kernel), by decide +kernel⟩, List.mem_filter.mpr ⟨List.mem_of_getElem? (i := 108) (by decide +kernel), by decide +kernel⟩, List.mem_filter.mpr ⟨List.mem_of_getElem? (i := 501) (by decide +kernel), by decide +kernel⟩, List.mem_filter.mpr ⟨List.mem_of_getElem? (i := 502) (by decide +kernel), by decide +kernel⟩⟩, rfl, by decide, by decide, by decide +kernel⟩
theorem d_Ma_max_0 : decode cb_Ma_max 0 = .ok (.iload_n 0, 1) := by decide +kernel
theorem d_Ma_max_1 : decode cb_Ma_max 1 = .ok (.iload_n 1, 1) := by decide +kernel
theorem d_Ma_max_2 : decode cb_Ma_max 2 = .ok (.if_icmp .lt 7, 3) := by decide +kernel
theorem d_Ma_max_5 : decode cb_Ma_max 5 = .ok (.iload_n 0, 1) := by decide +kernel
theorem d_Ma_max_6 : decode cb_Ma_max 6 = .ok (.goto 4, 3) := by decide +kernel
theorem d_Ma_max_9 : decode cb_Ma_max 9 = .ok (.iload_n 1, 1) := by decide +kernel
theorem d_Ma_max_10 : decode cb_Ma_max 10 = .ok (.ireturn, 1) := by decide +kernel
theorem d_Ma_min_0 : decode cb_Ma_min 0 = .ok (.iload_n 0, 1) := by decide +kernel
theorem d_Ma_min_1 : decode cb_Ma_min 1 = .ok (.iload_n 1, 1) := by decide +kernel
theorem d_Ma_min_2 : decode cb_Ma_min 2 = .ok (.if_icmp .gt 7, 3) := by decide +kernel
theorem d_Ma_min_5 : decode cb_Ma_min 5 = .ok (.iload_n 0, 1) := by decide +kernel
theorem d_Ma_min_6 : decode cb_Ma_min 6 = .ok (.goto 4, 3) := by decide +kernel
theorem d_Ma_min_9 : decode cb_Ma_min 9 = .ok (.iload_n 1, 1) := by decide +kernel
theorem d_Ma_min_10 : decode cb_Ma_min 10 = .ok (.ireturn, 1) := by decide +kernel
theorem d_AS_newLength_0 : decode cb_AS_newLength 0 = .ok (.iload_n 0, 1) := by decide +kernel
theorem d_AS_newLength_1 : decode cb_AS_newLength 1 = .ok (.iload_n 1, 1) := by decide +kernel
theorem d_AS_newLength_2 : decode cb_AS_newLength 2 = .ok (.iload_n 2, 1) := by decide +kernel
theorem d_AS_newLength_3 : decode cb_AS_newLength 3 = .ok (.invokestatic 194, 3) := by decide +kernel
theorem d_AS_newLength_6 : decode cb_AS_newLength 6 = .ok (.iadd, 1) := by decide +kernel
theorem d_AS_newLength_7 : decode cb_AS_newLength 7 = .ok (.istore_n 3, 1) := by decide +kernel
theorem d_AS_newLength_8 : decode cb_AS_newLength 8 = .ok (.iconst 0, 1) := by decide +kernel
theorem d_AS_newLength_9 : decode cb_AS_newLength 9 = .ok (.iload_n 3, 1) := by decide +kernel
theorem d_AS_newLength_10 : decode cb_AS_newLength 10 = .ok (.if_icmp .ge 11, 3) := by decide +kernel
theorem d_AS_newLength_13 : decode cb_AS_newLength 13 = .ok (.iload_n 3, 1) := by decide +kernel
theorem d_AS_newLength_14 : decode cb_AS_newLength 14 = .ok (.ldc 200, 2) := by decide +kernel
theorem d_AS_newLength_16 : decode cb_AS_newLength 16 = .ok (.if_icmp .gt 5, 3) := by decide +kernel
theorem d_AS_newLength_19 : decode cb_AS_newLength 19 = .ok (.iload_n 3, 1) := by decide +kernel
theorem d_AS_newLength_20 : decode cb_AS_newLength 20 = .ok (.ireturn, 1) := by decide +kernel
theorem d_AS_newLength_21 : decode cb_AS_newLength 21 = .ok (.iload_n 0, 1) := by decide +kernel
theorem d_AS_newLength_22 : decode cb_AS_newLength 22 = .ok (.iload_n 1, 1) := by decide +kernel
theorem d_AS_newLength_23 : decode cb_AS_newLength 23 = .ok (.invokestatic 201, 3) := by decide +kernel
theorem d_AS_newLength_26 : decode cb_AS_newLength 26 = .ok (.ireturn, 1) := by decide +kernel
theorem d_Ar_copyOf_0 : decode cb_Ar_copyOf 0 = .ok (.iload_n 1, 1) := by decide +kernel
theorem d_Ar_copyOf_1 : decode cb_Ar_copyOf 1 = .ok (.aload_n 0, 1) := by decide +kernel
theorem d_Ar_copyOf_2 : decode cb_Ar_copyOf 2 = .ok (.arraylength, 1) := by decide +kernel
theorem d_Ar_copyOf_3 : decode cb_Ar_copyOf 3 = .ok (.if_icmp .ne 11, 3) := by decide +kernel
theorem d_Ar_copyOf_6 : decode cb_Ar_copyOf 6 = .ok (.aload_n 0, 1) := by decide +kernel
theorem d_Ar_copyOf_7 : decode cb_Ar_copyOf 7 = .ok (.invokevirtual 310, 3) := by decide +kernel
theorem d_Ar_copyOf_10 : decode cb_Ar_copyOf 10 = .ok (.checkcast 311, 3) := by decide +kernel
theorem d_Ar_copyOf_13 : decode cb_Ar_copyOf 13 = .ok (.areturn, 1) := by decide +kernel
theorem d_Ar_copyOf_14 : decode cb_Ar_copyOf 14 = .ok (.iload_n 1, 1) := by decide +kernel
theorem d_Ar_copyOf_15 : decode cb_Ar_copyOf 15 = .ok (.newarray .byte, 2) := by decide +kernel
theorem d_Ar_copyOf_17 : decode cb_Ar_copyOf 17 = .ok (.astore_n 2, 1) := by decide +kernel
theorem d_Ar_copyOf_18 : decode cb_Ar_copyOf 18 = .ok (.aload_n 0, 1) := by decide +kernel
theorem d_Ar_copyOf_19 : decode cb_Ar_copyOf 19 = .ok (.iconst 0, 1) := by decide +kernel
theorem d_Ar_copyOf_20 : decode cb_Ar_copyOf 20 = .ok (.aload_n 2, 1) := by decide +kernel
theorem d_Ar_copyOf_21 : decode cb_Ar_copyOf 21 = .ok (.iconst 0, 1) := by decide +kernel
theorem d_Ar_copyOf_22 : decode cb_Ar_copyOf 22 = .ok (.aload_n 0, 1) := by decide +kernel
theorem d_Ar_copyOf_23 : decode cb_Ar_copyOf 23 = .ok (.arraylength, 1) := by decide +kernel
theorem d_Ar_copyOf_24 : decode cb_Ar_copyOf 24 = .ok (.iload_n 1, 1) := by decide +kernel
theorem d_Ar_copyOf_25 : decode cb_Ar_copyOf 25 = .ok (.invokestatic 304, 3) := by decide +kernel
theorem d_Ar_copyOf_28 : decode cb_Ar_copyOf 28 = .ok (.invokestatic 150, 3) := by decide +kernel
theorem d_Ar_copyOf_31 : decode cb_Ar_copyOf 31 = .ok (.aload_n 2, 1) := by decide +kernel
theorem d_Ar_copyOf_32 : decode cb_Ar_copyOf 32 = .ok (.areturn, 1) := by decide +kernel
theorem d_Ar_checkLength_0 : decode cb_Ar_checkLength 0 = .ok (.iload_n 1, 1) := by decide +kernel
theorem d_Ar_checkLength_1 : decode cb_Ar_checkLength 1 = .ok (.iload_n 0, 1) := by decide +kernel
theorem d_Ar_checkLength_2 : decode cb_Ar_checkLength 2 = .ok (.if_icmp .ge 35, 3) := by decide +kernel
theorem d_Ar_checkLength_5 : decode cb_Ar_checkLength 5 = .ok (.new 43, 3) := by decide +kernel
theorem d_Ar_checkLength_8 : decode cb_Ar_checkLength 8 = .ok (.dup, 1) := by decide +kernel
theorem d_Ar_checkLength_9 : decode cb_Ar_checkLength 9 = .ok (.new 45, 3) := by decide +kernel
theorem d_Ar_checkLength_12 : decode cb_Ar_checkLength 12 = .ok (.dup, 1) := by decide +kernel
theorem d_Ar_checkLength_13 : decode cb_Ar_checkLength 13 = .ok (.invokespecial 47, 3) := by decide +kernel
theorem d_Ar_checkLength_16 : decode cb_Ar_checkLength 16 = .ok (.iload_n 0, 1) := by decide +kernel
theorem d_Ar_checkLength_17 : decode cb_Ar_checkLength 17 = .ok (.invokevirtual 54, 3) := by decide +kernel
theorem d_Ar_checkLength_20 : decode cb_Ar_checkLength 20 = .ok (.ldc_w 337, 3) := by decide +kernel
theorem d_Ar_checkLength_23 : decode cb_Ar_checkLength 23 = .ok (.invokevirtual 50, 3) := by decide +kernel
theorem d_Ar_checkLength_26 : decode cb_Ar_checkLength 26 = .ok (.iload_n 1, 1) := by decide +kernel
theorem d_Ar_checkLength_27 : decode cb_Ar_checkLength 27 = .ok (.invokevirtual 54, 3) := by decide +kernel
theorem d_Ar_checkLength_30 : decode cb_Ar_checkLength 30 = .ok (.invokevirtual 61, 3) := by decide +kernel
theorem d_Ar_checkLength_33 : decode cb_Ar_checkLength 33 = .ok (.invokespecial 65, 3) := by decide +kernel
theorem d_Ar_checkLength_36 : decode cb_Ar_checkLength 36 = .ok (.athrow, 1) := by decide +kernel
theorem d_Ar_checkLength_37 : decode cb_Ar_checkLength 37 = .ok (.return_, 1) := by decide +kernel
theorem d_Ar_copyOfRangeByte_0 : decode cb_Ar_copyOfRangeByte 0 = .ok (.iload_n 1, 1) := by decide +kernel
theorem d_Ar_copyOfRangeByte_1 : decode cb_Ar_copyOfRangeByte 1 = .ok (.iload_n 2, 1) := by decide +kernel
theorem d_Ar_copyOfRangeByte_2 : decode cb_Ar_copyOfRangeByte 2 = .ok (.invokestatic 343, 3) := by decide +kernel
theorem d_Ar_copyOfRangeByte_5 : decode cb_Ar_copyOfRangeByte 5 = .ok (.iload_n 2, 1) := by decide +kernel
theorem d_Ar_copyOfRangeByte_6 : decode cb_Ar_copyOfRangeByte 6 = .ok (.iload_n 1, 1) := by decide +kernel
theorem d_Ar_copyOfRangeByte_7 : decode cb_Ar_copyOfRangeByte 7 = .ok (.isub, 1) := by decide +kernel
theorem d_Ar_copyOfRangeByte_8 : decode cb_Ar_copyOfRangeByte 8 = .ok (.istore_n 3, 1) := by decide +kernel
theorem d_Ar_copyOfRangeByte_9 : decode cb_Ar_copyOfRangeByte 9 = .ok (.iload_n 3, 1) := by decide +kernel
theorem d_Ar_copyOfRangeByte_10 : decode cb_Ar_copyOfRangeByte 10 = .ok (.newarray .byte, 2) := by decide +kernel
theorem d_Ar_copyOfRangeByte_12 : decode cb_Ar_copyOfRangeByte 12 = .ok (.astore 4, 2) := by decide +kernel
theorem d_Ar_copyOfRangeByte_14 : decode cb_Ar_copyOfRangeByte 14 = .ok (.aload_n 0, 1) := by decide +kernel
theorem d_Ar_copyOfRangeByte_15 : decode cb_Ar_copyOfRangeByte 15 = .ok (.iload_n 1, 1) := by decide +kernel
theorem d_Ar_copyOfRangeByte_16 : decode cb_Ar_copyOfRangeByte 16 = .ok (.aload 4, 2) := by decide +kernel
theorem d_Ar_copyOfRangeByte_18 : decode cb_Ar_copyOfRangeByte 18 = .ok (.iconst 0, 1) := by decide +kernel
theorem d_Ar_copyOfRangeByte_19 : decode cb_Ar_copyOfRangeByte 19 = .ok (.aload_n 0, 1) := by decide +kernel
theorem d_Ar_copyOfRangeByte_20 : decode cb_Ar_copyOfRangeByte 20 = .ok (.arraylength, 1) := by decide +kernel
theorem d_Ar_copyOfRangeByte_21 : decode cb_Ar_copyOfRangeByte 21 = .ok (.iload_n 1, 1) := by decide +kernel
theorem d_Ar_copyOfRangeByte_22 : decode cb_Ar_copyOfRangeByte 22 = .ok (.isub, 1) := by decide +kernel
theorem d_Ar_copyOfRangeByte_23 : decode cb_Ar_copyOfRangeByte 23 = .ok (.iload_n 3, 1) := by decide +kernel
theorem d_Ar_copyOfRangeByte_24 : decode cb_Ar_copyOfRangeByte 24 = .ok (.invokestatic 304, 3) := by decide +kernel
theorem d_Ar_copyOfRangeByte_27 : decode cb_Ar_copyOfRangeByte 27 = .ok (.invokestatic 150, 3) := by decide +kernel
theorem d_Ar_copyOfRangeByte_30 : decode cb_Ar_copyOfRangeByte 30 = .ok (.aload 4, 2) := by decide +kernel
theorem d_Ar_copyOfRangeByte_32 : decode cb_Ar_copyOfRangeByte 32 = .ok (.areturn, 1) := by decide +kernel
theorem d_Ar_copyOfRange_0 : decode cb_Ar_copyOfRange 0 = .ok (.iload_n 1, 1) := by decide +kernel
theorem d_Ar_copyOfRange_1 : decode cb_Ar_copyOfRange 1 = .ok (.ifCond .ne 9, 3) := by decide +kernel
theorem d_Ar_copyOfRange_4 : decode cb_Ar_copyOfRange 4 = .ok (.iload_n 2, 1) := by decide +kernel
theorem d_Ar_copyOfRange_5 : decode cb_Ar_copyOfRange 5 = .ok (.aload_n 0, 1) := by decide +kernel
theorem d_Ar_copyOfRange_6 : decode cb_Ar_copyOfRange 6 = .ok (.arraylength, 1) := by decide +kernel
theorem d_Ar_copyOfRange_7 : decode cb_Ar_copyOfRange 7 = .ok (.if_icmp .eq 10, 3) := by decide +kernel
theorem d_Ar_copyOfRange_10 : decode cb_Ar_copyOfRange 10 = .ok (.aload_n 0, 1) := by decide +kernel
theorem d_Ar_copyOfRange_11 : decode cb_Ar_copyOfRange 11 = .ok (.iload_n 1, 1) := by decide +kernel
theorem d_Ar_copyOfRange_12 : decode cb_Ar_copyOfRange 12 = .ok (.iload_n 2, 1) := by decide +kernel
theorem d_Ar_copyOfRange_13 : decode cb_Ar_copyOfRange 13 = .ok (.invokestatic 339, 3) := by decide +kernel
theorem d_Ar_copyOfRange_16 : decode cb_Ar_copyOfRange 16 = .ok (.areturn, 1) := by decide +kernel
theorem d_Ar_copyOfRange_17 : decode cb_Ar_copyOfRange 17 = .ok (.aload_n 0, 1) := by decide +kernel
theorem d_Ar_copyOfRange_18 : decode cb_Ar_copyOfRange 18 = .ok (.invokevirtual 310, 3) := by decide +kernel
theorem d_Ar_copyOfRange_21 : decode cb_Ar_copyOfRange 21 = .ok (.checkcast 311, 3) := by decide +kernel
theorem d_Ar_copyOfRange_24 : decode cb_Ar_copyOfRange 24 = .ok (.areturn, 1) := by decide +kernel
theorem d_Ar_copyOfC_0 : decode cb_Ar_copyOfC 0 = .ok (.aload_n 2, 1) := by decide +kernel
theorem d_Ar_copyOfC_1 : decode cb_Ar_copyOfC 1 = .ok (.ldc 110, 2) := by decide +kernel
theorem d_Ar_copyOfC_3 : decode cb_Ar_copyOfC 3 = .ok (.if_acmp .ne 10, 3) := by decide +kernel
theorem d_Ar_copyOfC_6 : decode cb_Ar_copyOfC 6 = .ok (.iload_n 1, 1) := by decide +kernel
theorem d_Ar_copyOfC_7 : decode cb_Ar_copyOfC 7 = .ok (.anewarray 2, 3) := by decide +kernel
theorem d_Ar_copyOfC_10 : decode cb_Ar_copyOfC 10 = .ok (.goto 14, 3) := by decide +kernel
theorem d_Ar_copyOfC_13 : decode cb_Ar_copyOfC 13 = .ok (.aload_n 2, 1) := by decide +kernel
theorem d_Ar_copyOfC_14 : decode cb_Ar_copyOfC 14 = .ok (.invokevirtual 90, 3) := by decide +kernel
theorem d_Ar_copyOfC_17 : decode cb_Ar_copyOfC 17 = .ok (.iload_n 1, 1) := by decide +kernel
theorem d_Ar_copyOfC_18 : decode cb_Ar_copyOfC 18 = .ok (.invokestatic 95, 3) := by decide +kernel
theorem d_Ar_copyOfC_21 : decode cb_Ar_copyOfC 21 = .ok (.checkcast 110, 3) := by decide +kernel
theorem d_Ar_copyOfC_24 : decode cb_Ar_copyOfC 24 = .ok (.astore_n 3, 1) := by decide +kernel
theorem d_Ar_copyOfC_25 : decode cb_Ar_copyOfC 25 = .ok (.aload_n 0, 1) := by decide +kernel
theorem d_Ar_copyOfC_26 : decode cb_Ar_copyOfC 26 = .ok (.iconst 0, 1) := by decide +kernel
theorem d_Ar_copyOfC_27 : decode cb_Ar_copyOfC 27 = .ok (.aload_n 3, 1) := by decide +kernel
theorem d_Ar_copyOfC_28 : decode cb_Ar_copyOfC 28 = .ok (.iconst 0, 1) := by decide +kernel
theorem d_Ar_copyOfC_29 : decode cb_Ar_copyOfC 29 = .ok (.aload_n 0, 1) := by decide +kernel
theorem d_Ar_copyOfC_30 : decode cb_Ar_copyOfC 30 = .ok (.arraylength, 1) := by decide +kernel
theorem d_Ar_copyOfC_31 : decode cb_Ar_copyOfC 31 = .ok (.iload_n 1, 1) := by decide +kernel
theorem d_Ar_copyOfC_32 : decode cb_Ar_copyOfC 32 = .ok (.invokestatic 304, 3) := by decide +kernel
theorem d_Ar_copyOfC_35 : decode cb_Ar_copyOfC 35 = .ok (.invokestatic 150, 3) := by decide +kernel
theorem d_Ar_copyOfC_38 : decode cb_Ar_copyOfC 38 = .ok (.aload_n 3, 1) := by decide +kernel
theorem d_Ar_copyOfC_39 : decode cb_Ar_copyOfC 39 = .ok (.areturn, 1) := by decide +kernel
theorem d_Ar_copyOfO_0 : decode cb_Ar_copyOfO 0 = .ok (.aload_n 0, 1) := by decide +kernel
theorem d_Ar_copyOfO_1 : decode cb_Ar_copyOfO 1 = .ok (.iload_n 1, 1) := by decide +kernel
theorem d_Ar_copyOfO_2 : decode cb_Ar_copyOfO 2 = .ok (.aload_n 0, 1) := by decide +kernel
theorem d_Ar_copyOfO_3 : decode cb_Ar_copyOfO 3 = .ok (.invokevirtual 86, 3) := by decide +kernel
theorem d_Ar_copyOfO_6 : decode cb_Ar_copyOfO 6 = .ok (.invokestatic 300, 3) := by decide +kernel
theorem d_Ar_copyOfO_9 : decode cb_Ar_copyOfO 9 = .ok (.areturn, 1) := by decide +kernel
theorem d_AL_grow1_0 : decode cb_AL_grow1 0 = .ok (.aload_n 0, 1) := by decide +kernel
theorem d_AL_grow1_1 : decode cb_AL_grow1 1 = .ok (.getfield 9, 3) := by decide +kernel
theorem d_AL_grow1_4 : decode cb_AL_grow1 4 = .ok (.arraylength, 1) := by decide +kernel
theorem d_AL_grow1_5 : decode cb_AL_grow1 5 = .ok (.istore_n 2, 1) := by decide +kernel
theorem d_AL_grow1_6 : decode cb_AL_grow1 6 = .ok (.iload_n 2, 1) := by decide +kernel
theorem d_AL_grow1_7 : decode cb_AL_grow1 7 = .ok (.ifCond .gt 13, 3) := by decide +kernel
theorem d_AL_grow1_10 : decode cb_AL_grow1 10 = .ok (.aload_n 0, 1) := by decide +kernel
theorem d_AL_grow1_11 : decode cb_AL_grow1 11 = .ok (.getfield 9, 3) := by decide +kernel
theorem d_AL_grow1_14 : decode cb_AL_grow1 14 = .ok (.getstatic 39, 3) := by decide +kernel
theorem d_AL_grow1_17 : decode cb_AL_grow1 17 = .ok (.if_acmp .eq 28, 3) := by decide +kernel
theorem d_AL_grow1_20 : decode cb_AL_grow1 20 = .ok (.iload_n 2, 1) := by decide +kernel
theorem d_AL_grow1_21 : decode cb_AL_grow1 21 = .ok (.iload_n 1, 1) := by decide +kernel
theorem d_AL_grow1_22 : decode cb_AL_grow1 22 = .ok (.iload_n 2, 1) := by decide +kernel
theorem d_AL_grow1_23 : decode cb_AL_grow1 23 = .ok (.isub, 1) := by decide +kernel
theorem d_AL_grow1_24 : decode cb_AL_grow1 24 = .ok (.iload_n 2, 1) := by decide +kernel
theorem d_AL_grow1_25 : decode cb_AL_grow1 25 = .ok (.iconst 1, 1) := by decide +kernel
theorem d_AL_grow1_26 : decode cb_AL_grow1 26 = .ok (.ishr, 1) := by decide +kernel
theorem d_AL_grow1_27 : decode cb_AL_grow1 27 = .ok (.invokestatic 73, 3) := by decide +kernel
theorem d_AL_grow1_30 : decode cb_AL_grow1 30 = .ok (.istore_n 3, 1) := by decide +kernel
theorem d_AL_grow1_31 : decode cb_AL_grow1 31 = .ok (.aload_n 0, 1) := by decide +kernel
theorem d_AL_grow1_32 : decode cb_AL_grow1 32 = .ok (.aload_n 0, 1) := by decide +kernel
theorem d_AL_grow1_33 : decode cb_AL_grow1 33 = .ok (.getfield 9, 3) := by decide +kernel
theorem d_AL_grow1_36 : decode cb_AL_grow1 36 = .ok (.iload_n 3, 1) := by decide +kernel
theorem d_AL_grow1_37 : decode cb_AL_grow1 37 = .ok (.invokestatic 66, 3) := by decide +kernel
theorem d_AL_grow1_40 : decode cb_AL_grow1 40 = .ok (.dup_x1, 1) := by decide +kernel
theorem d_AL_grow1_41 : decode cb_AL_grow1 41 = .ok (.putfield 9, 3) := by decide +kernel
theorem d_AL_grow1_44 : decode cb_AL_grow1 44 = .ok (.areturn, 1) := by decide +kernel
theorem d_AL_grow1_45 : decode cb_AL_grow1 45 = .ok (.aload_n 0, 1) := by decide +kernel
theorem d_AL_grow1_46 : decode cb_AL_grow1 46 = .ok (.bipush 10, 2) := by decide +kernel
theorem d_AL_grow1_48 : decode cb_AL_grow1 48 = .ok (.iload_n 1, 1) := by decide +kernel
theorem d_AL_grow1_49 : decode cb_AL_grow1 49 = .ok (.invokestatic 79, 3) := by decide +kernel
theorem d_AL_grow1_52 : decode cb_AL_grow1 52 = .ok (.anewarray 7, 3) := by decide +kernel
theorem d_AL_grow1_55 : decode cb_AL_grow1 55 = .ok (.dup_x1, 1) := by decide +kernel
theorem d_AL_grow1_56 : decode cb_AL_grow1 56 = .ok (.putfield 9, 3) := by decide +kernel
theorem d_AL_grow1_59 : decode cb_AL_grow1 59 = .ok (.areturn, 1) := by decide +kernel
theorem d_AL_grow_0 : decode cb_AL_grow 0 = .ok (.aload_n 0, 1) := by decide +kernel
theorem d_AL_grow_1 : decode cb_AL_grow 1 = .ok (.aload_n 0, 1) := by decide +kernel
theorem d_AL_grow_2 : decode cb_AL_grow 2 = .ok (.getfield 48, 3) := by decide +kernel
theorem d_AL_grow_5 : decode cb_AL_grow 5 = .ok (.iconst 1, 1) := by decide +kernel
theorem d_AL_grow_6 : decode cb_AL_grow 6 = .ok (.iadd, 1) := by decide +kernel
theorem d_AL_grow_7 : decode cb_AL_grow 7 = .ok (.invokevirtual 69, 3) := by decide +kernel
theorem d_AL_grow_10 : decode cb_AL_grow 10 = .ok (.areturn, 1) := by decide +kernel
theorem d_AL_add3_0 : decode cb_AL_add3 0 = .ok (.iload_n 3, 1) := by decide +kernel
theorem d_AL_add3_1 : decode cb_AL_add3 1 = .ok (.aload_n 2, 1) := by decide +kernel
theorem d_AL_add3_2 : decode cb_AL_add3 2 = .ok (.arraylength, 1) := by decide +kernel
theorem d_AL_add3_3 : decode cb_AL_add3 3 = .ok (.if_icmp .ne 8, 3) := by decide +kernel
theorem d_AL_add3_6 : decode cb_AL_add3 6 = .ok (.aload_n 0, 1) := by decide +kernel
theorem d_AL_add3_7 : decode cb_AL_add3 7 = .ok (.invokevirtual 129, 3) := by decide +kernel
theorem d_AL_add3_10 : decode cb_AL_add3 10 = .ok (.astore_n 2, 1) := by decide +kernel
theorem d_AL_add3_11 : decode cb_AL_add3 11 = .ok (.aload_n 2, 1) := by decide +kernel
theorem d_AL_add3_12 : decode cb_AL_add3 12 = .ok (.iload_n 3, 1) := by decide +kernel
theorem d_AL_add3_13 : decode cb_AL_add3 13 = .ok (.aload_n 1, 1) := by decide +kernel
theorem d_AL_add3_14 : decode cb_AL_add3 14 = .ok (.aastore, 1) := by decide +kernel
theorem d_AL_add3_15 : decode cb_AL_add3 15 = .ok (.aload_n 0, 1) := by decide +kernel
theorem d_AL_add3_16 : decode cb_AL_add3 16 = .ok (.iload_n 3, 1) := by decide +kernel
theorem d_AL_add3_17 : decode cb_AL_add3 17 = .ok (.iconst 1, 1) := by decide +kernel
theorem d_AL_add3_18 : decode cb_AL_add3 18 = .ok (.iadd, 1) := by decide +kernel
theorem d_AL_add3_19 : decode cb_AL_add3 19 = .ok (.putfield 48, 3) := by decide +kernel
theorem d_AL_add3_22 : decode cb_AL_add3 22 = .ok (.return_, 1) := by decide +kernel
theorem d_AL_add_0 : decode cb_AL_add 0 = .ok (.aload_n 0, 1) := by decide +kernel
theorem d_AL_add_1 : decode cb_AL_add 1 = .ok (.dup, 1) := by decide +kernel
theorem d_AL_add_2 : decode cb_AL_add 2 = .ok (.getfield 63, 3) := by decide +kernel
theorem d_AL_add_5 : decode cb_AL_add 5 = .ok (.iconst 1, 1) := by decide +kernel
theorem d_AL_add_6 : decode cb_AL_add 6 = .ok (.iadd, 1) := by decide +kernel
theorem d_AL_add_7 : decode cb_AL_add 7 = .ok (.putfield 63, 3) := by decide +kernel
theorem d_AL_add_10 : decode cb_AL_add 10 = .ok (.aload_n 0, 1) := by decide +kernel
theorem d_AL_add_11 : decode cb_AL_add 11 = .ok (.aload_n 1, 1) := by decide +kernel
theorem d_AL_add_12 : decode cb_AL_add 12 = .ok (.aload_n 0, 1) := by decide +kernel
theorem d_AL_add_13 : decode cb_AL_add 13 = .ok (.getfield 9, 3) := by decide +kernel
theorem d_AL_add_16 : decode cb_AL_add 16 = .ok (.aload_n 0, 1) := by decide +kernel
theorem d_AL_add_17 : decode cb_AL_add 17 = .ok (.getfield 48, 3) := by decide +kernel
theorem d_AL_add_20 : decode cb_AL_add 20 = .ok (.invokevirtual 131, 3) := by decide +kernel
theorem d_AL_add_23 : decode cb_AL_add 23 = .ok (.iconst 1, 1) := by decide +kernel
theorem d_AL_add_24 : decode cb_AL_add 24 = .ok (.ireturn, 1) := by decide +kernel
theorem d_AB_newCapacity_0 : decode cb_AB_newCapacity 0 = .ok (.aload_n 0, 1) := by decide +kernel
theorem d_AB_newCapacity_1 : decode cb_AB_newCapacity 1 = .ok (.getfield 15, 3) := by decide +kernel
theorem d_AB_newCapacity_4 : decode cb_AB_newCapacity 4 = .ok (.arraylength, 1) := by decide +kernel
theorem d_AB_newCapacity_5 : decode cb_AB_newCapacity 5 = .ok (.istore_n 2, 1) := by decide +kernel
theorem d_AB_newCapacity_6 : decode cb_AB_newCapacity 6 = .ok (.iload_n 1, 1) := by decide +kernel
theorem d_AB_newCapacity_7 : decode cb_AB_newCapacity 7 = .ok (.aload_n 0, 1) := by decide +kernel
theorem d_AB_newCapacity_8 : decode cb_AB_newCapacity 8 = .ok (.getfield 22, 3) := by decide +kernel
theorem d_AB_newCapacity_11 : decode cb_AB_newCapacity 11 = .ok (.ishl, 1) := by decide +kernel
theorem d_AB_newCapacity_12 : decode cb_AB_newCapacity 12 = .ok (.istore_n 3, 1) := by decide +kernel
theorem d_AB_newCapacity_13 : decode cb_AB_newCapacity 13 = .ok (.iload_n 3, 1) := by decide +kernel
theorem d_AB_newCapacity_14 : decode cb_AB_newCapacity 14 = .ok (.iload_n 2, 1) := by decide +kernel
theorem d_AB_newCapacity_15 : decode cb_AB_newCapacity 15 = .ok (.isub, 1) := by decide +kernel
theorem d_AB_newCapacity_16 : decode cb_AB_newCapacity 16 = .ok (.istore 4, 2) := by decide +kernel
theorem d_AB_newCapacity_18 : decode cb_AB_newCapacity 18 = .ok (.iload_n 2, 1) := by decide +kernel
theorem d_AB_newCapacity_19 : decode cb_AB_newCapacity 19 = .ok (.iload 4, 2) := by decide +kernel
theorem d_AB_newCapacity_21 : decode cb_AB_newCapacity 21 = .ok (.iload_n 2, 1) := by decide +kernel
theorem d_AB_newCapacity_22 : decode cb_AB_newCapacity 22 = .ok (.iconst 2, 1) := by decide +kernel
theorem d_AB_newCapacity_23 : decode cb_AB_newCapacity 23 = .ok (.aload_n 0, 1) := by decide +kernel
theorem d_AB_newCapacity_24 : decode cb_AB_newCapacity 24 = .ok (.getfield 22, 3) := by decide +kernel
theorem d_AB_newCapacity_27 : decode cb_AB_newCapacity 27 = .ok (.ishl, 1) := by decide +kernel
theorem d_AB_newCapacity_28 : decode cb_AB_newCapacity 28 = .ok (.iadd, 1) := by decide +kernel
theorem d_AB_newCapacity_29 : decode cb_AB_newCapacity 29 = .ok (.invokestatic 114, 3) := by decide +kernel
theorem d_AB_newCapacity_32 : decode cb_AB_newCapacity 32 = .ok (.istore 5, 2) := by decide +kernel
theorem d_AB_newCapacity_34 : decode cb_AB_newCapacity 34 = .ok (.iload 5, 2) := by decide +kernel
theorem d_AB_newCapacity_36 : decode cb_AB_newCapacity 36 = .ok (.ldc 39, 2) := by decide +kernel
theorem d_AB_newCapacity_38 : decode cb_AB_newCapacity 38 = .ok (.if_icmp .ne 13, 3) := by decide +kernel
theorem d_AB_newCapacity_41 : decode cb_AB_newCapacity 41 = .ok (.new 120, 3) := by decide +kernel
theorem d_AB_newCapacity_44 : decode cb_AB_newCapacity 44 = .ok (.dup, 1) := by decide +kernel
theorem d_AB_newCapacity_45 : decode cb_AB_newCapacity 45 = .ok (.ldc 122, 2) := by decide +kernel
theorem d_AB_newCapacity_47 : decode cb_AB_newCapacity 47 = .ok (.invokespecial 124, 3) := by decide +kernel
theorem d_AB_newCapacity_50 : decode cb_AB_newCapacity 50 = .ok (.athrow, 1) := by decide +kernel
theorem d_AB_newCapacity_51 : decode cb_AB_newCapacity 51 = .ok (.iload 5, 2) := by decide +kernel
theorem d_AB_newCapacity_53 : decode cb_AB_newCapacity 53 = .ok (.aload_n 0, 1) := by decide +kernel
theorem d_AB_newCapacity_54 : decode cb_AB_newCapacity 54 = .ok (.getfield 22, 3) := by decide +kernel
theorem d_AB_newCapacity_57 : decode cb_AB_newCapacity 57 = .ok (.ishr, 1) := by decide +kernel
theorem d_AB_newCapacity_58 : decode cb_AB_newCapacity 58 = .ok (.ireturn, 1) := by decide +kernel
theorem d_AB_ensureCapacityInternal_0 : decode cb_AB_ensureCapacityInternal 0 = .ok (.aload_n 0, 1) := by decide +kernel
theorem d_AB_ensureCapacityInternal_1 : decode cb_AB_ensureCapacityInternal 1 = .ok (.getfield 15, 3) := by decide +kernel
theorem d_AB_ensureCapacityInternal_4 : decode cb_AB_ensureCapacityInternal 4 = .ok (.arraylength, 1) := by decide +kernel
theorem d_AB_ensureCapacityInternal_5 : decode cb_AB_ensureCapacityInternal 5 = .ok (.aload_n 0, 1) := by decide +kernel
theorem d_AB_ensureCapacityInternal_6 : decode cb_AB_ensureCapacityInternal 6 = .ok (.getfield 22, 3) := by decide +kernel
theorem d_AB_ensureCapacityInternal_9 : decode cb_AB_ensureCapacityInternal 9 = .ok (.ishr, 1) := by decide +kernel
theorem d_AB_ensureCapacityInternal_10 : decode cb_AB_ensureCapacityInternal 10 = .ok (.istore_n 2, 1) := by decide +kernel
theorem d_AB_ensureCapacityInternal_11 : decode cb_AB_ensureCapacityInternal 11 = .ok (.iload_n 1, 1) := by decide +kernel
theorem d_AB_ensureCapacityInternal_12 : decode cb_AB_ensureCapacityInternal 12 = .ok (.iload_n 2, 1) := by decide +kernel
theorem d_AB_ensureCapacityInternal_13 : decode cb_AB_ensureCapacityInternal 13 = .ok (.isub, 1) := by decide +kernel
theorem d_AB_ensureCapacityInternal_14 : decode cb_AB_ensureCapacityInternal 14 = .ok (.ifCond .le 24, 3) := by decide +kernel
theorem d_AB_ensureCapacityInternal_17 : decode cb_AB_ensureCapacityInternal 17 = .ok (.aload_n 0, 1) := by decide +kernel
theorem d_AB_ensureCapacityInternal_18 : decode cb_AB_ensureCapacityInternal 18 = .ok (.aload_n 0, 1) := by decide +kernel
theorem d_AB_ensureCapacityInternal_19 : decode cb_AB_ensureCapacityInternal 19 = .ok (.getfield 15, 3) := by decide +kernel
theorem d_AB_ensureCapacityInternal_22 : decode cb_AB_ensureCapacityInternal 22 = .ok (.aload_n 0, 1) := by decide +kernel
theorem d_AB_ensureCapacityInternal_23 : decode cb_AB_ensureCapacityInternal 23 = .ok (.iload_n 1, 1) := by decide +kernel
theorem d_AB_ensureCapacityInternal_24 : decode cb_AB_ensureCapacityInternal 24 = .ok (.invokevirtual 104, 3) := by decide +kernel
theorem d_AB_ensureCapacityInternal_27 : decode cb_AB_ensureCapacityInternal 27 = .ok (.aload_n 0, 1) := by decide +kernel
theorem d_AB_ensureCapacityInternal_28 : decode cb_AB_ensureCapacityInternal 28 = .ok (.getfield 22, 3) := by decide +kernel
theorem d_AB_ensureCapacityInternal_31 : decode cb_AB_ensureCapacityInternal 31 = .ok (.ishl, 1) := by decide +kernel
theorem d_AB_ensureCapacityInternal_32 : decode cb_AB_ensureCapacityInternal 32 = .ok (.invokestatic 108, 3) := by decide +kernel
theorem d_AB_ensureCapacityInternal_35 : decode cb_AB_ensureCapacityInternal 35 = .ok (.putfield 15, 3) := by decide +kernel
theorem d_AB_ensureCapacityInternal_38 : decode cb_AB_ensureCapacityInternal 38 = .ok (.return_, 1) := by decide +kernel
theorem d_AB_append_0 : decode cb_AB_append 0 = .ok (.aload_n 0, 1) := by decide +kernel
theorem d_AB_append_1 : decode cb_AB_append 1 = .ok (.aload_n 0, 1) := by decide +kernel
theorem d_AB_append_2 : decode cb_AB_append 2 = .ok (.getfield 79, 3) := by decide +kernel
theorem d_AB_append_5 : decode cb_AB_append 5 = .ok (.iconst 1, 1) := by decide +kernel
theorem d_AB_append_6 : decode cb_AB_append 6 = .ok (.iadd, 1) := by decide +kernel
theorem d_AB_append_7 : decode cb_AB_append 7 = .ok (.invokevirtual 100, 3) := by decide +kernel
theorem d_AB_append_10 : decode cb_AB_append 10 = .ok (.aload_n 0, 1) := by decide +kernel
theorem d_AB_append_11 : decode cb_AB_append 11 = .ok (.invokevirtual 83, 3) := by decide +kernel
theorem d_AB_append_14 : decode cb_AB_append 14 = .ok (.ifCond .eq 31, 3) := by decide +kernel
theorem d_AB_append_17 : decode cb_AB_append 17 = .ok (.iload_n 1, 1) := by decide +kernel
theorem d_AB_append_18 : decode cb_AB_append 18 = .ok (.invokestatic 191, 3) := by decide +kernel
theorem d_AB_append_21 : decode cb_AB_append 21 = .ok (.ifCond .eq 24, 3) := by decide +kernel
theorem d_AB_append_24 : decode cb_AB_append 24 = .ok (.aload_n 0, 1) := by decide +kernel
theorem d_AB_append_25 : decode cb_AB_append 25 = .ok (.getfield 15, 3) := by decide +kernel
theorem d_AB_append_28 : decode cb_AB_append 28 = .ok (.aload_n 0, 1) := by decide +kernel
theorem d_AB_append_29 : decode cb_AB_append 29 = .ok (.dup, 1) := by decide +kernel
theorem d_AB_append_30 : decode cb_AB_append 30 = .ok (.getfield 79, 3) := by decide +kernel
theorem d_AB_append_33 : decode cb_AB_append 33 = .ok (.dup_x1, 1) := by decide +kernel
theorem d_AB_append_34 : decode cb_AB_append 34 = .ok (.iconst 1, 1) := by decide +kernel
theorem d_AB_append_35 : decode cb_AB_append 35 = .ok (.iadd, 1) := by decide +kernel
theorem d_AB_append_36 : decode cb_AB_append 36 = .ok (.putfield 79, 3) := by decide +kernel
theorem d_AB_append_39 : decode cb_AB_append 39 = .ok (.iload_n 1, 1) := by decide +kernel
theorem d_AB_append_40 : decode cb_AB_append 40 = .ok (.i2b, 1) := by decide +kernel
theorem d_AB_append_41 : decode cb_AB_append 41 = .ok (.bastore, 1) := by decide +kernel
theorem d_AB_append_42 : decode cb_AB_append 42 = .ok (.goto 33, 3) := by decide +kernel
theorem d_AB_append_45 : decode cb_AB_append 45 = .ok (.aload_n 0, 1) := by decide +kernel
theorem d_AB_append_46 : decode cb_AB_append 46 = .ok (.invokevirtual 83, 3) := by decide +kernel
theorem d_AB_append_49 : decode cb_AB_append 49 = .ok (.ifCond .eq 7, 3) := by decide +kernel
theorem d_AB_append_52 : decode cb_AB_append 52 = .ok (.aload_n 0, 1) := by decide +kernel
theorem d_AB_append_53 : decode cb_AB_append 53 = .ok (.invokevirtual 195, 3) := by decide +kernel
theorem d_AB_append_56 : decode cb_AB_append 56 = .ok (.aload_n 0, 1) := by decide +kernel
theorem d_AB_append_57 : decode cb_AB_append 57 = .ok (.getfield 15, 3) := by decide +kernel
theorem d_AB_append_60 : decode cb_AB_append 60 = .ok (.aload_n 0, 1) := by decide +kernel
theorem d_AB_append_61 : decode cb_AB_append 61 = .ok (.dup, 1) := by decide +kernel
theorem d_AB_append_62 : decode cb_AB_append 62 = .ok (.getfield 79, 3) := by decide +kernel
theorem d_AB_append_65 : decode cb_AB_append 65 = .ok (.dup_x1, 1) := by decide +kernel
theorem d_AB_append_66 : decode cb_AB_append 66 = .ok (.iconst 1, 1) := by decide +kernel
theorem d_AB_append_67 : decode cb_AB_append 67 = .ok (.iadd, 1) := by decide +kernel
theorem d_AB_append_68 : decode cb_AB_append 68 = .ok (.putfield 79, 3) := by decide +kernel
theorem d_AB_append_71 : decode cb_AB_append 71 = .ok (.iload_n 1, 1) := by decide +kernel
theorem d_AB_append_72 : decode cb_AB_append 72 = .ok (.invokestatic 197, 3) := by decide +kernel
theorem d_AB_append_75 : decode cb_AB_append 75 = .ok (.aload_n 0, 1) := by decide +kernel
theorem d_AB_append_76 : decode cb_AB_append 76 = .ok (.areturn, 1) := by decide +kernel
theorem d_AB_setLength_0 : decode cb_AB_setLength 0 = .ok (.iload_n 1, 1) := by decide +kernel
theorem d_AB_setLength_1 : decode cb_AB_setLength 1 = .ok (.ifCond .ge 12, 3) := by decide +kernel
theorem d_AB_setLength_4 : decode cb_AB_setLength 4 = .ok (.new 129, 3) := by decide +kernel
theorem d_AB_setLength_7 : decode cb_AB_setLength 7 = .ok (.dup, 1) := by decide +kernel
theorem d_AB_setLength_8 : decode cb_AB_setLength 8 = .ok (.iload_n 1, 1) := by decide +kernel
theorem d_AB_setLength_9 : decode cb_AB_setLength 9 = .ok (.invokespecial 131, 3) := by decide +kernel
theorem d_AB_setLength_12 : decode cb_AB_setLength 12 = .ok (.athrow, 1) := by decide +kernel
theorem d_AB_setLength_13 : decode cb_AB_setLength 13 = .ok (.aload_n 0, 1) := by decide +kernel
theorem d_AB_setLength_14 : decode cb_AB_setLength 14 = .ok (.iload_n 1, 1) := by decide +kernel
theorem d_AB_setLength_15 : decode cb_AB_setLength 15 = .ok (.invokevirtual 100, 3) := by decide +kernel
theorem d_AB_setLength_18 : decode cb_AB_setLength 18 = .ok (.aload_n 0, 1) := by decide +kernel
theorem d_AB_setLength_19 : decode cb_AB_setLength 19 = .ok (.getfield 79, 3) := by decide +kernel
theorem d_AB_setLength_22 : decode cb_AB_setLength 22 = .ok (.iload_n 1, 1) := by decide +kernel
theorem d_AB_setLength_23 : decode cb_AB_setLength 23 = .ok (.if_icmp .ge 40, 3) := by decide +kernel
theorem d_AB_setLength_26 : decode cb_AB_setLength 26 = .ok (.aload_n 0, 1) := by decide +kernel
theorem d_AB_setLength_27 : decode cb_AB_setLength 27 = .ok (.invokevirtual 83, 3) := by decide +kernel
theorem d_AB_setLength_30 : decode cb_AB_setLength 30 = .ok (.ifCond .eq 18, 3) := by decide +kernel
theorem d_AB_setLength_33 : decode cb_AB_setLength 33 = .ok (.aload_n 0, 1) := by decide +kernel
theorem d_AB_setLength_34 : decode cb_AB_setLength 34 = .ok (.getfield 15, 3) := by decide +kernel
theorem d_AB_setLength_37 : decode cb_AB_setLength 37 = .ok (.aload_n 0, 1) := by decide +kernel
theorem d_AB_setLength_38 : decode cb_AB_setLength 38 = .ok (.getfield 79, 3) := by decide +kernel
theorem d_AB_setLength_41 : decode cb_AB_setLength 41 = .ok (.iload_n 1, 1) := by decide +kernel
theorem d_AB_setLength_42 : decode cb_AB_setLength 42 = .ok (.invokestatic 133, 3) := by decide +kernel
theorem d_AB_setLength_45 : decode cb_AB_setLength 45 = .ok (.goto 31, 3) := by decide +kernel
theorem d_AB_setLength_48 : decode cb_AB_setLength 48 = .ok (.aload_n 0, 1) := by decide +kernel
theorem d_AB_setLength_49 : decode cb_AB_setLength 49 = .ok (.getfield 15, 3) := by decide +kernel
theorem d_AB_setLength_52 : decode cb_AB_setLength 52 = .ok (.aload_n 0, 1) := by decide +kernel
theorem d_AB_setLength_53 : decode cb_AB_setLength 53 = .ok (.getfield 79, 3) := by decide +kernel
theorem d_AB_setLength_56 : decode cb_AB_setLength 56 = .ok (.iload_n 1, 1) := by decide +kernel
theorem d_AB_setLength_57 : decode cb_AB_setLength 57 = .ok (.invokestatic 137, 3) := by decide +kernel
theorem d_AB_setLength_60 : decode cb_AB_setLength 60 = .ok (.goto 16, 3) := by decide +kernel
theorem d_AB_setLength_63 : decode cb_AB_setLength 63 = .ok (.aload_n 0, 1) := by decide +kernel
theorem d_AB_setLength_64 : decode cb_AB_setLength 64 = .ok (.getfield 79, 3) := by decide +kernel
theorem d_AB_setLength_67 : decode cb_AB_setLength 67 = .ok (.iload_n 1, 1) := by decide +kernel
theorem d_AB_setLength_68 : decode cb_AB_setLength 68 = .ok (.if_icmp .le 8, 3) := by decide +kernel
theorem d_AB_setLength_71 : decode cb_AB_setLength 71 = .ok (.aload_n 0, 1) := by decide +kernel
theorem d_AB_setLength_72 : decode cb_AB_setLength 72 = .ok (.iconst 1, 1) := by decide +kernel
theorem d_AB_setLength_73 : decode cb_AB_setLength 73 = .ok (.putfield 73, 3) := by decide +kernel
theorem d_AB_setLength_76 : decode cb_AB_setLength 76 = .ok (.aload_n 0, 1) := by decide +kernel
theorem d_AB_setLength_77 : decode cb_AB_setLength 77 = .ok (.iload_n 1, 1) := by decide +kernel
theorem d_AB_setLength_78 : decode cb_AB_setLength 78 = .ok (.putfield 79, 3) := by decide +kernel
theorem d_AB_setLength_81 : decode cb_AB_setLength 81 = .ok (.return_, 1) := by decide +kernel
theorem d_SB_append_0 : decode cb_SB_append 0 = .ok (.aload_n 0, 1) := by decide +kernel
theorem d_SB_append_1 : decode cb_SB_append 1 = .ok (.iload_n 1, 1) := by decide +kernel
theorem d_SB_append_2 : decode cb_SB_append 2 = .ok (.invokespecial 50, 3) := by decide +kernel
theorem d_SB_append_5 : decode cb_SB_append 5 = .ok (.pop, 1) := by decide +kernel
theorem d_SB_append_6 : decode cb_SB_append 6 = .ok (.aload_n 0, 1) := by decide +kernel
theorem d_SB_append_7 : decode cb_SB_append 7 = .ok (.areturn, 1) := by decide +kernel
theorem d_SB_setLength_0 : decode cb_SB_setLength 0 = .ok (.aload_n 0, 1) := by decide +kernel
theorem d_SB_setLength_1 : decode cb_SB_setLength 1 = .ok (.iload_n 1, 1) := by decide +kernel
theorem d_SB_setLength_2 : decode cb_SB_setLength 2 = .ok (.invokespecial 333, 3) := by decide +kernel
theorem d_SB_setLength_5 : decode cb_SB_setLength 5 = .ok (.return_, 1) := by decide +kernel
theorem d_SB_length_0 : decode cb_SB_length 0 = .ok (.aload_n 0, 1) := by decide +kernel
theorem d_SB_length_1 : decode cb_SB_length 1 = .ok (.invokespecial 343, 3) := by decide +kernel
theorem d_SB_length_4 : decode cb_SB_length 4 = .ok (.ireturn, 1) := by decide +kernel
theorem d_Str_initAB_0 : decode cb_Str_initAB 0 = .ok (.aload_n 0, 1) := by decide +kernel
theorem d_Str_initAB_1 : decode cb_Str_initAB 1 = .ok (.invokespecial 1, 3) := by decide +kernel
theorem d_Str_initAB_4 : decode cb_Str_initAB 4 = .ok (.aload_n 1, 1) := by decide +kernel
theorem d_Str_initAB_5 : decode cb_Str_initAB 5 = .ok (.invokevirtual 552, 3) := by decide +kernel
theorem d_Str_initAB_8 : decode cb_Str_initAB 8 = .ok (.astore_n 3, 1) := by decide +kernel
theorem d_Str_initAB_9 : decode cb_Str_initAB 9 = .ok (.aload_n 1, 1) := by decide +kernel
theorem d_Str_initAB_10 : decode cb_Str_initAB 10 = .ok (.invokevirtual 549, 3) := by decide +kernel
theorem d_Str_initAB_13 : decode cb_Str_initAB 13 = .ok (.istore 4, 2) := by decide +kernel
theorem d_Str_initAB_15 : decode cb_Str_initAB 15 = .ok (.aload_n 1, 1) := by decide +kernel
theorem d_Str_initAB_16 : decode cb_Str_initAB 16 = .ok (.invokevirtual 1047, 3) := by decide +kernel
theorem d_Str_initAB_19 : decode cb_Str_initAB 19 = .ok (.ifCond .eq 22, 3) := by decide +kernel
theorem d_Str_initAB_22 : decode cb_Str_initAB 22 = .ok (.aload_n 0, 1) := by decide +kernel
theorem d_Str_initAB_23 : decode cb_Str_initAB 23 = .ok (.iconst 0, 1) := by decide +kernel
theorem d_Str_initAB_24 : decode cb_Str_initAB 24 = .ok (.putfield 15, 3) := by decide +kernel
theorem d_Str_initAB_27 : decode cb_Str_initAB 27 = .ok (.aload_n 0, 1) := by decide +kernel
theorem d_Str_initAB_28 : decode cb_Str_initAB 28 = .ok (.aload_n 3, 1) := by decide +kernel
theorem d_Str_initAB_29 : decode cb_Str_initAB 29 = .ok (.iconst 0, 1) := by decide +kernel
theorem d_Str_initAB_30 : decode cb_Str_initAB 30 = .ok (.iload 4, 2) := by decide +kernel
theorem d_Str_initAB_32 : decode cb_Str_initAB 32 = .ok (.invokestatic 54, 3) := by decide +kernel
theorem d_Str_initAB_35 : decode cb_Str_initAB 35 = .ok (.putfield 9, 3) := by decide +kernel
theorem d_Str_initAB_38 : decode cb_Str_initAB 38 = .ok (.goto 59, 3) := by decide +kernel
theorem d_Str_initAB_41 : decode cb_Str_initAB 41 = .ok (.getstatic 38, 3) := by decide +kernel
theorem d_Str_initAB_44 : decode cb_Str_initAB 44 = .ok (.ifCond .eq 35, 3) := by decide +kernel
theorem d_Str_initAB_47 : decode cb_Str_initAB 47 = .ok (.aload_n 1, 1) := by decide +kernel
theorem d_Str_initAB_48 : decode cb_Str_initAB 48 = .ok (.getfield 1048, 3) := by decide +kernel
theorem d_Str_initAB_51 : decode cb_Str_initAB 51 = .ok (.ifCond .eq 28, 3) := by decide +kernel
theorem d_Str_initAB_54 : decode cb_Str_initAB 54 = .ok (.aload_n 0, 1) := by decide +kernel
theorem d_Str_initAB_55 : decode cb_Str_initAB 55 = .ok (.aload_n 3, 1) := by decide +kernel
theorem d_Str_initAB_56 : decode cb_Str_initAB 56 = .ok (.iconst 0, 1) := by decide +kernel
theorem d_Str_initAB_57 : decode cb_Str_initAB 57 = .ok (.iload 4, 2) := by decide +kernel
theorem d_Str_initAB_59 : decode cb_Str_initAB 59 = .ok (.invokestatic 1051, 3) := by decide +kernel
theorem d_Str_initAB_62 : decode cb_Str_initAB 62 = .ok (.putfield 9, 3) := by decide +kernel
theorem d_Str_initAB_65 : decode cb_Str_initAB 65 = .ok (.aload_n 0, 1) := by decide +kernel
theorem d_Str_initAB_66 : decode cb_Str_initAB 66 = .ok (.aload_n 0, 1) := by decide +kernel
theorem d_Str_initAB_67 : decode cb_Str_initAB 67 = .ok (.getfield 9, 3) := by decide +kernel
theorem d_Str_initAB_70 : decode cb_Str_initAB 70 = .ok (.iload 4, 2) := by decide +kernel
theorem d_Str_initAB_72 : decode cb_Str_initAB 72 = .ok (.invokestatic 47, 3) := by decide +kernel
theorem d_Str_initAB_75 : decode cb_Str_initAB 75 = .ok (.putfield 15, 3) := by decide +kernel
theorem d_Str_initAB_78 : decode cb_Str_initAB 78 = .ok (.return_, 1) := by decide +kernel
theorem d_Str_initAB_79 : decode cb_Str_initAB 79 = .ok (.aload_n 0, 1) := by decide +kernel
theorem d_Str_initAB_80 : decode cb_Str_initAB 80 = .ok (.iconst 1, 1) := by decide +kernel
theorem d_Str_initAB_81 : decode cb_Str_initAB 81 = .ok (.putfield 15, 3) := by decide +kernel
theorem d_Str_initAB_84 : decode cb_Str_initAB 84 = .ok (.aload_n 0, 1) := by decide +kernel
theorem d_Str_initAB_85 : decode cb_Str_initAB 85 = .ok (.aload_n 3, 1) := by decide +kernel
theorem d_Str_initAB_86 : decode cb_Str_initAB 86 = .ok (.iconst 0, 1) := by decide +kernel
theorem d_Str_initAB_87 : decode cb_Str_initAB 87 = .ok (.iload 4, 2) := by decide +kernel
theorem d_Str_initAB_89 : decode cb_Str_initAB 89 = .ok (.iconst 1, 1) := by decide +kernel
theorem d_Str_initAB_90 : decode cb_Str_initAB 90 = .ok (.ishl, 1) := by decide +kernel
theorem d_Str_initAB_91 : decode cb_Str_initAB 91 = .ok (.invokestatic 54, 3) := by decide +kernel
theorem d_Str_initAB_94 : decode cb_Str_initAB 94 = .ok (.putfield 9, 3) := by decide +kernel
theorem d_Str_initAB_97 : decode cb_Str_initAB 97 = .ok (.return_, 1) := by decide +kernel
theorem d_Str_initSB_0 : decode cb_Str_initSB 0 = .ok (.aload_n 0, 1) := by decide +kernel
theorem d_Str_initSB_1 : decode cb_Str_initSB 1 = .ok (.aload_n 1, 1) := by decide +kernel
theorem d_Str_initSB_2 : decode cb_Str_initSB 2 = .ok (.aconst_null, 1) := by decide +kernel
theorem d_Str_initSB_3 : decode cb_Str_initSB 3 = .ok (.invokespecial 489, 3) := by decide +kernel
theorem d_Str_initSB_6 : decode cb_Str_initSB 6 = .ok (.return_, 1) := by decide +kernel
theorem d_SB_toString_0 : decode cb_SB_toString 0 = .ok (.new 18, 3) := by decide +kernel
theorem d_SB_toString_3 : decode cb_SB_toString 3 = .ok (.dup, 1) := by decide +kernel
theorem d_SB_toString_4 : decode cb_SB_toString 4 = .ok (.aload_n 0, 1) := by decide +kernel
theorem d_SB_toString_5 : decode cb_SB_toString 5 = .ok (.invokespecial 137, 3) := by decide +kernel
theorem d_SB_toString_8 : decode cb_SB_toString 8 = .ok (.areturn, 1) := by decide +kernel
