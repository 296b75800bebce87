abbrev cb_N_entryNamed : ByteArray := prog_2_method_6_code
def y_N_entryNamed : MethodName := ⟨RZ2, "entryNamed", "(Ljava/lang/String;)LTableText$Node;"⟩
abbrev cb_N_entryOrNew : ByteArray := prog_2_method_7_code
def y_N_entryOrNew : MethodName := ⟨RZ2, "entryOrNew", "(Ljava/lang/String;I)LTableText$Node;"⟩
abbrev cb_R_throughTable : ByteArray := prog_4_method_9_code
def y_R_throughTable : MethodName := ⟨RZ4, "throughTable", "(LTableText$Node;LTableText$Step;)LTableText$Node;"⟩
abbrev cb_R_newRow : ByteArray := prog_4_method_11_code
def y_R_newRow : MethodName := ⟨RZ4, "newRow", "(LTableText$Node;LTableText$Step;)LTableText$Node;"⟩
abbrev cb_R_toldTable : ByteArray := prog_4_method_10_code
def y_R_toldTable : MethodName := ⟨RZ4, "toldTable", "(LTableText$Node;LTableText$Step;)LTableText$Node;"⟩
abbrev cb_R_openTable : ByteArray := prog_4_method_8_code
def y_R_openTable : MethodName := ⟨RZ4, "openTable", "(LTableText$Step;Z)LTableText$Node;"⟩
abbrev cb_R_daysOf : ByteArray := prog_4_method_27_code
def y_R_daysOf : MethodName := ⟨RZ4, "daysOf", "(II)I"⟩
abbrev cb_R_readDate : ByteArray := prog_4_method_25_code
def y_R_readDate : MethodName := ⟨RZ4, "readDate", "()LTableText$Node;"⟩
abbrev cb_R_readNumber : ByteArray := prog_4_method_22_code
def y_R_readNumber : MethodName := ⟨RZ4, "readNumber", "()LTableText$Node;"⟩
abbrev cb_R_readTruth : ByteArray := prog_4_method_21_code
def y_R_readTruth : MethodName := ⟨RZ4, "readTruth", "(Ljava/lang/String;I)LTableText$Node;"⟩
abbrev cb_P_putAll : ByteArray := prog_3_method_12_code
def y_P_putAll : MethodName := ⟨RZ5, "putAll", "(Ljava/lang/String;)V"⟩
abbrev cb_P_putQuoted : ByteArray := prog_3_method_8_code
def y_P_putQuoted : MethodName := ⟨RZ5, "putQuoted", "(Ljava/lang/String;)V"⟩
abbrev cb_P_putName : ByteArray := prog_3_method_7_code
def y_P_putName : MethodName := ⟨RZ5, "putName", "(Ljava/lang/String;)V"⟩
abbrev cb_P_putNumber : ByteArray := prog_3_method_10_code
def y_P_putNumber : MethodName := ⟨RZ5, "putNumber", "(I)V"⟩
abbrev cb_P_putBeginning : ByteArray := prog_3_method_3_code
def y_P_putBeginning : MethodName := ⟨RZ5, "putBeginning", "(LTableText$Node;)V"⟩
abbrev cb_P_putEndings : ByteArray := prog_3_method_4_code
def y_P_putEndings : MethodName := ⟨RZ5, "putEndings", "(LTableText$Node;)LTableText$Node;"⟩
abbrev cb_P_fill : ByteArray := prog_3_method_2_code
def y_P_fill : MethodName := ⟨RZ5, "fill", "(LTableText$Node;)V"⟩
abbrev cb_T_write : ByteArray := prog_1_method_4_code
def y_T_write : MethodName := ⟨RZ1, "write", "()I"⟩
abbrev cb_T_byteAt : ByteArray := prog_1_method_14_code
def y_T_byteAt : MethodName := ⟨RZ1, "byteAt", "(JI)I"⟩
abbrev cb_T_allAreCharacters : ByteArray := prog_1_method_13_code
def y_T_allAreCharacters : MethodName := ⟨RZ1, "allAreCharacters", "(JI)Z"⟩
theorem mF_N_31 : Cond.fieldLink RZ2 31 (cT 2 3).1 (cT 2 3).2.1 (cT 2 3).2.2.1 ∈ wsA := List.mem_filter.mpr ⟨List.mem_of_getElem? (i := 167) (by decide +kernel), by decide +kernel⟩
theorem kw_N_35 : kW RZ2 35 (cC 6) y_Str_equals (.code y_Str_equals cb_Str_equals 3 (some .boolean)) 1 := ⟨gV (List.mem_filter.mpr ⟨List.mem_of_getElem? (i := 755) (by decide +kernel), by decide +kernel⟩) (List.mem_filter.mpr ⟨List.mem_of_getElem? (i := 756) (by decide +kernel), by decide +kernel⟩) (List.mem_filter.mpr ⟨List.mem_of_getElem? (i := 757) (by decide +kernel), by decide +kernel⟩) (List.mem_filter.mpr ⟨List.mem_of_getElem? (i := 108) (by decide +kernel), by decide +kernel⟩) (List.mem_filter.mpr ⟨List.mem_of_getElem? (i := 758) (by decide +kernel), by decide +kernel⟩), rfl, by decide, by decide, by decide +kernel⟩
theorem mC_N_10 : Cond.classLink RZ2 10 (cC 2) ∈ wsA := List.mem_filter.mpr ⟨List.mem_of_getElem? (i := 763) (by decide +kernel), by decide +kernel⟩
theorem kw_N_41 : kW RZ2 41 (cC 2) y_N_entryNamed (.code y_N_entryNamed cb_N_entryNamed 3 (some (.object "TableText$Node"))) 1 := ⟨gV (List.mem_filter.mpr ⟨List.mem_of_getElem? (i := 751) (by decide +kernel), by decide +kernel⟩) (List.mem_filter.mpr ⟨List.mem_of_getElem? (i := 753) (by decide +kernel), by decide +kernel⟩) (List.mem_filter.mpr ⟨List.mem_of_getElem? (i := 14) (by decide +kernel), by decide +kernel⟩) (List.mem_filter.mpr ⟨List.mem_of_getElem? (i := 98) (by decide +kernel), by decide +kernel⟩) (List.mem_filter.mpr ⟨List.mem_of_getElem? (i := 754) (by decide +kernel), by decide +kernel⟩), rfl, by decide, by decide, by decide +kernel⟩
theorem kw_N_45 : kWI RZ2 45 y_N_init (.code y_N_init cb_N_init 3 none) 2 := ⟨⟨List.mem_filter.mpr ⟨List.mem_of_getElem? (i := 153) (by decide +kernel), by decide +kernel⟩, List.mem_filter.mpr ⟨List.mem_of_getElem? (i := 98) (by decide +kernel), by decide +kernel⟩, List.mem_filter.mpr ⟨List.mem_of_getElem? (i := 764) (by decide +kernel), by decide +kernel⟩, List.mem_filter.mpr ⟨List.mem_of_getElem? (i := 152) (by decide +kernel), by decide +kernel⟩⟩, rfl, by decide, by decide, by decide +kernel⟩
theorem kw_N_48 : kW RZ2 48 (cC 2) y_N_add (.code y_N_add cb_N_add 2 none) 1 := ⟨gV (List.mem_filter.mpr ⟨List.mem_of_getElem? (i := 765) (by decide +kernel), by decide +kernel⟩) (List.mem_filter.mpr ⟨List.mem_of_getElem? (i := 767) (by decide +kernel), by decide +kernel⟩) (List.mem_filter.mpr ⟨List.mem_of_getElem? (i := 15) (by decide +kernel), by decide +kernel⟩) (List.mem_filter.mpr ⟨List.mem_of_getElem? (i := 98) (by decide +kernel), by decide +kernel⟩) (List.mem_filter.mpr ⟨List.mem_of_getElem? (i := 768) (by decide +kernel), by decide +kernel⟩), rfl, by decide, by decide, by decide +kernel⟩
theorem nF_R_94 : Cond.fieldLinkNest RZ4 94 (cT 3 0).1 (cT 3 0).2.1 (cT 3 0).2.2.1 "TableText" ∈ nwA := List.mem_filter.mpr ⟨List.mem_of_getElem? (i := 633) (by decide +kernel), by decide +kernel⟩
theorem nF_R_131 : Cond.fieldLinkNest RZ4 131 (cT 2 0).1 (cT 2 0).2.1 (cT 2 0).2.2.1 "TableText" ∈ nwA := List.mem_filter.mpr ⟨List.mem_of_getElem? (i := 62) (by decide +kernel), by decide +kernel⟩
theorem nF_R_146 : Cond.fieldLinkNest RZ4 146 (cT 2 6).1 (cT 2 6).2.1 (cT 2 6).2.2.1 "TableText" ∈ nwA := List.mem_filter.mpr ⟨List.mem_of_getElem? (i := 80) (by decide +kernel), by decide +kernel⟩
theorem nF_R_102 : Cond.fieldLinkNest RZ4 102 (cT 3 1).1 (cT 3 1).2.1 (cT 3 1).2.2.1 "TableText" ∈ nwA := List.mem_filter.mpr ⟨List.mem_of_getElem? (i := 635) (by decide +kernel), by decide +kernel⟩
theorem kw_R_127 : kWN RZ4 127 "TableText" y_N_entryOrNew (.code y_N_entryOrNew cb_N_entryOrNew 4 (some (.object "TableText$Node"))) 2 ∧ Cond.instanceMethod y_N_entryOrNew ∈ wsA ∧ Cond.selects (cC 2) y_N_entryOrNew y_N_entryOrNew ∈ wsA := ⟨⟨List.mem_filter.mpr ⟨List.mem_of_getElem? (i := 750) (by decide +kernel), by decide +kernel⟩, List.mem_filter.mpr ⟨List.mem_of_getElem? (i := 652) (by decide +kernel), by decide +kernel⟩, List.mem_filter.mpr ⟨List.mem_of_getElem? (i := 98) (by decide +kernel), by decide +kernel⟩, by decide, by decide, by decide +kernel⟩, List.mem_filter.mpr ⟨List.mem_of_getElem? (i := 749) (by decide +kernel), by decide +kernel⟩, List.mem_filter.mpr ⟨List.mem_of_getElem? (i := 13) (by decide +kernel), by decide +kernel⟩⟩
theorem kw_R_149 : kWN RZ4 149 "TableText" y_N_isTable (.code y_N_isTable cb_N_isTable 1 (some .boolean)) 0 ∧ Cond.instanceMethod y_N_isTable ∈ wsA ∧ Cond.selects (cC 2) y_N_isTable y_N_isTable ∈ wsA := ⟨⟨List.mem_filter.mpr ⟨List.mem_of_getElem? (i := 772) (by decide +kernel), by decide +kernel⟩, List.mem_filter.mpr ⟨List.mem_of_getElem? (i := 674) (by decide +kernel), by decide +kernel⟩, List.mem_filter.mpr ⟨List.mem_of_getElem? (i := 98) (by decide +kernel), by decide +kernel⟩, by decide, by decide, by decide +kernel⟩, List.mem_filter.mpr ⟨List.mem_of_getElem? (i := 771) (by decide +kernel), by decide +kernel⟩, List.mem_filter.mpr ⟨List.mem_of_getElem? (i := 16) (by decide +kernel), by decide +kernel⟩⟩
theorem mC_R_33 : Cond.classLink RZ4 33 (cC 2) ∈ wsA := List.mem_filter.mpr ⟨List.mem_of_getElem? (i := 280) (by decide +kernel), by decide +kernel⟩
theorem kw_R_35 : kWN RZ4 35 "TableText" y_N_init (.code y_N_init cb_N_init 3 none) 2 ∧ y_N_init.name = "<init>" ∧ Cond.instanceMethod y_N_init ∈ wsA := ⟨⟨List.mem_filter.mpr ⟨List.mem_of_getElem? (i := 153) (by decide +kernel), by decide +kernel⟩, List.mem_filter.mpr ⟨List.mem_of_getElem? (i := 186) (by decide +kernel), by decide +kernel⟩, List.mem_filter.mpr ⟨List.mem_of_getElem? (i := 98) (by decide +kernel), by decide +kernel⟩, by decide, by decide, by decide +kernel⟩, rfl, List.mem_filter.mpr ⟨List.mem_of_getElem? (i := 152) (by decide +kernel), by decide +kernel⟩⟩
theorem kw_R_113 : kWN RZ4 113 "TableText" y_N_add (.code y_N_add cb_N_add 2 none) 1 ∧ Cond.instanceMethod y_N_add ∈ wsA ∧ Cond.selects (cC 2) y_N_add y_N_add ∈ wsA := ⟨⟨List.mem_filter.mpr ⟨List.mem_of_getElem? (i := 768) (by decide +kernel), by decide +kernel⟩, List.mem_filter.mpr ⟨List.mem_of_getElem? (i := 682) (by decide +kernel), by decide +kernel⟩, List.mem_filter.mpr ⟨List.mem_of_getElem? (i := 98) (by decide +kernel), by decide +kernel⟩, by decide, by decide, by decide +kernel⟩, List.mem_filter.mpr ⟨List.mem_of_getElem? (i := 767) (by decide +kernel), by decide +kernel⟩, List.mem_filter.mpr ⟨List.mem_of_getElem? (i := 15) (by decide +kernel), by decide +kernel⟩⟩
theorem mF_R_38 : Cond.fieldLink RZ4 38 (cT 4 4).1 (cT 4 4).2.1 (cT 4 4).2.2.1 ∈ wsA := List.mem_filter.mpr ⟨List.mem_of_getElem? (i := 286) (by decide +kernel), by decide +kernel⟩
theorem nF_R_84 : Cond.fieldLinkNest RZ4 84 (cT 3 2).1 (cT 3 2).2.1 (cT 3 2).2.2.1 "TableText" ∈ nwA := List.mem_filter.mpr ⟨List.mem_of_getElem? (i := 636) (by decide +kernel), by decide +kernel⟩
theorem kw_R_143 : kW RZ4 143 (cC 4) y_R_toldTable (.code y_R_toldTable cb_R_toldTable 4 (some (.object "TableText$Node"))) 2 := ⟨gV (List.mem_filter.mpr ⟨List.mem_of_getElem? (i := 778) (by decide +kernel), by decide +kernel⟩) (List.mem_filter.mpr ⟨List.mem_of_getElem? (i := 780) (by decide +kernel), by decide +kernel⟩) (List.mem_filter.mpr ⟨List.mem_of_getElem? (i := 18) (by decide +kernel), by decide +kernel⟩) (List.mem_filter.mpr ⟨List.mem_of_getElem? (i := 105) (by decide +kernel), by decide +kernel⟩) (List.mem_filter.mpr ⟨List.mem_of_getElem? (i := 781) (by decide +kernel), by decide +kernel⟩), rfl, by decide, by decide, by decide +kernel⟩
theorem kw_R_140 : kW RZ4 140 (cC 4) y_R_newRow (.code y_R_newRow cb_R_newRow 5 (some (.object "TableText$Node"))) 2 := ⟨gV (List.mem_filter.mpr ⟨List.mem_of_getElem? (i := 773) (by decide +kernel), by decide +kernel⟩) (List.mem_filter.mpr ⟨List.mem_of_getElem? (i := 775) (by decide +kernel), by decide +kernel⟩) (List.mem_filter.mpr ⟨List.mem_of_getElem? (i := 17) (by decide +kernel), by decide +kernel⟩) (List.mem_filter.mpr ⟨List.mem_of_getElem? (i := 105) (by decide +kernel), by decide +kernel⟩) (List.mem_filter.mpr ⟨List.mem_of_getElem? (i := 776) (by decide +kernel), by decide +kernel⟩), rfl, by decide, by decide, by decide +kernel⟩
theorem kw_R_137 : kW RZ4 137 (cC 4) y_R_throughTable (.code y_R_throughTable cb_R_throughTable 4 (some (.object "TableText$Node"))) 2 := ⟨gV (List.mem_filter.mpr ⟨List.mem_of_getElem? (i := 743) (by decide +kernel), by decide +kernel⟩) (List.mem_filter.mpr ⟨List.mem_of_getElem? (i := 745) (by decide +kernel), by decide +kernel⟩) (List.mem_filter.mpr ⟨List.mem_of_getElem? (i := 12) (by decide +kernel), by decide +kernel⟩) (List.mem_filter.mpr ⟨List.mem_of_getElem? (i := 105) (by decide +kernel), by decide +kernel⟩) (List.mem_filter.mpr ⟨List.mem_of_getElem? (i := 746) (by decide +kernel), by decide +kernel⟩), rfl, by decide, by decide, by decide +kernel⟩
theorem nF_R_236 : Cond.fieldLinkNest RZ4 236 "TableText" "DAYS" "[I" "TableText" ∈ nwA := List.mem_filter.mpr ⟨List.mem_of_getElem? (i := 823) (by decide +kernel), by decide +kernel⟩
theorem kw_R_229 : kW RZ4 229 (cC 4) y_R_readTwoDigits (.code y_R_readTwoDigits cb_R_readTwoDigits 6 (some .int)) 1 := ⟨gV (List.mem_filter.mpr ⟨List.mem_of_getElem? (i := 911) (by decide +kernel), by decide +kernel⟩) (List.mem_filter.mpr ⟨List.mem_of_getElem? (i := 913) (by decide +kernel), by decide +kernel⟩) (List.mem_filter.mpr ⟨List.mem_of_getElem? (i := 34) (by decide +kernel), by decide +kernel⟩) (List.mem_filter.mpr ⟨List.mem_of_getElem? (i := 105) (by decide +kernel), by decide +kernel⟩) (List.mem_filter.mpr ⟨List.mem_of_getElem? (i := 914) (by decide +kernel), by decide +kernel⟩), rfl, by decide, by decide, by decide +kernel⟩
theorem kw_R_73 : kW RZ4 73 (cC 4) y_R_take (.code y_R_take cb_R_take 2 (some .boolean)) 1 := ⟨gV (List.mem_filter.mpr ⟨List.mem_of_getElem? (i := 705) (by decide +kernel), by decide +kernel⟩) (List.mem_filter.mpr ⟨List.mem_of_getElem? (i := 707) (by decide +kernel), by decide +kernel⟩) (List.mem_filter.mpr ⟨List.mem_of_getElem? (i := 8) (by decide +kernel), by decide +kernel⟩) (List.mem_filter.mpr ⟨List.mem_of_getElem? (i := 105) (by decide +kernel), by decide +kernel⟩) (List.mem_filter.mpr ⟨List.mem_of_getElem? (i := 708) (by decide +kernel), by decide +kernel⟩), rfl, by decide, by decide, by decide +kernel⟩
theorem kw_R_233 : kWS RZ4 233 y_R_daysOf (.code y_R_daysOf cb_R_daysOf 3 (some .int)) 2 := ⟨gS (List.mem_filter.mpr ⟨List.mem_of_getElem? (i := 915) (by decide +kernel), by decide +kernel⟩) (List.mem_filter.mpr ⟨List.mem_of_getElem? (i := 916) (by decide +kernel), by decide +kernel⟩) (List.mem_filter.mpr ⟨List.mem_of_getElem? (i := 105) (by decide +kernel), by decide +kernel⟩) (List.mem_filter.mpr ⟨List.mem_of_getElem? (i := 917) (by decide +kernel), by decide +kernel⟩), by decide, by decide, by decide +kernel⟩
theorem kw_R_222 : kW RZ4 222 (cC 4) y_R_readDigits (.code y_R_readDigits cb_R_readDigits 7 (some .int)) 2 := ⟨gV (List.mem_filter.mpr ⟨List.mem_of_getElem? (i := 924) (by decide +kernel), by decide +kernel⟩) (List.mem_filter.mpr ⟨List.mem_of_getElem? (i := 926) (by decide +kernel), by decide +kernel⟩) (List.mem_filter.mpr ⟨List.mem_of_getElem? (i := 36) (by decide +kernel), by decide +kernel⟩) (List.mem_filter.mpr ⟨List.mem_of_getElem? (i := 105) (by decide +kernel), by decide +kernel⟩) (List.mem_filter.mpr ⟨List.mem_of_getElem? (i := 927) (by decide +kernel), by decide +kernel⟩), rfl, by decide, by decide, by decide +kernel⟩
theorem kw_R_191 : kW RZ4 191 (cC 6) y_Str_length (.code y_Str_length cb_Str_length 1 (some .int)) 0 := ⟨gV (List.mem_filter.mpr ⟨List.mem_of_getElem? (i := 877) (by decide +kernel), by decide +kernel⟩) (List.mem_filter.mpr ⟨List.mem_of_getElem? (i := 428) (by decide +kernel), by decide +kernel⟩) (List.mem_filter.mpr ⟨List.mem_of_getElem? (i := 429) (by decide +kernel), by decide +kernel⟩) (List.mem_filter.mpr ⟨List.mem_of_getElem? (i := 108) (by decide +kernel), by decide +kernel⟩) (List.mem_filter.mpr ⟨List.mem_of_getElem? (i := 430) (by decide +kernel), by decide +kernel⟩), rfl, by decide, by decide, by decide +kernel⟩
theorem kw_R_219 : kW RZ4 219 (cC 6) y_Str_charAt (.code y_Str_charAt cb_Str_charAt 2 (some .char)) 1 := ⟨gV (List.mem_filter.mpr ⟨List.mem_of_getElem? (i := 883) (by decide +kernel), by decide +kernel⟩) (List.mem_filter.mpr ⟨List.mem_of_getElem? (i := 884) (by decide +kernel), by decide +kernel⟩) (List.mem_filter.mpr ⟨List.mem_of_getElem? (i := 885) (by decide +kernel), by decide +kernel⟩) (List.mem_filter.mpr ⟨List.mem_of_getElem? (i := 108) (by decide +kernel), by decide +kernel⟩) (List.mem_filter.mpr ⟨List.mem_of_getElem? (i := 886) (by decide +kernel), by decide +kernel⟩), rfl, by decide, by decide, by decide +kernel⟩
theorem kw_P_102 : kW RZ5 102 (cC 6) y_Str_length (.code y_Str_length cb_Str_length 1 (some .int)) 0 := ⟨gV (List.mem_filter.mpr ⟨List.mem_of_getElem? (i := 952) (by decide +kernel), by decide +kernel⟩) (List.mem_filter.mpr ⟨List.mem_of_getElem? (i := 428) (by decide +kernel), by decide +kernel⟩) (List.mem_filter.mpr ⟨List.mem_of_getElem? (i := 429) (by decide +kernel), by decide +kernel⟩) (List.mem_filter.mpr ⟨List.mem_of_getElem? (i := 108) (by decide +kernel), by decide +kernel⟩) (List.mem_filter.mpr ⟨List.mem_of_getElem? (i := 430) (by decide +kernel), by decide +kernel⟩), rfl, by decide, by decide, by decide +kernel⟩
theorem kw_P_106 : kW RZ5 106 (cC 6) y_Str_charAt (.code y_Str_charAt cb_Str_charAt 2 (some .char)) 1 := ⟨gV (List.mem_filter.mpr ⟨List.mem_of_getElem? (i := 953) (by decide +kernel), by decide +kernel⟩) (List.mem_filter.mpr ⟨List.mem_of_getElem? (i := 884) (by decide +kernel), by decide +kernel⟩) (List.mem_filter.mpr ⟨List.mem_of_getElem? (i := 885) (by decide +kernel), by decide +kernel⟩) (List.mem_filter.mpr ⟨List.mem_of_getElem? (i := 108) (by decide +kernel), by decide +kernel⟩) (List.mem_filter.mpr ⟨List.mem_of_getElem? (i := 886) (by decide +kernel), by decide +kernel⟩), rfl, by decide, by decide, by decide +kernel⟩
theorem kw_P_43 : kW RZ5 43 (cC 5) y_P_putAll (.code y_P_putAll cb_P_putAll 3 none) 1 := ⟨gV (List.mem_filter.mpr ⟨List.mem_of_getElem? (i := 955) (by decide +kernel), by decide +kernel⟩) (List.mem_filter.mpr ⟨List.mem_of_getElem? (i := 957) (by decide +kernel), by decide +kernel⟩) (List.mem_filter.mpr ⟨List.mem_of_getElem? (i := 41) (by decide +kernel), by decide +kernel⟩) (List.mem_filter.mpr ⟨List.mem_of_getElem? (i := 97) (by decide +kernel), by decide +kernel⟩) (List.mem_filter.mpr ⟨List.mem_of_getElem? (i := 958) (by decide +kernel), by decide +kernel⟩), rfl, by decide, by decide, by decide +kernel⟩
theorem kw_P_60 : kW RZ5 60 (cC 5) y_P_putQuoted (.code y_P_putQuoted cb_P_putQuoted 4 none) 1 := ⟨gV (List.mem_filter.mpr ⟨List.mem_of_getElem? (i := 963) (by decide +kernel), by decide +kernel⟩) (List.mem_filter.mpr ⟨List.mem_of_getElem? (i := 965) (by decide +kernel), by decide +kernel⟩) (List.mem_filter.mpr ⟨List.mem_of_getElem? (i := 43) (by decide +kernel), by decide +kernel⟩) (List.mem_filter.mpr ⟨List.mem_of_getElem? (i := 97) (by decide +kernel), by decide +kernel⟩) (List.mem_filter.mpr ⟨List.mem_of_getElem? (i := 966) (by decide +kernel), by decide +kernel⟩), rfl, by decide, by decide, by decide +kernel⟩
theorem kw_P_110 : kWN RZ5 110 "TableText" y_T_isBareLetter (.code y_T_isBareLetter cb_T_isBareLetter 1 (some .boolean)) 1 ∧ Cond.static y_T_isBareLetter ∈ wsA := ⟨⟨List.mem_filter.mpr ⟨List.mem_of_getElem? (i := 716) (by decide +kernel), by decide +kernel⟩, List.mem_filter.mpr ⟨List.mem_of_getElem? (i := 859) (by decide +kernel), by decide +kernel⟩, List.mem_filter.mpr ⟨List.mem_of_getElem? (i := 96) (by decide +kernel), by decide +kernel⟩, by decide, by decide, by decide +kernel⟩, List.mem_filter.mpr ⟨List.mem_of_getElem? (i := 715) (by decide +kernel), by decide +kernel⟩⟩
theorem kw_P_97 : kW RZ5 97 (cC 6) y_Str_isEmpty (.code y_Str_isEmpty cb_Str_isEmpty 1 (some .boolean)) 0 := ⟨gV (List.mem_filter.mpr ⟨List.mem_of_getElem? (i := 948) (by decide +kernel), by decide +kernel⟩) (List.mem_filter.mpr ⟨List.mem_of_getElem? (i := 949) (by decide +kernel), by decide +kernel⟩) (List.mem_filter.mpr ⟨List.mem_of_getElem? (i := 950) (by decide +kernel), by decide +kernel⟩) (List.mem_filter.mpr ⟨List.mem_of_getElem? (i := 108) (by decide +kernel), by decide +kernel⟩) (List.mem_filter.mpr ⟨List.mem_of_getElem? (i := 951) (by decide +kernel), by decide +kernel⟩), rfl, by decide, by decide, by decide +kernel⟩
theorem kw_P_122 : kWS RZ5 122 y_Ma_abs (.code y_Ma_abs cb_Ma_abs 1 (some .int)) 1 := ⟨gS (List.mem_filter.mpr ⟨List.mem_of_getElem? (i := 989) (by decide +kernel), by decide +kernel⟩) (List.mem_filter.mpr ⟨List.mem_of_getElem? (i := 990) (by decide +kernel), by decide +kernel⟩) (List.mem_filter.mpr ⟨List.mem_of_getElem? (i := 116) (by decide +kernel), by decide +kernel⟩) (List.mem_filter.mpr ⟨List.mem_of_getElem? (i := 991) (by decide +kernel), by decide +kernel⟩), by decide, by decide, by decide +kernel⟩
theorem nF_P_33 : Cond.fieldLinkNest RZ5 33 (cT 2 3).1 (cT 2 3).2.1 (cT 2 3).2.2.1 "TableText" ∈ nwA := List.mem_filter.mpr ⟨List.mem_of_getElem? (i := 70) (by decide +kernel), by decide +kernel⟩
theorem nF_P_57 : Cond.fieldLinkNest RZ5 57 (cT 2 2).1 (cT 2 2).2.1 (cT 2 2).2.2.1 "TableText" ∈ nwA := List.mem_filter.mpr ⟨List.mem_of_getElem? (i := 67) (by decide +kernel), by decide +kernel⟩
theorem nF_P_63 : Cond.fieldLinkNest RZ5 63 (cT 2 0).1 (cT 2 0).2.1 (cT 2 0).2.2.1 "TableText" ∈ nwA := List.mem_filter.mpr ⟨List.mem_of_getElem? (i := 61) (by decide +kernel), by decide +kernel⟩
theorem nF_P_66 : Cond.fieldLinkNest RZ5 66 (cT 2 1).1 (cT 2 1).2.1 (cT 2 1).2.2.1 "TableText" ∈ nwA := List.mem_filter.mpr ⟨List.mem_of_getElem? (i := 65) (by decide +kernel), by decide +kernel⟩
theorem kw_P_77 : kW RZ5 77 (cC 5) y_P_putNumber (.code y_P_putNumber cb_P_putNumber 2 none) 1 := ⟨gV (List.mem_filter.mpr ⟨List.mem_of_getElem? (i := 985) (by decide +kernel), by decide +kernel⟩) (List.mem_filter.mpr ⟨List.mem_of_getElem? (i := 987) (by decide +kernel), by decide +kernel⟩) (List.mem_filter.mpr ⟨List.mem_of_getElem? (i := 47) (by decide +kernel), by decide +kernel⟩) (List.mem_filter.mpr ⟨List.mem_of_getElem? (i := 97) (by decide +kernel), by decide +kernel⟩) (List.mem_filter.mpr ⟨List.mem_of_getElem? (i := 988) (by decide +kernel), by decide +kernel⟩), rfl, by decide, by decide, by decide +kernel⟩
theorem kw_P_73 : kW RZ5 73 (cC 5) y_P_putDate (.code y_P_putDate cb_P_putDate 2 none) 1 := ⟨gV (List.mem_filter.mpr ⟨List.mem_of_getElem? (i := 977) (by decide +kernel), by decide +kernel⟩) (List.mem_filter.mpr ⟨List.mem_of_getElem? (i := 979) (by decide +kernel), by decide +kernel⟩) (List.mem_filter.mpr ⟨List.mem_of_getElem? (i := 45) (by decide +kernel), by decide +kernel⟩) (List.mem_filter.mpr ⟨List.mem_of_getElem? (i := 97) (by decide +kernel), by decide +kernel⟩) (List.mem_filter.mpr ⟨List.mem_of_getElem? (i := 980) (by decide +kernel), by decide +kernel⟩), rfl, by decide, by decide, by decide +kernel⟩
theorem kw_P_37 : kW RZ5 37 (cC 5) y_P_putName (.code y_P_putName cb_P_putName 4 none) 1 := ⟨gV (List.mem_filter.mpr ⟨List.mem_of_getElem? (i := 944) (by decide +kernel), by decide +kernel⟩) (List.mem_filter.mpr ⟨List.mem_of_getElem? (i := 946) (by decide +kernel), by decide +kernel⟩) (List.mem_filter.mpr ⟨List.mem_of_getElem? (i := 40) (by decide +kernel), by decide +kernel⟩) (List.mem_filter.mpr ⟨List.mem_of_getElem? (i := 97) (by decide +kernel), by decide +kernel⟩) (List.mem_filter.mpr ⟨List.mem_of_getElem? (i := 947) (by decide +kernel), by decide +kernel⟩), rfl, by decide, by decide, by decide +kernel⟩
theorem nF_P_83 : Cond.fieldLinkNest RZ5 83 (cT 2 7).1 (cT 2 7).2.1 (cT 2 7).2.2.1 "TableText" ∈ nwA := List.mem_filter.mpr ⟨List.mem_of_getElem? (i := 81) (by decide +kernel), by decide +kernel⟩
theorem kw_P_86 : kWS RZ5 86 y_P_isLine (.code y_P_isLine cb_P_isLine 1 (some .boolean)) 1 := ⟨gS (List.mem_filter.mpr ⟨List.mem_of_getElem? (i := 1000) (by decide +kernel), by decide +kernel⟩) (List.mem_filter.mpr ⟨List.mem_of_getElem? (i := 1001) (by decide +kernel), by decide +kernel⟩) (List.mem_filter.mpr ⟨List.mem_of_getElem? (i := 97) (by decide +kernel), by decide +kernel⟩) (List.mem_filter.mpr ⟨List.mem_of_getElem? (i := 1002) (by decide +kernel), by decide +kernel⟩), by decide, by decide, by decide +kernel⟩
theorem kw_P_80 : kW RZ5 80 (cC 5) y_P_putEnd (.code y_P_putEnd cb_P_putEnd 2 none) 1 := ⟨gV (List.mem_filter.mpr ⟨List.mem_of_getElem? (i := 996) (by decide +kernel), by decide +kernel⟩) (List.mem_filter.mpr ⟨List.mem_of_getElem? (i := 998) (by decide +kernel), by decide +kernel⟩) (List.mem_filter.mpr ⟨List.mem_of_getElem? (i := 49) (by decide +kernel), by decide +kernel⟩) (List.mem_filter.mpr ⟨List.mem_of_getElem? (i := 97) (by decide +kernel), by decide +kernel⟩) (List.mem_filter.mpr ⟨List.mem_of_getElem? (i := 999) (by decide +kernel), by decide +kernel⟩), rfl, by decide, by decide, by decide +kernel⟩
theorem nF_P_19 : Cond.fieldLinkNest RZ5 19 (cT 2 5).1 (cT 2 5).2.1 (cT 2 5).2.2.1 "TableText" ∈ nwA := List.mem_filter.mpr ⟨List.mem_of_getElem? (i := 77) (by decide +kernel), by decide +kernel⟩
theorem kw_P_25 : kW RZ5 25 (cC 5) y_P_putBeginning (.code y_P_putBeginning cb_P_putBeginning 2 none) 1 := ⟨gV (List.mem_filter.mpr ⟨List.mem_of_getElem? (i := 940) (by decide +kernel), by decide +kernel⟩) (List.mem_filter.mpr ⟨List.mem_of_getElem? (i := 942) (by decide +kernel), by decide +kernel⟩) (List.mem_filter.mpr ⟨List.mem_of_getElem? (i := 39) (by decide +kernel), by decide +kernel⟩) (List.mem_filter.mpr ⟨List.mem_of_getElem? (i := 97) (by decide +kernel), by decide +kernel⟩) (List.mem_filter.mpr ⟨List.mem_of_getElem? (i := 943) (by decide +kernel), by decide +kernel⟩), rfl, by decide, by decide, by decide +kernel⟩
theorem kw_P_29 : kW RZ5 29 (cC 5) y_P_putEndings (.code y_P_putEndings cb_P_putEndings 3 (some (.object "TableText$Node"))) 1 := ⟨gV (List.mem_filter.mpr ⟨List.mem_of_getElem? (i := 992) (by decide +kernel), by decide +kernel⟩) (List.mem_filter.mpr ⟨List.mem_of_getElem? (i := 994) (by decide +kernel), by decide +kernel⟩) (List.mem_filter.mpr ⟨List.mem_of_getElem? (i := 48) (by decide +kernel), by decide +kernel⟩) (List.mem_filter.mpr ⟨List.mem_of_getElem? (i := 97) (by decide +kernel), by decide +kernel⟩) (List.mem_filter.mpr ⟨List.mem_of_getElem? (i := 995) (by decide +kernel), by decide +kernel⟩), rfl, by decide, by decide, by decide +kernel⟩
theorem nF_T_66 : Cond.fieldLinkNest RZ1 66 (cT 5 1).1 (cT 5 1).2.1 (cT 5 1).2.2.1 "TableText" ∈ nwA := List.mem_filter.mpr ⟨List.mem_of_getElem? (i := 47) (by decide +kernel), by decide +kernel⟩
theorem kw_T_62 : kWN RZ1 62 "TableText" y_P_fill (.code y_P_fill cb_P_fill 4 none) 1 ∧ Cond.instanceMethod y_P_fill ∈ wsA ∧ Cond.selects (cC 5) y_P_fill y_P_fill ∈ wsA := ⟨⟨List.mem_filter.mpr ⟨List.mem_of_getElem? (i := 939) (by decide +kernel), by decide +kernel⟩, List.mem_filter.mpr ⟨List.mem_of_getElem? (i := 841) (by decide +kernel), by decide +kernel⟩, List.mem_filter.mpr ⟨List.mem_of_getElem? (i := 97) (by decide +kernel), by decide +kernel⟩, by decide, by decide, by decide +kernel⟩, List.mem_filter.mpr ⟨List.mem_of_getElem? (i := 938) (by decide +kernel), by decide +kernel⟩, List.mem_filter.mpr ⟨List.mem_of_getElem? (i := 38) (by decide +kernel), by decide +kernel⟩⟩
theorem kw_T_46 : kWS RZ1 46 y_T_byteAt (.code y_T_byteAt cb_T_byteAt 3 (some .int)) 2 := ⟨gS (List.mem_filter.mpr ⟨List.mem_of_getElem? (i := 1029) (by decide +kernel), by decide +kernel⟩) (List.mem_filter.mpr ⟨List.mem_of_getElem? (i := 1030) (by decide +kernel), by decide +kernel⟩) (List.mem_filter.mpr ⟨List.mem_of_getElem? (i := 96) (by decide +kernel), by decide +kernel⟩) (List.mem_filter.mpr ⟨List.mem_of_getElem? (i := 1031) (by decide +kernel), by decide +kernel⟩), by decide, by decide, by decide +kernel⟩
theorem d_N_entryNamed_0 : decode cb_N_entryNamed 0 = .ok (.aload_n 0, 1) := by decide +kernel
theorem d_N_entryNamed_1 : decode cb_N_entryNamed 1 = .ok (.getfield 25, 3) := by decide +kernel
theorem d_N_entryNamed_4 : decode cb_N_entryNamed 4 = .ok (.astore_n 2, 1) := by decide +kernel
theorem d_N_entryNamed_5 : decode cb_N_entryNamed 5 = .ok (.aload_n 2, 1) := by decide +kernel
theorem d_N_entryNamed_6 : decode cb_N_entryNamed 6 = .ok (.ifnull 31, 3) := by decide +kernel
theorem d_N_entryNamed_9 : decode cb_N_entryNamed 9 = .ok (.aload_n 2, 1) := by decide +kernel
theorem d_N_entryNamed_10 : decode cb_N_entryNamed 10 = .ok (.getfield 31, 3) := by decide +kernel
theorem d_N_entryNamed_13 : decode cb_N_entryNamed 13 = .ok (.ifnull 16, 3) := by decide +kernel
theorem d_N_entryNamed_16 : decode cb_N_entryNamed 16 = .ok (.aload_n 2, 1) := by decide +kernel
theorem d_N_entryNamed_17 : decode cb_N_entryNamed 17 = .ok (.getfield 31, 3) := by decide +kernel
theorem d_N_entryNamed_20 : decode cb_N_entryNamed 20 = .ok (.aload_n 1, 1) := by decide +kernel
theorem d_N_entryNamed_21 : decode cb_N_entryNamed 21 = .ok (.invokevirtual 35, 3) := by decide +kernel
theorem d_N_entryNamed_24 : decode cb_N_entryNamed 24 = .ok (.ifCond .eq 5, 3) := by decide +kernel
theorem d_N_entryNamed_27 : decode cb_N_entryNamed 27 = .ok (.aload_n 2, 1) := by decide +kernel
theorem d_N_entryNamed_28 : decode cb_N_entryNamed 28 = .ok (.areturn, 1) := by decide +kernel
theorem d_N_entryNamed_29 : decode cb_N_entryNamed 29 = .ok (.aload_n 2, 1) := by decide +kernel
theorem d_N_entryNamed_30 : decode cb_N_entryNamed 30 = .ok (.getfield 28, 3) := by decide +kernel
theorem d_N_entryNamed_33 : decode cb_N_entryNamed 33 = .ok (.astore_n 2, 1) := by decide +kernel
theorem d_N_entryNamed_34 : decode cb_N_entryNamed 34 = .ok (.goto (-29), 3) := by decide +kernel
theorem d_N_entryNamed_37 : decode cb_N_entryNamed 37 = .ok (.aconst_null, 1) := by decide +kernel
theorem d_N_entryNamed_38 : decode cb_N_entryNamed 38 = .ok (.areturn, 1) := by decide +kernel
theorem d_N_entryOrNew_0 : decode cb_N_entryOrNew 0 = .ok (.aload_n 0, 1) := by decide +kernel
theorem d_N_entryOrNew_1 : decode cb_N_entryOrNew 1 = .ok (.aload_n 1, 1) := by decide +kernel
theorem d_N_entryOrNew_2 : decode cb_N_entryOrNew 2 = .ok (.invokevirtual 41, 3) := by decide +kernel
theorem d_N_entryOrNew_5 : decode cb_N_entryOrNew 5 = .ok (.astore_n 3, 1) := by decide +kernel
theorem d_N_entryOrNew_6 : decode cb_N_entryOrNew 6 = .ok (.aload_n 3, 1) := by decide +kernel
theorem d_N_entryOrNew_7 : decode cb_N_entryOrNew 7 = .ok (.ifnonnull 23, 3) := by decide +kernel
theorem d_N_entryOrNew_10 : decode cb_N_entryOrNew 10 = .ok (.new 10, 3) := by decide +kernel
theorem d_N_entryOrNew_13 : decode cb_N_entryOrNew 13 = .ok (.dup, 1) := by decide +kernel
theorem d_N_entryOrNew_14 : decode cb_N_entryOrNew 14 = .ok (.iload_n 2, 1) := by decide +kernel
theorem d_N_entryOrNew_15 : decode cb_N_entryOrNew 15 = .ok (.iconst 0, 1) := by decide +kernel
theorem d_N_entryOrNew_16 : decode cb_N_entryOrNew 16 = .ok (.invokespecial 45, 3) := by decide +kernel
theorem d_N_entryOrNew_19 : decode cb_N_entryOrNew 19 = .ok (.astore_n 3, 1) := by decide +kernel
theorem d_N_entryOrNew_20 : decode cb_N_entryOrNew 20 = .ok (.aload_n 3, 1) := by decide +kernel
theorem d_N_entryOrNew_21 : decode cb_N_entryOrNew 21 = .ok (.aload_n 1, 1) := by decide +kernel
theorem d_N_entryOrNew_22 : decode cb_N_entryOrNew 22 = .ok (.putfield 31, 3) := by decide +kernel
theorem d_N_entryOrNew_25 : decode cb_N_entryOrNew 25 = .ok (.aload_n 0, 1) := by decide +kernel
theorem d_N_entryOrNew_26 : decode cb_N_entryOrNew 26 = .ok (.aload_n 3, 1) := by decide +kernel
theorem d_N_entryOrNew_27 : decode cb_N_entryOrNew 27 = .ok (.invokevirtual 48, 3) := by decide +kernel
theorem d_N_entryOrNew_30 : decode cb_N_entryOrNew 30 = .ok (.aload_n 3, 1) := by decide +kernel
theorem d_N_entryOrNew_31 : decode cb_N_entryOrNew 31 = .ok (.areturn, 1) := by decide +kernel
theorem d_R_throughTable_0 : decode cb_R_throughTable 0 = .ok (.aload_n 1, 1) := by decide +kernel
theorem d_R_throughTable_1 : decode cb_R_throughTable 1 = .ok (.aload_n 2, 1) := by decide +kernel
theorem d_R_throughTable_2 : decode cb_R_throughTable 2 = .ok (.getfield 94, 3) := by decide +kernel
theorem d_R_throughTable_5 : decode cb_R_throughTable 5 = .ok (.bipush 8, 2) := by decide +kernel
theorem d_R_throughTable_7 : decode cb_R_throughTable 7 = .ok (.invokevirtual 127, 3) := by decide +kernel
theorem d_R_throughTable_10 : decode cb_R_throughTable 10 = .ok (.astore_n 3, 1) := by decide +kernel
theorem d_R_throughTable_11 : decode cb_R_throughTable 11 = .ok (.aload_n 3, 1) := by decide +kernel
theorem d_R_throughTable_12 : decode cb_R_throughTable 12 = .ok (.getfield 131, 3) := by decide +kernel
theorem d_R_throughTable_15 : decode cb_R_throughTable 15 = .ok (.bipush 6, 2) := by decide +kernel
theorem d_R_throughTable_17 : decode cb_R_throughTable 17 = .ok (.if_icmp .ne 8, 3) := by decide +kernel
theorem d_R_throughTable_20 : decode cb_R_throughTable 20 = .ok (.aload_n 3, 1) := by decide +kernel
theorem d_R_throughTable_21 : decode cb_R_throughTable 21 = .ok (.getfield 146, 3) := by decide +kernel
theorem d_R_throughTable_24 : decode cb_R_throughTable 24 = .ok (.areturn, 1) := by decide +kernel
theorem d_R_throughTable_25 : decode cb_R_throughTable 25 = .ok (.aload_n 3, 1) := by decide +kernel
theorem d_R_throughTable_26 : decode cb_R_throughTable 26 = .ok (.invokevirtual 149, 3) := by decide +kernel
theorem d_R_throughTable_29 : decode cb_R_throughTable 29 = .ok (.ifCond .eq 16, 3) := by decide +kernel
theorem d_R_throughTable_32 : decode cb_R_throughTable 32 = .ok (.aload_n 3, 1) := by decide +kernel
theorem d_R_throughTable_33 : decode cb_R_throughTable 33 = .ok (.getfield 131, 3) := by decide +kernel
theorem d_R_throughTable_36 : decode cb_R_throughTable 36 = .ok (.bipush 10, 2) := by decide +kernel
theorem d_R_throughTable_38 : decode cb_R_throughTable 38 = .ok (.if_icmp .eq 7, 3) := by decide +kernel
theorem d_R_throughTable_41 : decode cb_R_throughTable 41 = .ok (.aload_n 3, 1) := by decide +kernel
theorem d_R_throughTable_42 : decode cb_R_throughTable 42 = .ok (.goto 11, 3) := by decide +kernel
theorem d_R_throughTable_45 : decode cb_R_throughTable 45 = .ok (.aload_n 0, 1) := by decide +kernel
theorem d_R_throughTable_46 : decode cb_R_throughTable 46 = .ok (.aload_n 2, 1) := by decide +kernel
theorem d_R_throughTable_47 : decode cb_R_throughTable 47 = .ok (.getfield 102, 3) := by decide +kernel
theorem d_R_throughTable_50 : decode cb_R_throughTable 50 = .ok (.invokevirtual 105, 3) := by decide +kernel
theorem d_R_throughTable_53 : decode cb_R_throughTable 53 = .ok (.areturn, 1) := by decide +kernel
theorem d_R_newRow_0 : decode cb_R_newRow 0 = .ok (.aload_n 1, 1) := by decide +kernel
theorem d_R_newRow_1 : decode cb_R_newRow 1 = .ok (.aload_n 2, 1) := by decide +kernel
theorem d_R_newRow_2 : decode cb_R_newRow 2 = .ok (.getfield 94, 3) := by decide +kernel
theorem d_R_newRow_5 : decode cb_R_newRow 5 = .ok (.bipush 6, 2) := by decide +kernel
theorem d_R_newRow_7 : decode cb_R_newRow 7 = .ok (.invokevirtual 127, 3) := by decide +kernel
theorem d_R_newRow_10 : decode cb_R_newRow 10 = .ok (.astore_n 3, 1) := by decide +kernel
theorem d_R_newRow_11 : decode cb_R_newRow 11 = .ok (.aload_n 3, 1) := by decide +kernel
theorem d_R_newRow_12 : decode cb_R_newRow 12 = .ok (.getfield 131, 3) := by decide +kernel
theorem d_R_newRow_15 : decode cb_R_newRow 15 = .ok (.bipush 6, 2) := by decide +kernel
theorem d_R_newRow_17 : decode cb_R_newRow 17 = .ok (.if_icmp .eq 12, 3) := by decide +kernel
theorem d_R_newRow_20 : decode cb_R_newRow 20 = .ok (.aload_n 0, 1) := by decide +kernel
theorem d_R_newRow_21 : decode cb_R_newRow 21 = .ok (.aload_n 2, 1) := by decide +kernel
theorem d_R_newRow_22 : decode cb_R_newRow 22 = .ok (.getfield 102, 3) := by decide +kernel
theorem d_R_newRow_25 : decode cb_R_newRow 25 = .ok (.invokevirtual 105, 3) := by decide +kernel
theorem d_R_newRow_28 : decode cb_R_newRow 28 = .ok (.areturn, 1) := by decide +kernel
theorem d_R_newRow_29 : decode cb_R_newRow 29 = .ok (.new 33, 3) := by decide +kernel
theorem d_R_newRow_32 : decode cb_R_newRow 32 = .ok (.dup, 1) := by decide +kernel
theorem d_R_newRow_33 : decode cb_R_newRow 33 = .ok (.bipush 7, 2) := by decide +kernel
theorem d_R_newRow_35 : decode cb_R_newRow 35 = .ok (.iconst 0, 1) := by decide +kernel
theorem d_R_newRow_36 : decode cb_R_newRow 36 = .ok (.invokespecial 35, 3) := by decide +kernel
theorem d_R_newRow_39 : decode cb_R_newRow 39 = .ok (.astore 4, 2) := by decide +kernel
theorem d_R_newRow_41 : decode cb_R_newRow 41 = .ok (.aload_n 3, 1) := by decide +kernel
theorem d_R_newRow_42 : decode cb_R_newRow 42 = .ok (.aload 4, 2) := by decide +kernel
theorem d_R_newRow_44 : decode cb_R_newRow 44 = .ok (.invokevirtual 113, 3) := by decide +kernel
theorem d_R_newRow_47 : decode cb_R_newRow 47 = .ok (.aload 4, 2) := by decide +kernel
theorem d_R_newRow_49 : decode cb_R_newRow 49 = .ok (.areturn, 1) := by decide +kernel
theorem d_R_toldTable_0 : decode cb_R_toldTable 0 = .ok (.aload_n 1, 1) := by decide +kernel
theorem d_R_toldTable_1 : decode cb_R_toldTable 1 = .ok (.aload_n 2, 1) := by decide +kernel
theorem d_R_toldTable_2 : decode cb_R_toldTable 2 = .ok (.getfield 94, 3) := by decide +kernel
theorem d_R_toldTable_5 : decode cb_R_toldTable 5 = .ok (.bipush 8, 2) := by decide +kernel
theorem d_R_toldTable_7 : decode cb_R_toldTable 7 = .ok (.invokevirtual 127, 3) := by decide +kernel
theorem d_R_toldTable_10 : decode cb_R_toldTable 10 = .ok (.astore_n 3, 1) := by decide +kernel
theorem d_R_toldTable_11 : decode cb_R_toldTable 11 = .ok (.aload_n 3, 1) := by decide +kernel
theorem d_R_toldTable_12 : decode cb_R_toldTable 12 = .ok (.getfield 131, 3) := by decide +kernel
theorem d_R_toldTable_15 : decode cb_R_toldTable 15 = .ok (.bipush 8, 2) := by decide +kernel
theorem d_R_toldTable_17 : decode cb_R_toldTable 17 = .ok (.if_icmp .eq 12, 3) := by decide +kernel
theorem d_R_toldTable_20 : decode cb_R_toldTable 20 = .ok (.aload_n 0, 1) := by decide +kernel
theorem d_R_toldTable_21 : decode cb_R_toldTable 21 = .ok (.aload_n 2, 1) := by decide +kernel
theorem d_R_toldTable_22 : decode cb_R_toldTable 22 = .ok (.getfield 102, 3) := by decide +kernel
theorem d_R_toldTable_25 : decode cb_R_toldTable 25 = .ok (.invokevirtual 105, 3) := by decide +kernel
theorem d_R_toldTable_28 : decode cb_R_toldTable 28 = .ok (.areturn, 1) := by decide +kernel
theorem d_R_toldTable_29 : decode cb_R_toldTable 29 = .ok (.aload_n 3, 1) := by decide +kernel
theorem d_R_toldTable_30 : decode cb_R_toldTable 30 = .ok (.bipush 7, 2) := by decide +kernel
theorem d_R_toldTable_32 : decode cb_R_toldTable 32 = .ok (.putfield 131, 3) := by decide +kernel
theorem d_R_toldTable_35 : decode cb_R_toldTable 35 = .ok (.aload_n 3, 1) := by decide +kernel
theorem d_R_toldTable_36 : decode cb_R_toldTable 36 = .ok (.areturn, 1) := by decide +kernel
theorem d_R_openTable_0 : decode cb_R_openTable 0 = .ok (.aload_n 0, 1) := by decide +kernel
theorem d_R_openTable_1 : decode cb_R_openTable 1 = .ok (.getfield 38, 3) := by decide +kernel
theorem d_R_openTable_4 : decode cb_R_openTable 4 = .ok (.astore_n 3, 1) := by decide +kernel
theorem d_R_openTable_5 : decode cb_R_openTable 5 = .ok (.aload_n 1, 1) := by decide +kernel
theorem d_R_openTable_6 : decode cb_R_openTable 6 = .ok (.astore 4, 2) := by decide +kernel
theorem d_R_openTable_8 : decode cb_R_openTable 8 = .ok (.aload 4, 2) := by decide +kernel
theorem d_R_openTable_10 : decode cb_R_openTable 10 = .ok (.getfield 84, 3) := by decide +kernel
theorem d_R_openTable_13 : decode cb_R_openTable 13 = .ok (.ifnull 25, 3) := by decide +kernel
theorem d_R_openTable_16 : decode cb_R_openTable 16 = .ok (.aload_n 3, 1) := by decide +kernel
theorem d_R_openTable_17 : decode cb_R_openTable 17 = .ok (.ifnull 21, 3) := by decide +kernel
theorem d_R_openTable_20 : decode cb_R_openTable 20 = .ok (.aload_n 0, 1) := by decide +kernel
theorem d_R_openTable_21 : decode cb_R_openTable 21 = .ok (.aload_n 3, 1) := by decide +kernel
theorem d_R_openTable_22 : decode cb_R_openTable 22 = .ok (.aload 4, 2) := by decide +kernel
theorem d_R_openTable_24 : decode cb_R_openTable 24 = .ok (.invokevirtual 137, 3) := by decide +kernel
theorem d_R_openTable_27 : decode cb_R_openTable 27 = .ok (.astore_n 3, 1) := by decide +kernel
theorem d_R_openTable_28 : decode cb_R_openTable 28 = .ok (.aload 4, 2) := by decide +kernel
theorem d_R_openTable_30 : decode cb_R_openTable 30 = .ok (.getfield 84, 3) := by decide +kernel
theorem d_R_openTable_33 : decode cb_R_openTable 33 = .ok (.astore 4, 2) := by decide +kernel
theorem d_R_openTable_35 : decode cb_R_openTable 35 = .ok (.goto (-27), 3) := by decide +kernel
theorem d_R_openTable_38 : decode cb_R_openTable 38 = .ok (.aload_n 3, 1) := by decide +kernel
theorem d_R_openTable_39 : decode cb_R_openTable 39 = .ok (.ifnonnull 5, 3) := by decide +kernel
theorem d_R_openTable_42 : decode cb_R_openTable 42 = .ok (.aconst_null, 1) := by decide +kernel
theorem d_R_openTable_43 : decode cb_R_openTable 43 = .ok (.areturn, 1) := by decide +kernel
theorem d_R_openTable_44 : decode cb_R_openTable 44 = .ok (.iload_n 2, 1) := by decide +kernel
theorem d_R_openTable_45 : decode cb_R_openTable 45 = .ok (.ifCond .eq 13, 3) := by decide +kernel
theorem d_R_openTable_48 : decode cb_R_openTable 48 = .ok (.aload_n 0, 1) := by decide +kernel
theorem d_R_openTable_49 : decode cb_R_openTable 49 = .ok (.aload_n 3, 1) := by decide +kernel
theorem d_R_openTable_50 : decode cb_R_openTable 50 = .ok (.aload 4, 2) := by decide +kernel
theorem d_R_openTable_52 : decode cb_R_openTable 52 = .ok (.invokevirtual 140, 3) := by decide +kernel
theorem d_R_openTable_55 : decode cb_R_openTable 55 = .ok (.goto 10, 3) := by decide +kernel
theorem d_R_openTable_58 : decode cb_R_openTable 58 = .ok (.aload_n 0, 1) := by decide +kernel
theorem d_R_openTable_59 : decode cb_R_openTable 59 = .ok (.aload_n 3, 1) := by decide +kernel
theorem d_R_openTable_60 : decode cb_R_openTable 60 = .ok (.aload 4, 2) := by decide +kernel
theorem d_R_openTable_62 : decode cb_R_openTable 62 = .ok (.invokevirtual 143, 3) := by decide +kernel
theorem d_R_openTable_65 : decode cb_R_openTable 65 = .ok (.areturn, 1) := by decide +kernel
theorem d_R_daysOf_0 : decode cb_R_daysOf 0 = .ok (.iload_n 0, 1) := by decide +kernel
theorem d_R_daysOf_1 : decode cb_R_daysOf 1 = .ok (.iconst 4, 1) := by decide +kernel
theorem d_R_daysOf_2 : decode cb_R_daysOf 2 = .ok (.irem, 1) := by decide +kernel
theorem d_R_daysOf_3 : decode cb_R_daysOf 3 = .ok (.ifCond .ne 22, 3) := by decide +kernel
theorem d_R_daysOf_6 : decode cb_R_daysOf 6 = .ok (.iload_n 0, 1) := by decide +kernel
theorem d_R_daysOf_7 : decode cb_R_daysOf 7 = .ok (.bipush 100, 2) := by decide +kernel
theorem d_R_daysOf_9 : decode cb_R_daysOf 9 = .ok (.irem, 1) := by decide +kernel
theorem d_R_daysOf_10 : decode cb_R_daysOf 10 = .ok (.ifCond .ne 11, 3) := by decide +kernel
theorem d_R_daysOf_13 : decode cb_R_daysOf 13 = .ok (.iload_n 0, 1) := by decide +kernel
theorem d_R_daysOf_14 : decode cb_R_daysOf 14 = .ok (.sipush 400, 3) := by decide +kernel
theorem d_R_daysOf_17 : decode cb_R_daysOf 17 = .ok (.irem, 1) := by decide +kernel
theorem d_R_daysOf_18 : decode cb_R_daysOf 18 = .ok (.ifCond .ne 7, 3) := by decide +kernel
theorem d_R_daysOf_21 : decode cb_R_daysOf 21 = .ok (.iconst 1, 1) := by decide +kernel
theorem d_R_daysOf_22 : decode cb_R_daysOf 22 = .ok (.goto 4, 3) := by decide +kernel
theorem d_R_daysOf_25 : decode cb_R_daysOf 25 = .ok (.iconst 0, 1) := by decide +kernel
theorem d_R_daysOf_26 : decode cb_R_daysOf 26 = .ok (.istore_n 2, 1) := by decide +kernel
theorem d_R_daysOf_27 : decode cb_R_daysOf 27 = .ok (.iload_n 1, 1) := by decide +kernel
theorem d_R_daysOf_28 : decode cb_R_daysOf 28 = .ok (.iconst 2, 1) := by decide +kernel
theorem d_R_daysOf_29 : decode cb_R_daysOf 29 = .ok (.if_icmp .ne 10, 3) := by decide +kernel
theorem d_R_daysOf_32 : decode cb_R_daysOf 32 = .ok (.iload_n 2, 1) := by decide +kernel
theorem d_R_daysOf_33 : decode cb_R_daysOf 33 = .ok (.ifCond .eq 6, 3) := by decide +kernel
theorem d_R_daysOf_36 : decode cb_R_daysOf 36 = .ok (.bipush 29, 2) := by decide +kernel
theorem d_R_daysOf_38 : decode cb_R_daysOf 38 = .ok (.ireturn, 1) := by decide +kernel
theorem d_R_daysOf_39 : decode cb_R_daysOf 39 = .ok (.iload_n 1, 1) := by decide +kernel
theorem d_R_daysOf_40 : decode cb_R_daysOf 40 = .ok (.iconst 1, 1) := by decide +kernel
theorem d_R_daysOf_41 : decode cb_R_daysOf 41 = .ok (.if_icmp .lt 19, 3) := by decide +kernel
theorem d_R_daysOf_44 : decode cb_R_daysOf 44 = .ok (.iload_n 1, 1) := by decide +kernel
theorem d_R_daysOf_45 : decode cb_R_daysOf 45 = .ok (.bipush 12, 2) := by decide +kernel
theorem d_R_daysOf_47 : decode cb_R_daysOf 47 = .ok (.if_icmp .gt 13, 3) := by decide +kernel
theorem d_R_daysOf_50 : decode cb_R_daysOf 50 = .ok (.getstatic 236, 3) := by decide +kernel
theorem d_R_daysOf_53 : decode cb_R_daysOf 53 = .ok (.iload_n 1, 1) := by decide +kernel
theorem d_R_daysOf_54 : decode cb_R_daysOf 54 = .ok (.iconst 1, 1) := by decide +kernel
theorem d_R_daysOf_55 : decode cb_R_daysOf 55 = .ok (.isub, 1) := by decide +kernel
theorem d_R_daysOf_56 : decode cb_R_daysOf 56 = .ok (.iaload, 1) := by decide +kernel
theorem d_R_daysOf_57 : decode cb_R_daysOf 57 = .ok (.goto 4, 3) := by decide +kernel
theorem d_R_daysOf_60 : decode cb_R_daysOf 60 = .ok (.iconst 0, 1) := by decide +kernel
theorem d_R_daysOf_61 : decode cb_R_daysOf 61 = .ok (.ireturn, 1) := by decide +kernel
theorem d_R_readDate_0 : decode cb_R_readDate 0 = .ok (.iconst 0, 1) := by decide +kernel
theorem d_R_readDate_1 : decode cb_R_readDate 1 = .ok (.istore_n 1, 1) := by decide +kernel
theorem d_R_readDate_2 : decode cb_R_readDate 2 = .ok (.iconst 0, 1) := by decide +kernel
theorem d_R_readDate_3 : decode cb_R_readDate 3 = .ok (.istore_n 2, 1) := by decide +kernel
theorem d_R_readDate_4 : decode cb_R_readDate 4 = .ok (.iload_n 2, 1) := by decide +kernel
theorem d_R_readDate_5 : decode cb_R_readDate 5 = .ok (.iconst 4, 1) := by decide +kernel
theorem d_R_readDate_6 : decode cb_R_readDate 6 = .ok (.if_icmp .ge 35, 3) := by decide +kernel
theorem d_R_readDate_9 : decode cb_R_readDate 9 = .ok (.bipush 10, 2) := by decide +kernel
theorem d_R_readDate_11 : decode cb_R_readDate 11 = .ok (.iload_n 1, 1) := by decide +kernel
theorem d_R_readDate_12 : decode cb_R_readDate 12 = .ok (.imul, 1) := by decide +kernel
theorem d_R_readDate_13 : decode cb_R_readDate 13 = .ok (.aload_n 0, 1) := by decide +kernel
theorem d_R_readDate_14 : decode cb_R_readDate 14 = .ok (.aload_n 0, 1) := by decide +kernel
theorem d_R_readDate_15 : decode cb_R_readDate 15 = .ok (.getfield 45, 3) := by decide +kernel
theorem d_R_readDate_18 : decode cb_R_readDate 18 = .ok (.bipush 10, 2) := by decide +kernel
theorem d_R_readDate_20 : decode cb_R_readDate 20 = .ok (.invokevirtual 226, 3) := by decide +kernel
theorem d_R_readDate_23 : decode cb_R_readDate 23 = .ok (.iadd, 1) := by decide +kernel
theorem d_R_readDate_24 : decode cb_R_readDate 24 = .ok (.istore_n 1, 1) := by decide +kernel
theorem d_R_readDate_25 : decode cb_R_readDate 25 = .ok (.aload_n 0, 1) := by decide +kernel
theorem d_R_readDate_26 : decode cb_R_readDate 26 = .ok (.dup, 1) := by decide +kernel
theorem d_R_readDate_27 : decode cb_R_readDate 27 = .ok (.getfield 45, 3) := by decide +kernel
theorem d_R_readDate_30 : decode cb_R_readDate 30 = .ok (.iconst 1, 1) := by decide +kernel
theorem d_R_readDate_31 : decode cb_R_readDate 31 = .ok (.iadd, 1) := by decide +kernel
theorem d_R_readDate_32 : decode cb_R_readDate 32 = .ok (.putfield 45, 3) := by decide +kernel
theorem d_R_readDate_35 : decode cb_R_readDate 35 = .ok (.iinc 2 1, 3) := by decide +kernel
theorem d_R_readDate_38 : decode cb_R_readDate 38 = .ok (.goto (-34), 3) := by decide +kernel
theorem d_R_readDate_41 : decode cb_R_readDate 41 = .ok (.aload_n 0, 1) := by decide +kernel
theorem d_R_readDate_42 : decode cb_R_readDate 42 = .ok (.dup, 1) := by decide +kernel
theorem d_R_readDate_43 : decode cb_R_readDate 43 = .ok (.getfield 45, 3) := by decide +kernel
theorem d_R_readDate_46 : decode cb_R_readDate 46 = .ok (.iconst 1, 1) := by decide +kernel
theorem d_R_readDate_47 : decode cb_R_readDate 47 = .ok (.iadd, 1) := by decide +kernel
theorem d_R_readDate_48 : decode cb_R_readDate 48 = .ok (.putfield 45, 3) := by decide +kernel
theorem d_R_readDate_51 : decode cb_R_readDate 51 = .ok (.aload_n 0, 1) := by decide +kernel
theorem d_R_readDate_52 : decode cb_R_readDate 52 = .ok (.bipush 12, 2) := by decide +kernel
theorem d_R_readDate_54 : decode cb_R_readDate 54 = .ok (.invokevirtual 229, 3) := by decide +kernel
theorem d_R_readDate_57 : decode cb_R_readDate 57 = .ok (.istore_n 2, 1) := by decide +kernel
theorem d_R_readDate_58 : decode cb_R_readDate 58 = .ok (.iload_n 2, 1) := by decide +kernel
theorem d_R_readDate_59 : decode cb_R_readDate 59 = .ok (.ifCond .lt 12, 3) := by decide +kernel
theorem d_R_readDate_62 : decode cb_R_readDate 62 = .ok (.aload_n 0, 1) := by decide +kernel
theorem d_R_readDate_63 : decode cb_R_readDate 63 = .ok (.bipush 45, 2) := by decide +kernel
theorem d_R_readDate_65 : decode cb_R_readDate 65 = .ok (.invokevirtual 73, 3) := by decide +kernel
theorem d_R_readDate_68 : decode cb_R_readDate 68 = .ok (.ifCond .ne 5, 3) := by decide +kernel
theorem d_R_readDate_71 : decode cb_R_readDate 71 = .ok (.aconst_null, 1) := by decide +kernel
theorem d_R_readDate_72 : decode cb_R_readDate 72 = .ok (.areturn, 1) := by decide +kernel
theorem d_R_readDate_73 : decode cb_R_readDate 73 = .ok (.aload_n 0, 1) := by decide +kernel
theorem d_R_readDate_74 : decode cb_R_readDate 74 = .ok (.iload_n 1, 1) := by decide +kernel
theorem d_R_readDate_75 : decode cb_R_readDate 75 = .ok (.iload_n 2, 1) := by decide +kernel
theorem d_R_readDate_76 : decode cb_R_readDate 76 = .ok (.invokestatic 233, 3) := by decide +kernel
theorem d_R_readDate_79 : decode cb_R_readDate 79 = .ok (.invokevirtual 229, 3) := by decide +kernel
theorem d_R_readDate_82 : decode cb_R_readDate 82 = .ok (.istore_n 3, 1) := by decide +kernel
theorem d_R_readDate_83 : decode cb_R_readDate 83 = .ok (.iload_n 3, 1) := by decide +kernel
theorem d_R_readDate_84 : decode cb_R_readDate 84 = .ok (.ifCond .ge 5, 3) := by decide +kernel
theorem d_R_readDate_87 : decode cb_R_readDate 87 = .ok (.aconst_null, 1) := by decide +kernel
theorem d_R_readDate_88 : decode cb_R_readDate 88 = .ok (.areturn, 1) := by decide +kernel
theorem d_R_readDate_89 : decode cb_R_readDate 89 = .ok (.new 33, 3) := by decide +kernel
theorem d_R_readDate_92 : decode cb_R_readDate 92 = .ok (.dup, 1) := by decide +kernel
theorem d_R_readDate_93 : decode cb_R_readDate 93 = .ok (.iconst 4, 1) := by decide +kernel
theorem d_R_readDate_94 : decode cb_R_readDate 94 = .ok (.sipush 10000, 3) := by decide +kernel
theorem d_R_readDate_97 : decode cb_R_readDate 97 = .ok (.iload_n 1, 1) := by decide +kernel
theorem d_R_readDate_98 : decode cb_R_readDate 98 = .ok (.imul, 1) := by decide +kernel
theorem d_R_readDate_99 : decode cb_R_readDate 99 = .ok (.bipush 100, 2) := by decide +kernel
theorem d_R_readDate_101 : decode cb_R_readDate 101 = .ok (.iload_n 2, 1) := by decide +kernel
theorem d_R_readDate_102 : decode cb_R_readDate 102 = .ok (.imul, 1) := by decide +kernel
theorem d_R_readDate_103 : decode cb_R_readDate 103 = .ok (.iadd, 1) := by decide +kernel
theorem d_R_readDate_104 : decode cb_R_readDate 104 = .ok (.iload_n 3, 1) := by decide +kernel
theorem d_R_readDate_105 : decode cb_R_readDate 105 = .ok (.iadd, 1) := by decide +kernel
theorem d_R_readDate_106 : decode cb_R_readDate 106 = .ok (.invokespecial 35, 3) := by decide +kernel
theorem d_R_readDate_109 : decode cb_R_readDate 109 = .ok (.areturn, 1) := by decide +kernel
theorem d_R_readNumber_0 : decode cb_R_readNumber 0 = .ok (.aload_n 0, 1) := by decide +kernel
theorem d_R_readNumber_1 : decode cb_R_readNumber 1 = .ok (.invokevirtual 54, 3) := by decide +kernel
theorem d_R_readNumber_4 : decode cb_R_readNumber 4 = .ok (.bipush 43, 2) := by decide +kernel
theorem d_R_readNumber_6 : decode cb_R_readNumber 6 = .ok (.if_icmp .eq 12, 3) := by decide +kernel
theorem d_R_readNumber_9 : decode cb_R_readNumber 9 = .ok (.aload_n 0, 1) := by decide +kernel
theorem d_R_readNumber_10 : decode cb_R_readNumber 10 = .ok (.invokevirtual 54, 3) := by decide +kernel
theorem d_R_readNumber_13 : decode cb_R_readNumber 13 = .ok (.bipush 45, 2) := by decide +kernel
theorem d_R_readNumber_15 : decode cb_R_readNumber 15 = .ok (.if_icmp .ne 7, 3) := by decide +kernel
theorem d_R_readNumber_18 : decode cb_R_readNumber 18 = .ok (.iconst 1, 1) := by decide +kernel
theorem d_R_readNumber_19 : decode cb_R_readNumber 19 = .ok (.goto 4, 3) := by decide +kernel
theorem d_R_readNumber_22 : decode cb_R_readNumber 22 = .ok (.iconst 0, 1) := by decide +kernel
theorem d_R_readNumber_23 : decode cb_R_readNumber 23 = .ok (.istore_n 1, 1) := by decide +kernel
theorem d_R_readNumber_24 : decode cb_R_readNumber 24 = .ok (.aload_n 0, 1) := by decide +kernel
theorem d_R_readNumber_25 : decode cb_R_readNumber 25 = .ok (.invokevirtual 54, 3) := by decide +kernel
theorem d_R_readNumber_28 : decode cb_R_readNumber 28 = .ok (.bipush 45, 2) := by decide +kernel
theorem d_R_readNumber_30 : decode cb_R_readNumber 30 = .ok (.if_icmp .ne 7, 3) := by decide +kernel
theorem d_R_readNumber_33 : decode cb_R_readNumber 33 = .ok (.iconst 1, 1) := by decide +kernel
theorem d_R_readNumber_34 : decode cb_R_readNumber 34 = .ok (.goto 4, 3) := by decide +kernel
theorem d_R_readNumber_37 : decode cb_R_readNumber 37 = .ok (.iconst 0, 1) := by decide +kernel
theorem d_R_readNumber_38 : decode cb_R_readNumber 38 = .ok (.istore_n 2, 1) := by decide +kernel
theorem d_R_readNumber_39 : decode cb_R_readNumber 39 = .ok (.iload_n 1, 1) := by decide +kernel
theorem d_R_readNumber_40 : decode cb_R_readNumber 40 = .ok (.ifCond .eq 13, 3) := by decide +kernel
theorem d_R_readNumber_43 : decode cb_R_readNumber 43 = .ok (.aload_n 0, 1) := by decide +kernel
theorem d_R_readNumber_44 : decode cb_R_readNumber 44 = .ok (.dup, 1) := by decide +kernel
theorem d_R_readNumber_45 : decode cb_R_readNumber 45 = .ok (.getfield 45, 3) := by decide +kernel
theorem d_R_readNumber_48 : decode cb_R_readNumber 48 = .ok (.iconst 1, 1) := by decide +kernel
theorem d_R_readNumber_49 : decode cb_R_readNumber 49 = .ok (.iadd, 1) := by decide +kernel
theorem d_R_readNumber_50 : decode cb_R_readNumber 50 = .ok (.putfield 45, 3) := by decide +kernel
theorem d_R_readNumber_53 : decode cb_R_readNumber 53 = .ok (.iconst 0, 1) := by decide +kernel
theorem d_R_readNumber_54 : decode cb_R_readNumber 54 = .ok (.istore_n 3, 1) := by decide +kernel
theorem d_R_readNumber_55 : decode cb_R_readNumber 55 = .ok (.aload_n 0, 1) := by decide +kernel
theorem d_R_readNumber_56 : decode cb_R_readNumber 56 = .ok (.invokevirtual 54, 3) := by decide +kernel
theorem d_R_readNumber_59 : decode cb_R_readNumber 59 = .ok (.bipush 48, 2) := by decide +kernel
theorem d_R_readNumber_61 : decode cb_R_readNumber 61 = .ok (.if_icmp .eq 15, 3) := by decide +kernel
theorem d_R_readNumber_64 : decode cb_R_readNumber 64 = .ok (.aload_n 0, 1) := by decide +kernel
theorem d_R_readNumber_65 : decode cb_R_readNumber 65 = .ok (.bipush 10, 2) := by decide +kernel
theorem d_R_readNumber_67 : decode cb_R_readNumber 67 = .ok (.bipush 9, 2) := by decide +kernel
theorem d_R_readNumber_69 : decode cb_R_readNumber 69 = .ok (.invokevirtual 222, 3) := by decide +kernel
theorem d_R_readNumber_72 : decode cb_R_readNumber 72 = .ok (.istore_n 3, 1) := by decide +kernel
theorem d_R_readNumber_73 : decode cb_R_readNumber 73 = .ok (.goto 45, 3) := by decide +kernel
theorem d_R_readNumber_76 : decode cb_R_readNumber 76 = .ok (.aload_n 0, 1) := by decide +kernel
theorem d_R_readNumber_77 : decode cb_R_readNumber 77 = .ok (.dup, 1) := by decide +kernel
theorem d_R_readNumber_78 : decode cb_R_readNumber 78 = .ok (.getfield 45, 3) := by decide +kernel
theorem d_R_readNumber_81 : decode cb_R_readNumber 81 = .ok (.iconst 1, 1) := by decide +kernel
theorem d_R_readNumber_82 : decode cb_R_readNumber 82 = .ok (.iadd, 1) := by decide +kernel
theorem d_R_readNumber_83 : decode cb_R_readNumber 83 = .ok (.putfield 45, 3) := by decide +kernel
theorem d_R_readNumber_86 : decode cb_R_readNumber 86 = .ok (.iload_n 1, 1) := by decide +kernel
theorem d_R_readNumber_87 : decode cb_R_readNumber 87 = .ok (.ifCond .ne 31, 3) := by decide +kernel
theorem d_R_readNumber_90 : decode cb_R_readNumber 90 = .ok (.aload_n 0, 1) := by decide +kernel
theorem d_R_readNumber_91 : decode cb_R_readNumber 91 = .ok (.invokevirtual 54, 3) := by decide +kernel
theorem d_R_readNumber_94 : decode cb_R_readNumber 94 = .ok (.bipush 120, 2) := by decide +kernel
theorem d_R_readNumber_96 : decode cb_R_readNumber 96 = .ok (.if_icmp .ne 22, 3) := by decide +kernel
theorem d_R_readNumber_99 : decode cb_R_readNumber 99 = .ok (.aload_n 0, 1) := by decide +kernel
theorem d_R_readNumber_100 : decode cb_R_readNumber 100 = .ok (.dup, 1) := by decide +kernel
theorem d_R_readNumber_101 : decode cb_R_readNumber 101 = .ok (.getfield 45, 3) := by decide +kernel
theorem d_R_readNumber_104 : decode cb_R_readNumber 104 = .ok (.iconst 1, 1) := by decide +kernel
theorem d_R_readNumber_105 : decode cb_R_readNumber 105 = .ok (.iadd, 1) := by decide +kernel
theorem d_R_readNumber_106 : decode cb_R_readNumber 106 = .ok (.putfield 45, 3) := by decide +kernel
theorem d_R_readNumber_109 : decode cb_R_readNumber 109 = .ok (.aload_n 0, 1) := by decide +kernel
theorem d_R_readNumber_110 : decode cb_R_readNumber 110 = .ok (.bipush 16, 2) := by decide +kernel
theorem d_R_readNumber_112 : decode cb_R_readNumber 112 = .ok (.bipush 7, 2) := by decide +kernel
theorem d_R_readNumber_114 : decode cb_R_readNumber 114 = .ok (.invokevirtual 222, 3) := by decide +kernel
theorem d_R_readNumber_117 : decode cb_R_readNumber 117 = .ok (.istore_n 3, 1) := by decide +kernel
theorem d_R_readNumber_118 : decode cb_R_readNumber 118 = .ok (.iload_n 3, 1) := by decide +kernel
theorem d_R_readNumber_119 : decode cb_R_readNumber 119 = .ok (.ifCond .ge 5, 3) := by decide +kernel
theorem d_R_readNumber_122 : decode cb_R_readNumber 122 = .ok (.aconst_null, 1) := by decide +kernel
theorem d_R_readNumber_123 : decode cb_R_readNumber 123 = .ok (.areturn, 1) := by decide +kernel
theorem d_R_readNumber_124 : decode cb_R_readNumber 124 = .ok (.new 33, 3) := by decide +kernel
theorem d_R_readNumber_127 : decode cb_R_readNumber 127 = .ok (.dup, 1) := by decide +kernel
theorem d_R_readNumber_128 : decode cb_R_readNumber 128 = .ok (.iconst 1, 1) := by decide +kernel
theorem d_R_readNumber_129 : decode cb_R_readNumber 129 = .ok (.iload_n 2, 1) := by decide +kernel
theorem d_R_readNumber_130 : decode cb_R_readNumber 130 = .ok (.ifCond .eq 8, 3) := by decide +kernel
theorem d_R_readNumber_133 : decode cb_R_readNumber 133 = .ok (.iload_n 3, 1) := by decide +kernel
theorem d_R_readNumber_134 : decode cb_R_readNumber 134 = .ok (.ineg, 1) := by decide +kernel
theorem d_R_readNumber_135 : decode cb_R_readNumber 135 = .ok (.goto 4, 3) := by decide +kernel
theorem d_R_readNumber_138 : decode cb_R_readNumber 138 = .ok (.iload_n 3, 1) := by decide +kernel
theorem d_R_readNumber_139 : decode cb_R_readNumber 139 = .ok (.invokespecial 35, 3) := by decide +kernel
theorem d_R_readNumber_142 : decode cb_R_readNumber 142 = .ok (.areturn, 1) := by decide +kernel
theorem d_R_readTruth_0 : decode cb_R_readTruth 0 = .ok (.iconst 0, 1) := by decide +kernel
theorem d_R_readTruth_1 : decode cb_R_readTruth 1 = .ok (.istore_n 3, 1) := by decide +kernel
theorem d_R_readTruth_2 : decode cb_R_readTruth 2 = .ok (.iload_n 3, 1) := by decide +kernel
theorem d_R_readTruth_3 : decode cb_R_readTruth 3 = .ok (.aload_n 1, 1) := by decide +kernel
theorem d_R_readTruth_4 : decode cb_R_readTruth 4 = .ok (.invokevirtual 191, 3) := by decide +kernel
theorem d_R_readTruth_7 : decode cb_R_readTruth 7 = .ok (.if_icmp .ge 23, 3) := by decide +kernel
theorem d_R_readTruth_10 : decode cb_R_readTruth 10 = .ok (.aload_n 0, 1) := by decide +kernel
theorem d_R_readTruth_11 : decode cb_R_readTruth 11 = .ok (.aload_n 1, 1) := by decide +kernel
theorem d_R_readTruth_12 : decode cb_R_readTruth 12 = .ok (.iload_n 3, 1) := by decide +kernel
theorem d_R_readTruth_13 : decode cb_R_readTruth 13 = .ok (.invokevirtual 219, 3) := by decide +kernel
theorem d_R_readTruth_16 : decode cb_R_readTruth 16 = .ok (.invokevirtual 73, 3) := by decide +kernel
theorem d_R_readTruth_19 : decode cb_R_readTruth 19 = .ok (.ifCond .ne 5, 3) := by decide +kernel
theorem d_R_readTruth_22 : decode cb_R_readTruth 22 = .ok (.aconst_null, 1) := by decide +kernel
theorem d_R_readTruth_23 : decode cb_R_readTruth 23 = .ok (.areturn, 1) := by decide +kernel
theorem d_R_readTruth_24 : decode cb_R_readTruth 24 = .ok (.iinc 3 1, 3) := by decide +kernel
theorem d_R_readTruth_27 : decode cb_R_readTruth 27 = .ok (.goto (-25), 3) := by decide +kernel
theorem d_R_readTruth_30 : decode cb_R_readTruth 30 = .ok (.new 33, 3) := by decide +kernel
theorem d_R_readTruth_33 : decode cb_R_readTruth 33 = .ok (.dup, 1) := by decide +kernel
theorem d_R_readTruth_34 : decode cb_R_readTruth 34 = .ok (.iconst 2, 1) := by decide +kernel
theorem d_R_readTruth_35 : decode cb_R_readTruth 35 = .ok (.iload_n 2, 1) := by decide +kernel
theorem d_R_readTruth_36 : decode cb_R_readTruth 36 = .ok (.invokespecial 35, 3) := by decide +kernel
theorem d_R_readTruth_39 : decode cb_R_readTruth 39 = .ok (.areturn, 1) := by decide +kernel
theorem d_P_putAll_0 : decode cb_P_putAll 0 = .ok (.iconst 0, 1) := by decide +kernel
theorem d_P_putAll_1 : decode cb_P_putAll 1 = .ok (.istore_n 2, 1) := by decide +kernel
theorem d_P_putAll_2 : decode cb_P_putAll 2 = .ok (.iload_n 2, 1) := by decide +kernel
theorem d_P_putAll_3 : decode cb_P_putAll 3 = .ok (.aload_n 1, 1) := by decide +kernel
theorem d_P_putAll_4 : decode cb_P_putAll 4 = .ok (.invokevirtual 102, 3) := by decide +kernel
theorem d_P_putAll_7 : decode cb_P_putAll 7 = .ok (.if_icmp .ge 18, 3) := by decide +kernel
theorem d_P_putAll_10 : decode cb_P_putAll 10 = .ok (.aload_n 0, 1) := by decide +kernel
theorem d_P_putAll_11 : decode cb_P_putAll 11 = .ok (.aload_n 1, 1) := by decide +kernel
theorem d_P_putAll_12 : decode cb_P_putAll 12 = .ok (.iload_n 2, 1) := by decide +kernel
theorem d_P_putAll_13 : decode cb_P_putAll 13 = .ok (.invokevirtual 106, 3) := by decide +kernel
theorem d_P_putAll_16 : decode cb_P_putAll 16 = .ok (.invokevirtual 50, 3) := by decide +kernel
theorem d_P_putAll_19 : decode cb_P_putAll 19 = .ok (.iinc 2 1, 3) := by decide +kernel
theorem d_P_putAll_22 : decode cb_P_putAll 22 = .ok (.goto (-20), 3) := by decide +kernel
theorem d_P_putAll_25 : decode cb_P_putAll 25 = .ok (.return_, 1) := by decide +kernel
theorem d_P_putQuoted_0 : decode cb_P_putQuoted 0 = .ok (.aload_n 0, 1) := by decide +kernel
theorem d_P_putQuoted_1 : decode cb_P_putQuoted 1 = .ok (.bipush 34, 2) := by decide +kernel
theorem d_P_putQuoted_3 : decode cb_P_putQuoted 3 = .ok (.invokevirtual 50, 3) := by decide +kernel
theorem d_P_putQuoted_6 : decode cb_P_putQuoted 6 = .ok (.iconst 0, 1) := by decide +kernel
theorem d_P_putQuoted_7 : decode cb_P_putQuoted 7 = .ok (.istore_n 2, 1) := by decide +kernel
theorem d_P_putQuoted_8 : decode cb_P_putQuoted 8 = .ok (.iload_n 2, 1) := by decide +kernel
theorem d_P_putQuoted_9 : decode cb_P_putQuoted 9 = .ok (.aload_n 1, 1) := by decide +kernel
theorem d_P_putQuoted_10 : decode cb_P_putQuoted 10 = .ok (.invokevirtual 102, 3) := by decide +kernel
theorem d_P_putQuoted_13 : decode cb_P_putQuoted 13 = .ok (.if_icmp .ge 68, 3) := by decide +kernel
theorem d_P_putQuoted_16 : decode cb_P_putQuoted 16 = .ok (.aload_n 1, 1) := by decide +kernel
theorem d_P_putQuoted_17 : decode cb_P_putQuoted 17 = .ok (.iload_n 2, 1) := by decide +kernel
theorem d_P_putQuoted_18 : decode cb_P_putQuoted 18 = .ok (.invokevirtual 106, 3) := by decide +kernel
theorem d_P_putQuoted_21 : decode cb_P_putQuoted 21 = .ok (.istore_n 3, 1) := by decide +kernel
theorem d_P_putQuoted_22 : decode cb_P_putQuoted 22 = .ok (.iload_n 3, 1) := by decide +kernel
theorem d_P_putQuoted_23 : decode cb_P_putQuoted 23 = .ok (.bipush 10, 2) := by decide +kernel
theorem d_P_putQuoted_25 : decode cb_P_putQuoted 25 = .ok (.if_icmp .ne 12, 3) := by decide +kernel
theorem d_P_putQuoted_28 : decode cb_P_putQuoted 28 = .ok (.aload_n 0, 1) := by decide +kernel
theorem d_P_putQuoted_29 : decode cb_P_putQuoted 29 = .ok (.ldc 114, 2) := by decide +kernel
theorem d_P_putQuoted_31 : decode cb_P_putQuoted 31 = .ok (.invokevirtual 43, 3) := by decide +kernel
theorem d_P_putQuoted_34 : decode cb_P_putQuoted 34 = .ok (.goto 41, 3) := by decide +kernel
theorem d_P_putQuoted_37 : decode cb_P_putQuoted 37 = .ok (.iload_n 3, 1) := by decide +kernel
theorem d_P_putQuoted_38 : decode cb_P_putQuoted 38 = .ok (.bipush 9, 2) := by decide +kernel
theorem d_P_putQuoted_40 : decode cb_P_putQuoted 40 = .ok (.if_icmp .ne 12, 3) := by decide +kernel
theorem d_P_putQuoted_43 : decode cb_P_putQuoted 43 = .ok (.aload_n 0, 1) := by decide +kernel
theorem d_P_putQuoted_44 : decode cb_P_putQuoted 44 = .ok (.ldc 116, 2) := by decide +kernel
theorem d_P_putQuoted_46 : decode cb_P_putQuoted 46 = .ok (.invokevirtual 43, 3) := by decide +kernel
theorem d_P_putQuoted_49 : decode cb_P_putQuoted 49 = .ok (.goto 26, 3) := by decide +kernel
theorem d_P_putQuoted_52 : decode cb_P_putQuoted 52 = .ok (.iload_n 3, 1) := by decide +kernel
theorem d_P_putQuoted_53 : decode cb_P_putQuoted 53 = .ok (.bipush 34, 2) := by decide +kernel
theorem d_P_putQuoted_55 : decode cb_P_putQuoted 55 = .ok (.if_icmp .eq 9, 3) := by decide +kernel
theorem d_P_putQuoted_58 : decode cb_P_putQuoted 58 = .ok (.iload_n 3, 1) := by decide +kernel
theorem d_P_putQuoted_59 : decode cb_P_putQuoted 59 = .ok (.bipush 92, 2) := by decide +kernel
theorem d_P_putQuoted_61 : decode cb_P_putQuoted 61 = .ok (.if_icmp .ne 9, 3) := by decide +kernel
theorem d_P_putQuoted_64 : decode cb_P_putQuoted 64 = .ok (.aload_n 0, 1) := by decide +kernel
theorem d_P_putQuoted_65 : decode cb_P_putQuoted 65 = .ok (.bipush 92, 2) := by decide +kernel
theorem d_P_putQuoted_67 : decode cb_P_putQuoted 67 = .ok (.invokevirtual 50, 3) := by decide +kernel
theorem d_P_putQuoted_70 : decode cb_P_putQuoted 70 = .ok (.aload_n 0, 1) := by decide +kernel
theorem d_P_putQuoted_71 : decode cb_P_putQuoted 71 = .ok (.iload_n 3, 1) := by decide +kernel
theorem d_P_putQuoted_72 : decode cb_P_putQuoted 72 = .ok (.invokevirtual 50, 3) := by decide +kernel
theorem d_P_putQuoted_75 : decode cb_P_putQuoted 75 = .ok (.iinc 2 1, 3) := by decide +kernel
theorem d_P_putQuoted_78 : decode cb_P_putQuoted 78 = .ok (.goto (-70), 3) := by decide +kernel
theorem d_P_putQuoted_81 : decode cb_P_putQuoted 81 = .ok (.aload_n 0, 1) := by decide +kernel
theorem d_P_putQuoted_82 : decode cb_P_putQuoted 82 = .ok (.bipush 34, 2) := by decide +kernel
theorem d_P_putQuoted_84 : decode cb_P_putQuoted 84 = .ok (.invokevirtual 50, 3) := by decide +kernel
theorem d_P_putQuoted_87 : decode cb_P_putQuoted 87 = .ok (.return_, 1) := by decide +kernel
theorem d_P_putName_0 : decode cb_P_putName 0 = .ok (.aload_n 1, 1) := by decide +kernel
theorem d_P_putName_1 : decode cb_P_putName 1 = .ok (.invokevirtual 97, 3) := by decide +kernel
theorem d_P_putName_4 : decode cb_P_putName 4 = .ok (.ifCond .ne 7, 3) := by decide +kernel
theorem d_P_putName_7 : decode cb_P_putName 7 = .ok (.iconst 1, 1) := by decide +kernel
theorem d_P_putName_8 : decode cb_P_putName 8 = .ok (.goto 4, 3) := by decide +kernel
theorem d_P_putName_11 : decode cb_P_putName 11 = .ok (.iconst 0, 1) := by decide +kernel
theorem d_P_putName_12 : decode cb_P_putName 12 = .ok (.istore_n 2, 1) := by decide +kernel
theorem d_P_putName_13 : decode cb_P_putName 13 = .ok (.iconst 0, 1) := by decide +kernel
theorem d_P_putName_14 : decode cb_P_putName 14 = .ok (.istore_n 3, 1) := by decide +kernel
theorem d_P_putName_15 : decode cb_P_putName 15 = .ok (.iload_n 3, 1) := by decide +kernel
theorem d_P_putName_16 : decode cb_P_putName 16 = .ok (.aload_n 1, 1) := by decide +kernel
theorem d_P_putName_17 : decode cb_P_putName 17 = .ok (.invokevirtual 102, 3) := by decide +kernel
theorem d_P_putName_20 : decode cb_P_putName 20 = .ok (.if_icmp .ge 30, 3) := by decide +kernel
theorem d_P_putName_23 : decode cb_P_putName 23 = .ok (.iload_n 2, 1) := by decide +kernel
theorem d_P_putName_24 : decode cb_P_putName 24 = .ok (.ifCond .eq 18, 3) := by decide +kernel
theorem d_P_putName_27 : decode cb_P_putName 27 = .ok (.aload_n 1, 1) := by decide +kernel
theorem d_P_putName_28 : decode cb_P_putName 28 = .ok (.iload_n 3, 1) := by decide +kernel
theorem d_P_putName_29 : decode cb_P_putName 29 = .ok (.invokevirtual 106, 3) := by decide +kernel
theorem d_P_putName_32 : decode cb_P_putName 32 = .ok (.invokestatic 110, 3) := by decide +kernel
theorem d_P_putName_35 : decode cb_P_putName 35 = .ok (.ifCond .eq 7, 3) := by decide +kernel
theorem d_P_putName_38 : decode cb_P_putName 38 = .ok (.iconst 1, 1) := by decide +kernel
theorem d_P_putName_39 : decode cb_P_putName 39 = .ok (.goto 4, 3) := by decide +kernel
theorem d_P_putName_42 : decode cb_P_putName 42 = .ok (.iconst 0, 1) := by decide +kernel
theorem d_P_putName_43 : decode cb_P_putName 43 = .ok (.istore_n 2, 1) := by decide +kernel
theorem d_P_putName_44 : decode cb_P_putName 44 = .ok (.iinc 3 1, 3) := by decide +kernel
theorem d_P_putName_47 : decode cb_P_putName 47 = .ok (.goto (-32), 3) := by decide +kernel
theorem d_P_putName_50 : decode cb_P_putName 50 = .ok (.iload_n 2, 1) := by decide +kernel
theorem d_P_putName_51 : decode cb_P_putName 51 = .ok (.ifCond .eq 11, 3) := by decide +kernel
theorem d_P_putName_54 : decode cb_P_putName 54 = .ok (.aload_n 0, 1) := by decide +kernel
theorem d_P_putName_55 : decode cb_P_putName 55 = .ok (.aload_n 1, 1) := by decide +kernel
theorem d_P_putName_56 : decode cb_P_putName 56 = .ok (.invokevirtual 43, 3) := by decide +kernel
theorem d_P_putName_59 : decode cb_P_putName 59 = .ok (.goto 8, 3) := by decide +kernel
theorem d_P_putName_62 : decode cb_P_putName 62 = .ok (.aload_n 0, 1) := by decide +kernel
theorem d_P_putName_63 : decode cb_P_putName 63 = .ok (.aload_n 1, 1) := by decide +kernel
theorem d_P_putName_64 : decode cb_P_putName 64 = .ok (.invokevirtual 60, 3) := by decide +kernel
theorem d_P_putName_67 : decode cb_P_putName 67 = .ok (.return_, 1) := by decide +kernel
theorem d_P_putNumber_0 : decode cb_P_putNumber 0 = .ok (.iload_n 1, 1) := by decide +kernel
theorem d_P_putNumber_1 : decode cb_P_putNumber 1 = .ok (.ifCond .ge 9, 3) := by decide +kernel
theorem d_P_putNumber_4 : decode cb_P_putNumber 4 = .ok (.aload_n 0, 1) := by decide +kernel
theorem d_P_putNumber_5 : decode cb_P_putNumber 5 = .ok (.bipush 45, 2) := by decide +kernel
theorem d_P_putNumber_7 : decode cb_P_putNumber 7 = .ok (.invokevirtual 50, 3) := by decide +kernel
theorem d_P_putNumber_10 : decode cb_P_putNumber 10 = .ok (.aload_n 0, 1) := by decide +kernel
theorem d_P_putNumber_11 : decode cb_P_putNumber 11 = .ok (.iload_n 1, 1) := by decide +kernel
theorem d_P_putNumber_12 : decode cb_P_putNumber 12 = .ok (.invokestatic 122, 3) := by decide +kernel
theorem d_P_putNumber_15 : decode cb_P_putNumber 15 = .ok (.iconst 1, 1) := by decide +kernel
theorem d_P_putNumber_16 : decode cb_P_putNumber 16 = .ok (.invokevirtual 118, 3) := by decide +kernel
theorem d_P_putNumber_19 : decode cb_P_putNumber 19 = .ok (.return_, 1) := by decide +kernel
theorem d_P_putBeginning_0 : decode cb_P_putBeginning 0 = .ok (.aload_n 1, 1) := by decide +kernel
theorem d_P_putBeginning_1 : decode cb_P_putBeginning 1 = .ok (.getfield 33, 3) := by decide +kernel
theorem d_P_putBeginning_4 : decode cb_P_putBeginning 4 = .ok (.ifnull 17, 3) := by decide +kernel
theorem d_P_putBeginning_7 : decode cb_P_putBeginning 7 = .ok (.aload_n 0, 1) := by decide +kernel
theorem d_P_putBeginning_8 : decode cb_P_putBeginning 8 = .ok (.aload_n 1, 1) := by decide +kernel
theorem d_P_putBeginning_9 : decode cb_P_putBeginning 9 = .ok (.getfield 33, 3) := by decide +kernel
theorem d_P_putBeginning_12 : decode cb_P_putBeginning 12 = .ok (.invokevirtual 37, 3) := by decide +kernel
theorem d_P_putBeginning_15 : decode cb_P_putBeginning 15 = .ok (.aload_n 0, 1) := by decide +kernel
theorem d_P_putBeginning_16 : decode cb_P_putBeginning 16 = .ok (.ldc 41, 2) := by decide +kernel
theorem d_P_putBeginning_18 : decode cb_P_putBeginning 18 = .ok (.invokevirtual 43, 3) := by decide +kernel
theorem d_P_putBeginning_21 : decode cb_P_putBeginning 21 = .ok (.aload_n 1, 1) := by decide +kernel
theorem d_P_putBeginning_22 : decode cb_P_putBeginning 22 = .ok (.invokevirtual 46, 3) := by decide +kernel
theorem d_P_putBeginning_25 : decode cb_P_putBeginning 25 = .ok (.ifCond .eq 12, 3) := by decide +kernel
theorem d_P_putBeginning_28 : decode cb_P_putBeginning 28 = .ok (.aload_n 0, 1) := by decide +kernel
theorem d_P_putBeginning_29 : decode cb_P_putBeginning 29 = .ok (.bipush 123, 2) := by decide +kernel
theorem d_P_putBeginning_31 : decode cb_P_putBeginning 31 = .ok (.invokevirtual 50, 3) := by decide +kernel
theorem d_P_putBeginning_34 : decode cb_P_putBeginning 34 = .ok (.goto 94, 3) := by decide +kernel
theorem d_P_putBeginning_37 : decode cb_P_putBeginning 37 = .ok (.aload_n 1, 1) := by decide +kernel
theorem d_P_putBeginning_38 : decode cb_P_putBeginning 38 = .ok (.invokevirtual 54, 3) := by decide +kernel
theorem d_P_putBeginning_41 : decode cb_P_putBeginning 41 = .ok (.ifCond .eq 12, 3) := by decide +kernel
theorem d_P_putBeginning_44 : decode cb_P_putBeginning 44 = .ok (.aload_n 0, 1) := by decide +kernel
theorem d_P_putBeginning_45 : decode cb_P_putBeginning 45 = .ok (.bipush 91, 2) := by decide +kernel
theorem d_P_putBeginning_47 : decode cb_P_putBeginning 47 = .ok (.invokevirtual 50, 3) := by decide +kernel
theorem d_P_putBeginning_50 : decode cb_P_putBeginning 50 = .ok (.goto 78, 3) := by decide +kernel
theorem d_P_putBeginning_53 : decode cb_P_putBeginning 53 = .ok (.aload_n 1, 1) := by decide +kernel
theorem d_P_putBeginning_54 : decode cb_P_putBeginning 54 = .ok (.getfield 57, 3) := by decide +kernel
theorem d_P_putBeginning_57 : decode cb_P_putBeginning 57 = .ok (.ifnull 14, 3) := by decide +kernel
theorem d_P_putBeginning_60 : decode cb_P_putBeginning 60 = .ok (.aload_n 0, 1) := by decide +kernel
theorem d_P_putBeginning_61 : decode cb_P_putBeginning 61 = .ok (.aload_n 1, 1) := by decide +kernel
theorem d_P_putBeginning_62 : decode cb_P_putBeginning 62 = .ok (.getfield 57, 3) := by decide +kernel
theorem d_P_putBeginning_65 : decode cb_P_putBeginning 65 = .ok (.invokevirtual 60, 3) := by decide +kernel
theorem d_P_putBeginning_68 : decode cb_P_putBeginning 68 = .ok (.goto 60, 3) := by decide +kernel
theorem d_P_putBeginning_71 : decode cb_P_putBeginning 71 = .ok (.aload_n 1, 1) := by decide +kernel
theorem d_P_putBeginning_72 : decode cb_P_putBeginning 72 = .ok (.getfield 63, 3) := by decide +kernel
theorem d_P_putBeginning_75 : decode cb_P_putBeginning 75 = .ok (.iconst 2, 1) := by decide +kernel
theorem d_P_putBeginning_76 : decode cb_P_putBeginning 76 = .ok (.if_icmp .ne 25, 3) := by decide +kernel
theorem d_P_putBeginning_79 : decode cb_P_putBeginning 79 = .ok (.aload_n 0, 1) := by decide +kernel
theorem d_P_putBeginning_80 : decode cb_P_putBeginning 80 = .ok (.aload_n 1, 1) := by decide +kernel
theorem d_P_putBeginning_81 : decode cb_P_putBeginning 81 = .ok (.getfield 66, 3) := by decide +kernel
theorem d_P_putBeginning_84 : decode cb_P_putBeginning 84 = .ok (.iconst 1, 1) := by decide +kernel
theorem d_P_putBeginning_85 : decode cb_P_putBeginning 85 = .ok (.if_icmp .ne 8, 3) := by decide +kernel
theorem d_P_putBeginning_88 : decode cb_P_putBeginning 88 = .ok (.ldc 69, 2) := by decide +kernel
theorem d_P_putBeginning_90 : decode cb_P_putBeginning 90 = .ok (.goto 5, 3) := by decide +kernel
theorem d_P_putBeginning_93 : decode cb_P_putBeginning 93 = .ok (.ldc 71, 2) := by decide +kernel
theorem d_P_putBeginning_95 : decode cb_P_putBeginning 95 = .ok (.invokevirtual 43, 3) := by decide +kernel
theorem d_P_putBeginning_98 : decode cb_P_putBeginning 98 = .ok (.goto 30, 3) := by decide +kernel
theorem d_P_putBeginning_101 : decode cb_P_putBeginning 101 = .ok (.aload_n 1, 1) := by decide +kernel
theorem d_P_putBeginning_102 : decode cb_P_putBeginning 102 = .ok (.getfield 63, 3) := by decide +kernel
theorem d_P_putBeginning_105 : decode cb_P_putBeginning 105 = .ok (.iconst 4, 1) := by decide +kernel
theorem d_P_putBeginning_106 : decode cb_P_putBeginning 106 = .ok (.if_icmp .ne 14, 3) := by decide +kernel
theorem d_P_putBeginning_109 : decode cb_P_putBeginning 109 = .ok (.aload_n 0, 1) := by decide +kernel
theorem d_P_putBeginning_110 : decode cb_P_putBeginning 110 = .ok (.aload_n 1, 1) := by decide +kernel
theorem d_P_putBeginning_111 : decode cb_P_putBeginning 111 = .ok (.getfield 66, 3) := by decide +kernel
theorem d_P_putBeginning_114 : decode cb_P_putBeginning 114 = .ok (.invokevirtual 73, 3) := by decide +kernel
theorem d_P_putBeginning_117 : decode cb_P_putBeginning 117 = .ok (.goto 11, 3) := by decide +kernel
theorem d_P_putBeginning_120 : decode cb_P_putBeginning 120 = .ok (.aload_n 0, 1) := by decide +kernel
theorem d_P_putBeginning_121 : decode cb_P_putBeginning 121 = .ok (.aload_n 1, 1) := by decide +kernel
theorem d_P_putBeginning_122 : decode cb_P_putBeginning 122 = .ok (.getfield 66, 3) := by decide +kernel
theorem d_P_putBeginning_125 : decode cb_P_putBeginning 125 = .ok (.invokevirtual 77, 3) := by decide +kernel
theorem d_P_putBeginning_128 : decode cb_P_putBeginning 128 = .ok (.return_, 1) := by decide +kernel
theorem d_P_putEndings_0 : decode cb_P_putEndings 0 = .ok (.aload_n 1, 1) := by decide +kernel
theorem d_P_putEndings_1 : decode cb_P_putEndings 1 = .ok (.astore_n 2, 1) := by decide +kernel
theorem d_P_putEndings_2 : decode cb_P_putEndings 2 = .ok (.aload_n 0, 1) := by decide +kernel
theorem d_P_putEndings_3 : decode cb_P_putEndings 3 = .ok (.aload_n 2, 1) := by decide +kernel
theorem d_P_putEndings_4 : decode cb_P_putEndings 4 = .ok (.invokevirtual 80, 3) := by decide +kernel
theorem d_P_putEndings_7 : decode cb_P_putEndings 7 = .ok (.aload_n 2, 1) := by decide +kernel
theorem d_P_putEndings_8 : decode cb_P_putEndings 8 = .ok (.getfield 83, 3) := by decide +kernel
theorem d_P_putEndings_11 : decode cb_P_putEndings 11 = .ok (.ifnonnull 23, 3) := by decide +kernel
theorem d_P_putEndings_14 : decode cb_P_putEndings 14 = .ok (.aload_n 2, 1) := by decide +kernel
theorem d_P_putEndings_15 : decode cb_P_putEndings 15 = .ok (.invokestatic 86, 3) := by decide +kernel
theorem d_P_putEndings_18 : decode cb_P_putEndings 18 = .ok (.ifCond .ne 16, 3) := by decide +kernel
theorem d_P_putEndings_21 : decode cb_P_putEndings 21 = .ok (.aload_n 2, 1) := by decide +kernel
theorem d_P_putEndings_22 : decode cb_P_putEndings 22 = .ok (.getfield 90, 3) := by decide +kernel
theorem d_P_putEndings_25 : decode cb_P_putEndings 25 = .ok (.astore_n 2, 1) := by decide +kernel
theorem d_P_putEndings_26 : decode cb_P_putEndings 26 = .ok (.aload_n 0, 1) := by decide +kernel
theorem d_P_putEndings_27 : decode cb_P_putEndings 27 = .ok (.aload_n 2, 1) := by decide +kernel
theorem d_P_putEndings_28 : decode cb_P_putEndings 28 = .ok (.invokevirtual 80, 3) := by decide +kernel
theorem d_P_putEndings_31 : decode cb_P_putEndings 31 = .ok (.goto (-24), 3) := by decide +kernel
theorem d_P_putEndings_34 : decode cb_P_putEndings 34 = .ok (.aload_n 0, 1) := by decide +kernel
theorem d_P_putEndings_35 : decode cb_P_putEndings 35 = .ok (.aload_n 2, 1) := by decide +kernel
theorem d_P_putEndings_36 : decode cb_P_putEndings 36 = .ok (.invokestatic 86, 3) := by decide +kernel
theorem d_P_putEndings_39 : decode cb_P_putEndings 39 = .ok (.ifCond .eq 8, 3) := by decide +kernel
theorem d_P_putEndings_42 : decode cb_P_putEndings 42 = .ok (.ldc 93, 2) := by decide +kernel
theorem d_P_putEndings_44 : decode cb_P_putEndings 44 = .ok (.goto 5, 3) := by decide +kernel
theorem d_P_putEndings_47 : decode cb_P_putEndings 47 = .ok (.ldc 95, 2) := by decide +kernel
theorem d_P_putEndings_49 : decode cb_P_putEndings 49 = .ok (.invokevirtual 43, 3) := by decide +kernel
theorem d_P_putEndings_52 : decode cb_P_putEndings 52 = .ok (.aload_n 2, 1) := by decide +kernel
theorem d_P_putEndings_53 : decode cb_P_putEndings 53 = .ok (.getfield 83, 3) := by decide +kernel
theorem d_P_putEndings_56 : decode cb_P_putEndings 56 = .ok (.areturn, 1) := by decide +kernel
theorem d_P_fill_0 : decode cb_P_fill 0 = .ok (.aload_n 0, 1) := by decide +kernel
theorem d_P_fill_1 : decode cb_P_fill 1 = .ok (.iconst 0, 1) := by decide +kernel
theorem d_P_fill_2 : decode cb_P_fill 2 = .ok (.putfield 15, 3) := by decide +kernel
theorem d_P_fill_5 : decode cb_P_fill 5 = .ok (.aload_n 1, 1) := by decide +kernel
theorem d_P_fill_6 : decode cb_P_fill 6 = .ok (.getfield 19, 3) := by decide +kernel
theorem d_P_fill_9 : decode cb_P_fill 9 = .ok (.astore_n 2, 1) := by decide +kernel
theorem d_P_fill_10 : decode cb_P_fill 10 = .ok (.iconst 0, 1) := by decide +kernel
theorem d_P_fill_11 : decode cb_P_fill 11 = .ok (.istore_n 3, 1) := by decide +kernel
theorem d_P_fill_12 : decode cb_P_fill 12 = .ok (.aload_n 2, 1) := by decide +kernel
theorem d_P_fill_13 : decode cb_P_fill 13 = .ok (.ifnull 41, 3) := by decide +kernel
theorem d_P_fill_16 : decode cb_P_fill 16 = .ok (.iload_n 3, 1) := by decide +kernel
theorem d_P_fill_17 : decode cb_P_fill 17 = .ok (.sipush 480, 3) := by decide +kernel
theorem d_P_fill_20 : decode cb_P_fill 20 = .ok (.if_icmp .ge 34, 3) := by decide +kernel
theorem d_P_fill_23 : decode cb_P_fill 23 = .ok (.aload_n 0, 1) := by decide +kernel
theorem d_P_fill_24 : decode cb_P_fill 24 = .ok (.aload_n 2, 1) := by decide +kernel
theorem d_P_fill_25 : decode cb_P_fill 25 = .ok (.invokevirtual 25, 3) := by decide +kernel
theorem d_P_fill_28 : decode cb_P_fill 28 = .ok (.aload_n 2, 1) := by decide +kernel
theorem d_P_fill_29 : decode cb_P_fill 29 = .ok (.getfield 19, 3) := by decide +kernel
theorem d_P_fill_32 : decode cb_P_fill 32 = .ok (.ifnull 10, 3) := by decide +kernel
theorem d_P_fill_35 : decode cb_P_fill 35 = .ok (.aload_n 2, 1) := by decide +kernel
theorem d_P_fill_36 : decode cb_P_fill 36 = .ok (.getfield 19, 3) := by decide +kernel
theorem d_P_fill_39 : decode cb_P_fill 39 = .ok (.goto 8, 3) := by decide +kernel
theorem d_P_fill_42 : decode cb_P_fill 42 = .ok (.aload_n 0, 1) := by decide +kernel
theorem d_P_fill_43 : decode cb_P_fill 43 = .ok (.aload_n 2, 1) := by decide +kernel
theorem d_P_fill_44 : decode cb_P_fill 44 = .ok (.invokevirtual 29, 3) := by decide +kernel
theorem d_P_fill_47 : decode cb_P_fill 47 = .ok (.astore_n 2, 1) := by decide +kernel
theorem d_P_fill_48 : decode cb_P_fill 48 = .ok (.iinc 3 1, 3) := by decide +kernel
theorem d_P_fill_51 : decode cb_P_fill 51 = .ok (.goto (-39), 3) := by decide +kernel
theorem d_P_fill_54 : decode cb_P_fill 54 = .ok (.return_, 1) := by decide +kernel
theorem d_T_write_0 : decode cb_T_write 0 = .ok (.aload_n 0, 1) := by decide +kernel
theorem d_T_write_1 : decode cb_T_write 1 = .ok (.getfield 16, 3) := by decide +kernel
theorem d_T_write_4 : decode cb_T_write 4 = .ok (.aload_n 0, 1) := by decide +kernel
theorem d_T_write_5 : decode cb_T_write 5 = .ok (.getfield 29, 3) := by decide +kernel
theorem d_T_write_8 : decode cb_T_write 8 = .ok (.invokevirtual 62, 3) := by decide +kernel
theorem d_T_write_11 : decode cb_T_write 11 = .ok (.aload_n 0, 1) := by decide +kernel
theorem d_T_write_12 : decode cb_T_write 12 = .ok (.getfield 16, 3) := by decide +kernel
theorem d_T_write_15 : decode cb_T_write 15 = .ok (.getfield 66, 3) := by decide +kernel
theorem d_T_write_18 : decode cb_T_write 18 = .ok (.ireturn, 1) := by decide +kernel
theorem d_T_byteAt_0 : decode cb_T_byteAt 0 = .ok (.lload_n 0, 1) := by decide +kernel
theorem d_T_byteAt_1 : decode cb_T_byteAt 1 = .ok (.bipush 8, 2) := by decide +kernel
theorem d_T_byteAt_3 : decode cb_T_byteAt 3 = .ok (.iload_n 2, 1) := by decide +kernel
theorem d_T_byteAt_4 : decode cb_T_byteAt 4 = .ok (.imul, 1) := by decide +kernel
theorem d_T_byteAt_5 : decode cb_T_byteAt 5 = .ok (.lushr, 1) := by decide +kernel
theorem d_T_byteAt_6 : decode cb_T_byteAt 6 = .ok (.l2i, 1) := by decide +kernel
theorem d_T_byteAt_7 : decode cb_T_byteAt 7 = .ok (.sipush 255, 3) := by decide +kernel
theorem d_T_byteAt_10 : decode cb_T_byteAt 10 = .ok (.iand, 1) := by decide +kernel
theorem d_T_byteAt_11 : decode cb_T_byteAt 11 = .ok (.ireturn, 1) := by decide +kernel
theorem d_T_allAreCharacters_0 : decode cb_T_allAreCharacters 0 = .ok (.iconst 0, 1) := by decide +kernel
theorem d_T_allAreCharacters_1 : decode cb_T_allAreCharacters 1 = .ok (.istore_n 3, 1) := by decide +kernel
theorem d_T_allAreCharacters_2 : decode cb_T_allAreCharacters 2 = .ok (.iload_n 3, 1) := by decide +kernel
theorem d_T_allAreCharacters_3 : decode cb_T_allAreCharacters 3 = .ok (.iload_n 2, 1) := by decide +kernel
theorem d_T_allAreCharacters_4 : decode cb_T_allAreCharacters 4 = .ok (.if_icmp .ge 39, 3) := by decide +kernel
theorem d_T_allAreCharacters_7 : decode cb_T_allAreCharacters 7 = .ok (.lload_n 0, 1) := by decide +kernel
theorem d_T_allAreCharacters_8 : decode cb_T_allAreCharacters 8 = .ok (.iload_n 3, 1) := by decide +kernel
theorem d_T_allAreCharacters_9 : decode cb_T_allAreCharacters 9 = .ok (.invokestatic 46, 3) := by decide +kernel
theorem d_T_allAreCharacters_12 : decode cb_T_allAreCharacters 12 = .ok (.istore 4, 2) := by decide +kernel
theorem d_T_allAreCharacters_14 : decode cb_T_allAreCharacters 14 = .ok (.iload 4, 2) := by decide +kernel
theorem d_T_allAreCharacters_16 : decode cb_T_allAreCharacters 16 = .ok (.bipush 10, 2) := by decide +kernel
theorem d_T_allAreCharacters_18 : decode cb_T_allAreCharacters 18 = .ok (.if_icmp .eq 19, 3) := by decide +kernel
theorem d_T_allAreCharacters_21 : decode cb_T_allAreCharacters 21 = .ok (.iload 4, 2) := by decide +kernel
theorem d_T_allAreCharacters_23 : decode cb_T_allAreCharacters 23 = .ok (.bipush 32, 2) := by decide +kernel
theorem d_T_allAreCharacters_25 : decode cb_T_allAreCharacters 25 = .ok (.if_icmp .lt 10, 3) := by decide +kernel
theorem d_T_allAreCharacters_28 : decode cb_T_allAreCharacters 28 = .ok (.iload 4, 2) := by decide +kernel
theorem d_T_allAreCharacters_30 : decode cb_T_allAreCharacters 30 = .ok (.bipush 126, 2) := by decide +kernel
theorem d_T_allAreCharacters_32 : decode cb_T_allAreCharacters 32 = .ok (.if_icmp .le 5, 3) := by decide +kernel
theorem d_T_allAreCharacters_35 : decode cb_T_allAreCharacters 35 = .ok (.iconst 0, 1) := by decide +kernel
theorem d_T_allAreCharacters_36 : decode cb_T_allAreCharacters 36 = .ok (.ireturn, 1) := by decide +kernel
theorem d_T_allAreCharacters_37 : decode cb_T_allAreCharacters 37 = .ok (.iinc 3 1, 3) := by decide +kernel
theorem d_T_allAreCharacters_40 : decode cb_T_allAreCharacters 40 = .ok (.goto (-38), 3) := by decide +kernel
theorem d_T_allAreCharacters_43 : decode cb_T_allAreCharacters 43 = .ok (.iconst 1, 1) := by decide +kernel
theorem d_T_allAreCharacters_44 : decode cb_T_allAreCharacters 44 = .ok (.ireturn, 1) := by decide +kernel
