abbrev cb_R_readEntry : ByteArray := prog_4_method_5_code
def y_R_readEntry : MethodName := ⟨RZ4, "readEntry", "(LTableText$Node;I)Z"⟩
abbrev cb_R_readList : ByteArray := prog_4_method_13_code
def y_R_readList : MethodName := ⟨RZ4, "readList", "(I)LTableText$Node;"⟩
abbrev cb_R_readClosedTable : ByteArray := prog_4_method_14_code
def y_R_readClosedTable : MethodName := ⟨RZ4, "readClosedTable", "(I)LTableText$Node;"⟩
abbrev cb_R_readValue : ByteArray := prog_4_method_12_code
def y_R_readValue : MethodName := ⟨RZ4, "readValue", "(I)LTableText$Node;"⟩
abbrev cb_R_readDocument : ByteArray := prog_4_method_2_code
def y_R_readDocument : MethodName := ⟨RZ4, "readDocument", "()LTableText$Node;"⟩
abbrev cb_T_read : ByteArray := prog_1_method_3_code
def y_T_read : MethodName := ⟨RZ1, "read", "()I"⟩
theorem nF_R_112 : Cond.fieldLinkNest RZ4 112 (cT 2 3).1 (cT 2 3).2.1 (cT 2 3).2.2.1 "TableText" ∈ nwA := List.mem_filter.mpr ⟨List.mem_of_getElem? (i := 71) (by decide +kernel), by decide +kernel⟩
theorem kw_R_98 : kWN RZ4 98 "TableText" y_N_entryNamed (.code y_N_entryNamed cb_N_entryNamed 3 (some (.object "TableText$Node"))) 1 ∧ Cond.instanceMethod y_N_entryNamed ∈ wsA ∧ Cond.selects (cC 2) y_N_entryNamed y_N_entryNamed ∈ wsA := ⟨⟨List.mem_filter.mpr ⟨List.mem_of_getElem? (i := 754) (by decide +kernel), by decide +kernel⟩, List.mem_filter.mpr ⟨List.mem_of_getElem? (i := 741) (by decide +kernel), by decide +kernel⟩, List.mem_filter.mpr ⟨List.mem_of_getElem? (i := 98) (by decide +kernel), by decide +kernel⟩, by decide, by decide, by decide +kernel⟩, List.mem_filter.mpr ⟨List.mem_of_getElem? (i := 753) (by decide +kernel), by decide +kernel⟩, List.mem_filter.mpr ⟨List.mem_of_getElem? (i := 14) (by decide +kernel), by decide +kernel⟩⟩
theorem kw_R_109 : kW RZ4 109 (cC 4) y_R_readValue (.code y_R_readValue cb_R_readValue 3 (some (.object "TableText$Node"))) 1 := ⟨gV (List.mem_filter.mpr ⟨List.mem_of_getElem? (i := 837) (by decide +kernel), by decide +kernel⟩) (List.mem_filter.mpr ⟨List.mem_of_getElem? (i := 839) (by decide +kernel), by decide +kernel⟩) (List.mem_filter.mpr ⟨List.mem_of_getElem? (i := 24) (by decide +kernel), by decide +kernel⟩) (List.mem_filter.mpr ⟨List.mem_of_getElem? (i := 105) (by decide +kernel), by decide +kernel⟩) (List.mem_filter.mpr ⟨List.mem_of_getElem? (i := 840) (by decide +kernel), by decide +kernel⟩), rfl, by decide, by decide, by decide +kernel⟩
theorem kw_R_90 : kW RZ4 90 (cC 4) y_R_dottedTable (.code y_R_dottedTable cb_R_dottedTable 4 (some (.object "TableText$Node"))) 2 := ⟨gV (List.mem_filter.mpr ⟨List.mem_of_getElem? (i := 786) (by decide +kernel), by decide +kernel⟩) (List.mem_filter.mpr ⟨List.mem_of_getElem? (i := 788) (by decide +kernel), by decide +kernel⟩) (List.mem_filter.mpr ⟨List.mem_of_getElem? (i := 20) (by decide +kernel), by decide +kernel⟩) (List.mem_filter.mpr ⟨List.mem_of_getElem? (i := 105) (by decide +kernel), by decide +kernel⟩) (List.mem_filter.mpr ⟨List.mem_of_getElem? (i := 789) (by decide +kernel), by decide +kernel⟩), rfl, by decide, by decide, by decide +kernel⟩
theorem kw_R_178 : kW RZ4 178 (cC 4) y_R_skipBlanksLinesAndComments (.code y_R_skipBlanksLinesAndComments cb_R_skipBlanksLinesAndComments 3 none) 0 := ⟨gV (List.mem_filter.mpr ⟨List.mem_of_getElem? (i := 845) (by decide +kernel), by decide +kernel⟩) (List.mem_filter.mpr ⟨List.mem_of_getElem? (i := 847) (by decide +kernel), by decide +kernel⟩) (List.mem_filter.mpr ⟨List.mem_of_getElem? (i := 26) (by decide +kernel), by decide +kernel⟩) (List.mem_filter.mpr ⟨List.mem_of_getElem? (i := 105) (by decide +kernel), by decide +kernel⟩) (List.mem_filter.mpr ⟨List.mem_of_getElem? (i := 848) (by decide +kernel), by decide +kernel⟩), rfl, by decide, by decide, by decide +kernel⟩
theorem kw_R_181 : kW RZ4 181 (cC 8) y_AL_size (.code y_AL_size cb_AL_size 1 (some .int)) 0 := ⟨gV (List.mem_filter.mpr ⟨List.mem_of_getElem? (i := 853) (by decide +kernel), by decide +kernel⟩) (List.mem_filter.mpr ⟨List.mem_of_getElem? (i := 854) (by decide +kernel), by decide +kernel⟩) (List.mem_filter.mpr ⟨List.mem_of_getElem? (i := 855) (by decide +kernel), by decide +kernel⟩) (List.mem_filter.mpr ⟨List.mem_of_getElem? (i := 112) (by decide +kernel), by decide +kernel⟩) (List.mem_filter.mpr ⟨List.mem_of_getElem? (i := 856) (by decide +kernel), by decide +kernel⟩), rfl, by decide, by decide, by decide +kernel⟩
theorem kw_R_184 : kW RZ4 184 (cC 8) y_AL_get (.code y_AL_get cb_AL_get 2 (some (.object "java/lang/Object"))) 1 := ⟨gV (List.mem_filter.mpr ⟨List.mem_of_getElem? (i := 857) (by decide +kernel), by decide +kernel⟩) (List.mem_filter.mpr ⟨List.mem_of_getElem? (i := 858) (by decide +kernel), by decide +kernel⟩) (List.mem_filter.mpr ⟨List.mem_of_getElem? (i := 859) (by decide +kernel), by decide +kernel⟩) (List.mem_filter.mpr ⟨List.mem_of_getElem? (i := 112) (by decide +kernel), by decide +kernel⟩) (List.mem_filter.mpr ⟨List.mem_of_getElem? (i := 860) (by decide +kernel), by decide +kernel⟩), rfl, by decide, by decide, by decide +kernel⟩
theorem kw_R_66 : kW RZ4 66 (cC 4) y_R_readEntry (.code y_R_readEntry cb_R_readEntry 6 (some .boolean)) 2 := ⟨gV (List.mem_filter.mpr ⟨List.mem_of_getElem? (i := 782) (by decide +kernel), by decide +kernel⟩) (List.mem_filter.mpr ⟨List.mem_of_getElem? (i := 784) (by decide +kernel), by decide +kernel⟩) (List.mem_filter.mpr ⟨List.mem_of_getElem? (i := 19) (by decide +kernel), by decide +kernel⟩) (List.mem_filter.mpr ⟨List.mem_of_getElem? (i := 105) (by decide +kernel), by decide +kernel⟩) (List.mem_filter.mpr ⟨List.mem_of_getElem? (i := 785) (by decide +kernel), by decide +kernel⟩), rfl, by decide, by decide, by decide +kernel⟩
theorem kw_R_155 : kW RZ4 155 (cC 4) y_R_readClosedTable (.code y_R_readClosedTable cb_R_readClosedTable 6 (some (.object "TableText$Node"))) 1 := ⟨gV (List.mem_filter.mpr ⟨List.mem_of_getElem? (i := 849) (by decide +kernel), by decide +kernel⟩) (List.mem_filter.mpr ⟨List.mem_of_getElem? (i := 851) (by decide +kernel), by decide +kernel⟩) (List.mem_filter.mpr ⟨List.mem_of_getElem? (i := 27) (by decide +kernel), by decide +kernel⟩) (List.mem_filter.mpr ⟨List.mem_of_getElem? (i := 105) (by decide +kernel), by decide +kernel⟩) (List.mem_filter.mpr ⟨List.mem_of_getElem? (i := 852) (by decide +kernel), by decide +kernel⟩), rfl, by decide, by decide, by decide +kernel⟩
theorem kw_R_152 : kW RZ4 152 (cC 4) y_R_readList (.code y_R_readList cb_R_readList 6 (some (.object "TableText$Node"))) 1 := ⟨gV (List.mem_filter.mpr ⟨List.mem_of_getElem? (i := 841) (by decide +kernel), by decide +kernel⟩) (List.mem_filter.mpr ⟨List.mem_of_getElem? (i := 843) (by decide +kernel), by decide +kernel⟩) (List.mem_filter.mpr ⟨List.mem_of_getElem? (i := 25) (by decide +kernel), by decide +kernel⟩) (List.mem_filter.mpr ⟨List.mem_of_getElem? (i := 105) (by decide +kernel), by decide +kernel⟩) (List.mem_filter.mpr ⟨List.mem_of_getElem? (i := 844) (by decide +kernel), by decide +kernel⟩), rfl, by decide, by decide, by decide +kernel⟩
theorem kw_R_158 : kW RZ4 158 (cC 4) y_R_readString (.code y_R_readString cb_R_readString 3 (some (.object "TableText$Node"))) 0 := ⟨gV (List.mem_filter.mpr ⟨List.mem_of_getElem? (i := 869) (by decide +kernel), by decide +kernel⟩) (List.mem_filter.mpr ⟨List.mem_of_getElem? (i := 871) (by decide +kernel), by decide +kernel⟩) (List.mem_filter.mpr ⟨List.mem_of_getElem? (i := 28) (by decide +kernel), by decide +kernel⟩) (List.mem_filter.mpr ⟨List.mem_of_getElem? (i := 105) (by decide +kernel), by decide +kernel⟩) (List.mem_filter.mpr ⟨List.mem_of_getElem? (i := 872) (by decide +kernel), by decide +kernel⟩), rfl, by decide, by decide, by decide +kernel⟩
theorem kw_R_169 : kW RZ4 169 (cC 4) y_R_dateBegins (.code y_R_dateBegins cb_R_dateBegins 2 (some .boolean)) 0 := ⟨gV (List.mem_filter.mpr ⟨List.mem_of_getElem? (i := 899) (by decide +kernel), by decide +kernel⟩) (List.mem_filter.mpr ⟨List.mem_of_getElem? (i := 901) (by decide +kernel), by decide +kernel⟩) (List.mem_filter.mpr ⟨List.mem_of_getElem? (i := 31) (by decide +kernel), by decide +kernel⟩) (List.mem_filter.mpr ⟨List.mem_of_getElem? (i := 105) (by decide +kernel), by decide +kernel⟩) (List.mem_filter.mpr ⟨List.mem_of_getElem? (i := 902) (by decide +kernel), by decide +kernel⟩), rfl, by decide, by decide, by decide +kernel⟩
theorem kw_R_175 : kW RZ4 175 (cC 4) y_R_readNumber (.code y_R_readNumber cb_R_readNumber 4 (some (.object "TableText$Node"))) 0 := ⟨gV (List.mem_filter.mpr ⟨List.mem_of_getElem? (i := 920) (by decide +kernel), by decide +kernel⟩) (List.mem_filter.mpr ⟨List.mem_of_getElem? (i := 922) (by decide +kernel), by decide +kernel⟩) (List.mem_filter.mpr ⟨List.mem_of_getElem? (i := 35) (by decide +kernel), by decide +kernel⟩) (List.mem_filter.mpr ⟨List.mem_of_getElem? (i := 105) (by decide +kernel), by decide +kernel⟩) (List.mem_filter.mpr ⟨List.mem_of_getElem? (i := 923) (by decide +kernel), by decide +kernel⟩), rfl, by decide, by decide, by decide +kernel⟩
theorem kw_R_172 : kW RZ4 172 (cC 4) y_R_readDate (.code y_R_readDate cb_R_readDate 4 (some (.object "TableText$Node"))) 0 := ⟨gV (List.mem_filter.mpr ⟨List.mem_of_getElem? (i := 907) (by decide +kernel), by decide +kernel⟩) (List.mem_filter.mpr ⟨List.mem_of_getElem? (i := 909) (by decide +kernel), by decide +kernel⟩) (List.mem_filter.mpr ⟨List.mem_of_getElem? (i := 33) (by decide +kernel), by decide +kernel⟩) (List.mem_filter.mpr ⟨List.mem_of_getElem? (i := 105) (by decide +kernel), by decide +kernel⟩) (List.mem_filter.mpr ⟨List.mem_of_getElem? (i := 910) (by decide +kernel), by decide +kernel⟩), rfl, by decide, by decide, by decide +kernel⟩
theorem kw_R_164 : kW RZ4 164 (cC 4) y_R_readTruth (.code y_R_readTruth cb_R_readTruth 4 (some (.object "TableText$Node"))) 2 := ⟨gV (List.mem_filter.mpr ⟨List.mem_of_getElem? (i := 879) (by decide +kernel), by decide +kernel⟩) (List.mem_filter.mpr ⟨List.mem_of_getElem? (i := 881) (by decide +kernel), by decide +kernel⟩) (List.mem_filter.mpr ⟨List.mem_of_getElem? (i := 30) (by decide +kernel), by decide +kernel⟩) (List.mem_filter.mpr ⟨List.mem_of_getElem? (i := 105) (by decide +kernel), by decide +kernel⟩) (List.mem_filter.mpr ⟨List.mem_of_getElem? (i := 882) (by decide +kernel), by decide +kernel⟩), rfl, by decide, by decide, by decide +kernel⟩
theorem kw_R_70 : kW RZ4 70 (cC 4) y_R_skipComment (.code y_R_skipComment cb_R_skipComment 1 none) 0 := ⟨gV (List.mem_filter.mpr ⟨List.mem_of_getElem? (i := 928) (by decide +kernel), by decide +kernel⟩) (List.mem_filter.mpr ⟨List.mem_of_getElem? (i := 930) (by decide +kernel), by decide +kernel⟩) (List.mem_filter.mpr ⟨List.mem_of_getElem? (i := 37) (by decide +kernel), by decide +kernel⟩) (List.mem_filter.mpr ⟨List.mem_of_getElem? (i := 105) (by decide +kernel), by decide +kernel⟩) (List.mem_filter.mpr ⟨List.mem_of_getElem? (i := 931) (by decide +kernel), by decide +kernel⟩), rfl, by decide, by decide, by decide +kernel⟩
theorem kw_R_58 : kWS RZ4 58 y_R_saysNothing (.code y_R_saysNothing cb_R_saysNothing 1 (some .boolean)) 1 := ⟨gS (List.mem_filter.mpr ⟨List.mem_of_getElem? (i := 320) (by decide +kernel), by decide +kernel⟩) (List.mem_filter.mpr ⟨List.mem_of_getElem? (i := 321) (by decide +kernel), by decide +kernel⟩) (List.mem_filter.mpr ⟨List.mem_of_getElem? (i := 105) (by decide +kernel), by decide +kernel⟩) (List.mem_filter.mpr ⟨List.mem_of_getElem? (i := 322) (by decide +kernel), by decide +kernel⟩), by decide, by decide, by decide +kernel⟩
theorem kw_R_62 : kW RZ4 62 (cC 4) y_R_readHeader (.code y_R_readHeader cb_R_readHeader 4 (some .boolean)) 0 := ⟨gV (List.mem_filter.mpr ⟨List.mem_of_getElem? (i := 323) (by decide +kernel), by decide +kernel⟩) (List.mem_filter.mpr ⟨List.mem_of_getElem? (i := 325) (by decide +kernel), by decide +kernel⟩) (List.mem_filter.mpr ⟨List.mem_of_getElem? (i := 3) (by decide +kernel), by decide +kernel⟩) (List.mem_filter.mpr ⟨List.mem_of_getElem? (i := 105) (by decide +kernel), by decide +kernel⟩) (List.mem_filter.mpr ⟨List.mem_of_getElem? (i := 326) (by decide +kernel), by decide +kernel⟩), rfl, by decide, by decide, by decide +kernel⟩
theorem mC_T_50 : Cond.classLink RZ1 50 (cC 4) ∈ wsA := List.mem_filter.mpr ⟨List.mem_of_getElem? (i := 215) (by decide +kernel), by decide +kernel⟩
theorem mI_4 : Cond.instantiable (cC 4) 8 ∈ wsA := List.mem_filter.mpr ⟨List.mem_of_getElem? (i := 216) (by decide +kernel), by decide +kernel⟩
theorem mN_4 : Cond.initialized (cC 4) ∈ wsA := List.mem_filter.mpr ⟨List.mem_of_getElem? (i := 105) (by decide +kernel), by decide +kernel⟩
theorem nF_T_59 : Cond.fieldLinkNest RZ1 59 (cT 4 7).1 (cT 4 7).2.1 (cT 4 7).2.2.1 "TableText" ∈ nwA := List.mem_filter.mpr ⟨List.mem_of_getElem? (i := 195) (by decide +kernel), by decide +kernel⟩
theorem kw_T_52 : kWN RZ1 52 "TableText" y_R_init (.code y_R_init cb_R_init 3 none) 2 ∧ y_R_init.name = "<init>" ∧ Cond.instanceMethod y_R_init ∈ wsA := ⟨⟨List.mem_filter.mpr ⟨List.mem_of_getElem? (i := 219) (by decide +kernel), by decide +kernel⟩, List.mem_filter.mpr ⟨List.mem_of_getElem? (i := 122) (by decide +kernel), by decide +kernel⟩, List.mem_filter.mpr ⟨List.mem_of_getElem? (i := 105) (by decide +kernel), by decide +kernel⟩, by decide, by decide, by decide +kernel⟩, rfl, List.mem_filter.mpr ⟨List.mem_of_getElem? (i := 218) (by decide +kernel), by decide +kernel⟩⟩
theorem kw_T_55 : kWN RZ1 55 "TableText" y_R_readDocument (.code y_R_readDocument cb_R_readDocument 4 (some (.object "TableText$Node"))) 0 ∧ Cond.instanceMethod y_R_readDocument ∈ wsA ∧ Cond.selects (cC 4) y_R_readDocument y_R_readDocument ∈ wsA := ⟨⟨List.mem_filter.mpr ⟨List.mem_of_getElem? (i := 311) (by decide +kernel), by decide +kernel⟩, List.mem_filter.mpr ⟨List.mem_of_getElem? (i := 213) (by decide +kernel), by decide +kernel⟩, List.mem_filter.mpr ⟨List.mem_of_getElem? (i := 105) (by decide +kernel), by decide +kernel⟩, by decide, by decide, by decide +kernel⟩, List.mem_filter.mpr ⟨List.mem_of_getElem? (i := 310) (by decide +kernel), by decide +kernel⟩, List.mem_filter.mpr ⟨List.mem_of_getElem? (i := 0) (by decide +kernel), by decide +kernel⟩⟩
theorem d_R_readEntry_0 : decode cb_R_readEntry 0 = .ok (.aload_n 0, 1) := by decide +kernel
theorem d_R_readEntry_1 : decode cb_R_readEntry 1 = .ok (.invokevirtual 76, 3) := by decide +kernel
theorem d_R_readEntry_4 : decode cb_R_readEntry 4 = .ok (.astore_n 3, 1) := by decide +kernel
theorem d_R_readEntry_5 : decode cb_R_readEntry 5 = .ok (.aload_n 1, 1) := by decide +kernel
theorem d_R_readEntry_6 : decode cb_R_readEntry 6 = .ok (.astore 4, 2) := by decide +kernel
theorem d_R_readEntry_8 : decode cb_R_readEntry 8 = .ok (.aload_n 3, 1) := by decide +kernel
theorem d_R_readEntry_9 : decode cb_R_readEntry 9 = .ok (.ifnull 32, 3) := by decide +kernel
theorem d_R_readEntry_12 : decode cb_R_readEntry 12 = .ok (.aload_n 3, 1) := by decide +kernel
theorem d_R_readEntry_13 : decode cb_R_readEntry 13 = .ok (.getfield 84, 3) := by decide +kernel
theorem d_R_readEntry_16 : decode cb_R_readEntry 16 = .ok (.ifnull 25, 3) := by decide +kernel
theorem d_R_readEntry_19 : decode cb_R_readEntry 19 = .ok (.aload 4, 2) := by decide +kernel
theorem d_R_readEntry_21 : decode cb_R_readEntry 21 = .ok (.ifnull 20, 3) := by decide +kernel
theorem d_R_readEntry_24 : decode cb_R_readEntry 24 = .ok (.aload_n 0, 1) := by decide +kernel
theorem d_R_readEntry_25 : decode cb_R_readEntry 25 = .ok (.aload 4, 2) := by decide +kernel
theorem d_R_readEntry_27 : decode cb_R_readEntry 27 = .ok (.aload_n 3, 1) := by decide +kernel
theorem d_R_readEntry_28 : decode cb_R_readEntry 28 = .ok (.invokevirtual 90, 3) := by decide +kernel
theorem d_R_readEntry_31 : decode cb_R_readEntry 31 = .ok (.astore 4, 2) := by decide +kernel
theorem d_R_readEntry_33 : decode cb_R_readEntry 33 = .ok (.aload_n 3, 1) := by decide +kernel
theorem d_R_readEntry_34 : decode cb_R_readEntry 34 = .ok (.getfield 84, 3) := by decide +kernel
theorem d_R_readEntry_37 : decode cb_R_readEntry 37 = .ok (.astore_n 3, 1) := by decide +kernel
theorem d_R_readEntry_38 : decode cb_R_readEntry 38 = .ok (.goto (-30), 3) := by decide +kernel
theorem d_R_readEntry_41 : decode cb_R_readEntry 41 = .ok (.aload_n 3, 1) := by decide +kernel
theorem d_R_readEntry_42 : decode cb_R_readEntry 42 = .ok (.ifnull 8, 3) := by decide +kernel
theorem d_R_readEntry_45 : decode cb_R_readEntry 45 = .ok (.aload 4, 2) := by decide +kernel
theorem d_R_readEntry_47 : decode cb_R_readEntry 47 = .ok (.ifnonnull 5, 3) := by decide +kernel
theorem d_R_readEntry_50 : decode cb_R_readEntry 50 = .ok (.iconst 0, 1) := by decide +kernel
theorem d_R_readEntry_51 : decode cb_R_readEntry 51 = .ok (.ireturn, 1) := by decide +kernel
theorem d_R_readEntry_52 : decode cb_R_readEntry 52 = .ok (.aload 4, 2) := by decide +kernel
theorem d_R_readEntry_54 : decode cb_R_readEntry 54 = .ok (.aload_n 3, 1) := by decide +kernel
theorem d_R_readEntry_55 : decode cb_R_readEntry 55 = .ok (.getfield 94, 3) := by decide +kernel
theorem d_R_readEntry_58 : decode cb_R_readEntry 58 = .ok (.invokevirtual 98, 3) := by decide +kernel
theorem d_R_readEntry_61 : decode cb_R_readEntry 61 = .ok (.ifnull 14, 3) := by decide +kernel
theorem d_R_readEntry_64 : decode cb_R_readEntry 64 = .ok (.aload_n 0, 1) := by decide +kernel
theorem d_R_readEntry_65 : decode cb_R_readEntry 65 = .ok (.aload_n 3, 1) := by decide +kernel
theorem d_R_readEntry_66 : decode cb_R_readEntry 66 = .ok (.getfield 102, 3) := by decide +kernel
theorem d_R_readEntry_69 : decode cb_R_readEntry 69 = .ok (.invokevirtual 105, 3) := by decide +kernel
theorem d_R_readEntry_72 : decode cb_R_readEntry 72 = .ok (.pop, 1) := by decide +kernel
theorem d_R_readEntry_73 : decode cb_R_readEntry 73 = .ok (.iconst 0, 1) := by decide +kernel
theorem d_R_readEntry_74 : decode cb_R_readEntry 74 = .ok (.ireturn, 1) := by decide +kernel
theorem d_R_readEntry_75 : decode cb_R_readEntry 75 = .ok (.aload_n 0, 1) := by decide +kernel
theorem d_R_readEntry_76 : decode cb_R_readEntry 76 = .ok (.bipush 61, 2) := by decide +kernel
theorem d_R_readEntry_78 : decode cb_R_readEntry 78 = .ok (.invokevirtual 73, 3) := by decide +kernel
theorem d_R_readEntry_81 : decode cb_R_readEntry 81 = .ok (.ifCond .ne 5, 3) := by decide +kernel
theorem d_R_readEntry_84 : decode cb_R_readEntry 84 = .ok (.iconst 0, 1) := by decide +kernel
theorem d_R_readEntry_85 : decode cb_R_readEntry 85 = .ok (.ireturn, 1) := by decide +kernel
theorem d_R_readEntry_86 : decode cb_R_readEntry 86 = .ok (.aload_n 0, 1) := by decide +kernel
theorem d_R_readEntry_87 : decode cb_R_readEntry 87 = .ok (.invokevirtual 51, 3) := by decide +kernel
theorem d_R_readEntry_90 : decode cb_R_readEntry 90 = .ok (.aload_n 0, 1) := by decide +kernel
theorem d_R_readEntry_91 : decode cb_R_readEntry 91 = .ok (.iload_n 2, 1) := by decide +kernel
theorem d_R_readEntry_92 : decode cb_R_readEntry 92 = .ok (.invokevirtual 109, 3) := by decide +kernel
theorem d_R_readEntry_95 : decode cb_R_readEntry 95 = .ok (.astore 5, 2) := by decide +kernel
theorem d_R_readEntry_97 : decode cb_R_readEntry 97 = .ok (.aload 5, 2) := by decide +kernel
theorem d_R_readEntry_99 : decode cb_R_readEntry 99 = .ok (.ifnonnull 5, 3) := by decide +kernel
theorem d_R_readEntry_102 : decode cb_R_readEntry 102 = .ok (.iconst 0, 1) := by decide +kernel
theorem d_R_readEntry_103 : decode cb_R_readEntry 103 = .ok (.ireturn, 1) := by decide +kernel
theorem d_R_readEntry_104 : decode cb_R_readEntry 104 = .ok (.aload 5, 2) := by decide +kernel
theorem d_R_readEntry_106 : decode cb_R_readEntry 106 = .ok (.aload_n 3, 1) := by decide +kernel
theorem d_R_readEntry_107 : decode cb_R_readEntry 107 = .ok (.getfield 94, 3) := by decide +kernel
theorem d_R_readEntry_110 : decode cb_R_readEntry 110 = .ok (.putfield 112, 3) := by decide +kernel
theorem d_R_readEntry_113 : decode cb_R_readEntry 113 = .ok (.aload 4, 2) := by decide +kernel
theorem d_R_readEntry_115 : decode cb_R_readEntry 115 = .ok (.aload 5, 2) := by decide +kernel
theorem d_R_readEntry_117 : decode cb_R_readEntry 117 = .ok (.invokevirtual 113, 3) := by decide +kernel
theorem d_R_readEntry_120 : decode cb_R_readEntry 120 = .ok (.iconst 1, 1) := by decide +kernel
theorem d_R_readEntry_121 : decode cb_R_readEntry 121 = .ok (.ireturn, 1) := by decide +kernel
theorem d_R_readList_0 : decode cb_R_readList 0 = .ok (.new 33, 3) := by decide +kernel
theorem d_R_readList_3 : decode cb_R_readList 3 = .ok (.dup, 1) := by decide +kernel
theorem d_R_readList_4 : decode cb_R_readList 4 = .ok (.iconst 5, 1) := by decide +kernel
theorem d_R_readList_5 : decode cb_R_readList 5 = .ok (.iconst 0, 1) := by decide +kernel
theorem d_R_readList_6 : decode cb_R_readList 6 = .ok (.invokespecial 35, 3) := by decide +kernel
theorem d_R_readList_9 : decode cb_R_readList 9 = .ok (.astore_n 2, 1) := by decide +kernel
theorem d_R_readList_10 : decode cb_R_readList 10 = .ok (.aload_n 0, 1) := by decide +kernel
theorem d_R_readList_11 : decode cb_R_readList 11 = .ok (.dup, 1) := by decide +kernel
theorem d_R_readList_12 : decode cb_R_readList 12 = .ok (.getfield 45, 3) := by decide +kernel
theorem d_R_readList_15 : decode cb_R_readList 15 = .ok (.iconst 1, 1) := by decide +kernel
theorem d_R_readList_16 : decode cb_R_readList 16 = .ok (.iadd, 1) := by decide +kernel
theorem d_R_readList_17 : decode cb_R_readList 17 = .ok (.putfield 45, 3) := by decide +kernel
theorem d_R_readList_20 : decode cb_R_readList 20 = .ok (.aload_n 0, 1) := by decide +kernel
theorem d_R_readList_21 : decode cb_R_readList 21 = .ok (.invokevirtual 178, 3) := by decide +kernel
theorem d_R_readList_24 : decode cb_R_readList 24 = .ok (.aload_n 0, 1) := by decide +kernel
theorem d_R_readList_25 : decode cb_R_readList 25 = .ok (.invokevirtual 54, 3) := by decide +kernel
theorem d_R_readList_28 : decode cb_R_readList 28 = .ok (.bipush 93, 2) := by decide +kernel
theorem d_R_readList_30 : decode cb_R_readList 30 = .ok (.if_icmp .eq 7, 3) := by decide +kernel
theorem d_R_readList_33 : decode cb_R_readList 33 = .ok (.iconst 1, 1) := by decide +kernel
theorem d_R_readList_34 : decode cb_R_readList 34 = .ok (.goto 4, 3) := by decide +kernel
theorem d_R_readList_37 : decode cb_R_readList 37 = .ok (.iconst 0, 1) := by decide +kernel
theorem d_R_readList_38 : decode cb_R_readList 38 = .ok (.istore_n 3, 1) := by decide +kernel
theorem d_R_readList_39 : decode cb_R_readList 39 = .ok (.iconst 0, 1) := by decide +kernel
theorem d_R_readList_40 : decode cb_R_readList 40 = .ok (.istore 4, 2) := by decide +kernel
theorem d_R_readList_42 : decode cb_R_readList 42 = .ok (.iload_n 3, 1) := by decide +kernel
theorem d_R_readList_43 : decode cb_R_readList 43 = .ok (.ifCond .eq 89, 3) := by decide +kernel
theorem d_R_readList_46 : decode cb_R_readList 46 = .ok (.iload 4, 2) := by decide +kernel
theorem d_R_readList_48 : decode cb_R_readList 48 = .ok (.sipush 240, 3) := by decide +kernel
theorem d_R_readList_51 : decode cb_R_readList 51 = .ok (.if_icmp .ge 81, 3) := by decide +kernel
theorem d_R_readList_54 : decode cb_R_readList 54 = .ok (.aload_n 0, 1) := by decide +kernel
theorem d_R_readList_55 : decode cb_R_readList 55 = .ok (.iload_n 1, 1) := by decide +kernel
theorem d_R_readList_56 : decode cb_R_readList 56 = .ok (.invokevirtual 109, 3) := by decide +kernel
theorem d_R_readList_59 : decode cb_R_readList 59 = .ok (.astore 5, 2) := by decide +kernel
theorem d_R_readList_61 : decode cb_R_readList 61 = .ok (.aload 5, 2) := by decide +kernel
theorem d_R_readList_63 : decode cb_R_readList 63 = .ok (.ifnonnull 5, 3) := by decide +kernel
theorem d_R_readList_66 : decode cb_R_readList 66 = .ok (.aconst_null, 1) := by decide +kernel
theorem d_R_readList_67 : decode cb_R_readList 67 = .ok (.areturn, 1) := by decide +kernel
theorem d_R_readList_68 : decode cb_R_readList 68 = .ok (.aload_n 2, 1) := by decide +kernel
theorem d_R_readList_69 : decode cb_R_readList 69 = .ok (.aload 5, 2) := by decide +kernel
theorem d_R_readList_71 : decode cb_R_readList 71 = .ok (.invokevirtual 113, 3) := by decide +kernel
theorem d_R_readList_74 : decode cb_R_readList 74 = .ok (.aload_n 0, 1) := by decide +kernel
theorem d_R_readList_75 : decode cb_R_readList 75 = .ok (.invokevirtual 178, 3) := by decide +kernel
theorem d_R_readList_78 : decode cb_R_readList 78 = .ok (.aload_n 0, 1) := by decide +kernel
theorem d_R_readList_79 : decode cb_R_readList 79 = .ok (.invokevirtual 54, 3) := by decide +kernel
theorem d_R_readList_82 : decode cb_R_readList 82 = .ok (.bipush 44, 2) := by decide +kernel
theorem d_R_readList_84 : decode cb_R_readList 84 = .ok (.if_icmp .ne 7, 3) := by decide +kernel
theorem d_R_readList_87 : decode cb_R_readList 87 = .ok (.iconst 1, 1) := by decide +kernel
theorem d_R_readList_88 : decode cb_R_readList 88 = .ok (.goto 4, 3) := by decide +kernel
theorem d_R_readList_91 : decode cb_R_readList 91 = .ok (.iconst 0, 1) := by decide +kernel
theorem d_R_readList_92 : decode cb_R_readList 92 = .ok (.istore_n 3, 1) := by decide +kernel
theorem d_R_readList_93 : decode cb_R_readList 93 = .ok (.iload_n 3, 1) := by decide +kernel
theorem d_R_readList_94 : decode cb_R_readList 94 = .ok (.ifCond .eq 32, 3) := by decide +kernel
theorem d_R_readList_97 : decode cb_R_readList 97 = .ok (.aload_n 0, 1) := by decide +kernel
theorem d_R_readList_98 : decode cb_R_readList 98 = .ok (.dup, 1) := by decide +kernel
theorem d_R_readList_99 : decode cb_R_readList 99 = .ok (.getfield 45, 3) := by decide +kernel
theorem d_R_readList_102 : decode cb_R_readList 102 = .ok (.iconst 1, 1) := by decide +kernel
theorem d_R_readList_103 : decode cb_R_readList 103 = .ok (.iadd, 1) := by decide +kernel
theorem d_R_readList_104 : decode cb_R_readList 104 = .ok (.putfield 45, 3) := by decide +kernel
theorem d_R_readList_107 : decode cb_R_readList 107 = .ok (.aload_n 0, 1) := by decide +kernel
theorem d_R_readList_108 : decode cb_R_readList 108 = .ok (.invokevirtual 178, 3) := by decide +kernel
theorem d_R_readList_111 : decode cb_R_readList 111 = .ok (.aload_n 0, 1) := by decide +kernel
theorem d_R_readList_112 : decode cb_R_readList 112 = .ok (.invokevirtual 54, 3) := by decide +kernel
theorem d_R_readList_115 : decode cb_R_readList 115 = .ok (.bipush 93, 2) := by decide +kernel
theorem d_R_readList_117 : decode cb_R_readList 117 = .ok (.if_icmp .eq 7, 3) := by decide +kernel
theorem d_R_readList_120 : decode cb_R_readList 120 = .ok (.iconst 1, 1) := by decide +kernel
theorem d_R_readList_121 : decode cb_R_readList 121 = .ok (.goto 4, 3) := by decide +kernel
theorem d_R_readList_124 : decode cb_R_readList 124 = .ok (.iconst 0, 1) := by decide +kernel
theorem d_R_readList_125 : decode cb_R_readList 125 = .ok (.istore_n 3, 1) := by decide +kernel
theorem d_R_readList_126 : decode cb_R_readList 126 = .ok (.iinc 4 1, 3) := by decide +kernel
theorem d_R_readList_129 : decode cb_R_readList 129 = .ok (.goto (-87), 3) := by decide +kernel
theorem d_R_readList_132 : decode cb_R_readList 132 = .ok (.aload_n 0, 1) := by decide +kernel
theorem d_R_readList_133 : decode cb_R_readList 133 = .ok (.bipush 93, 2) := by decide +kernel
theorem d_R_readList_135 : decode cb_R_readList 135 = .ok (.invokevirtual 73, 3) := by decide +kernel
theorem d_R_readList_138 : decode cb_R_readList 138 = .ok (.ifCond .eq 7, 3) := by decide +kernel
theorem d_R_readList_141 : decode cb_R_readList 141 = .ok (.aload_n 2, 1) := by decide +kernel
theorem d_R_readList_142 : decode cb_R_readList 142 = .ok (.goto 4, 3) := by decide +kernel
theorem d_R_readList_145 : decode cb_R_readList 145 = .ok (.aconst_null, 1) := by decide +kernel
theorem d_R_readList_146 : decode cb_R_readList 146 = .ok (.areturn, 1) := by decide +kernel
theorem d_R_readClosedTable_0 : decode cb_R_readClosedTable 0 = .ok (.new 33, 3) := by decide +kernel
theorem d_R_readClosedTable_3 : decode cb_R_readClosedTable 3 = .ok (.dup, 1) := by decide +kernel
theorem d_R_readClosedTable_4 : decode cb_R_readClosedTable 4 = .ok (.bipush 10, 2) := by decide +kernel
theorem d_R_readClosedTable_6 : decode cb_R_readClosedTable 6 = .ok (.iconst 0, 1) := by decide +kernel
theorem d_R_readClosedTable_7 : decode cb_R_readClosedTable 7 = .ok (.invokespecial 35, 3) := by decide +kernel
theorem d_R_readClosedTable_10 : decode cb_R_readClosedTable 10 = .ok (.astore_n 2, 1) := by decide +kernel
theorem d_R_readClosedTable_11 : decode cb_R_readClosedTable 11 = .ok (.aload_n 0, 1) := by decide +kernel
theorem d_R_readClosedTable_12 : decode cb_R_readClosedTable 12 = .ok (.getfield 29, 3) := by decide +kernel
theorem d_R_readClosedTable_15 : decode cb_R_readClosedTable 15 = .ok (.invokevirtual 181, 3) := by decide +kernel
theorem d_R_readClosedTable_18 : decode cb_R_readClosedTable 18 = .ok (.istore_n 3, 1) := by decide +kernel
theorem d_R_readClosedTable_19 : decode cb_R_readClosedTable 19 = .ok (.aload_n 0, 1) := by decide +kernel
theorem d_R_readClosedTable_20 : decode cb_R_readClosedTable 20 = .ok (.dup, 1) := by decide +kernel
theorem d_R_readClosedTable_21 : decode cb_R_readClosedTable 21 = .ok (.getfield 45, 3) := by decide +kernel
theorem d_R_readClosedTable_24 : decode cb_R_readClosedTable 24 = .ok (.iconst 1, 1) := by decide +kernel
theorem d_R_readClosedTable_25 : decode cb_R_readClosedTable 25 = .ok (.iadd, 1) := by decide +kernel
theorem d_R_readClosedTable_26 : decode cb_R_readClosedTable 26 = .ok (.putfield 45, 3) := by decide +kernel
theorem d_R_readClosedTable_29 : decode cb_R_readClosedTable 29 = .ok (.aload_n 0, 1) := by decide +kernel
theorem d_R_readClosedTable_30 : decode cb_R_readClosedTable 30 = .ok (.invokevirtual 51, 3) := by decide +kernel
theorem d_R_readClosedTable_33 : decode cb_R_readClosedTable 33 = .ok (.aload_n 0, 1) := by decide +kernel
theorem d_R_readClosedTable_34 : decode cb_R_readClosedTable 34 = .ok (.invokevirtual 54, 3) := by decide +kernel
theorem d_R_readClosedTable_37 : decode cb_R_readClosedTable 37 = .ok (.bipush 125, 2) := by decide +kernel
theorem d_R_readClosedTable_39 : decode cb_R_readClosedTable 39 = .ok (.if_icmp .eq 7, 3) := by decide +kernel
theorem d_R_readClosedTable_42 : decode cb_R_readClosedTable 42 = .ok (.iconst 1, 1) := by decide +kernel
theorem d_R_readClosedTable_43 : decode cb_R_readClosedTable 43 = .ok (.goto 4, 3) := by decide +kernel
theorem d_R_readClosedTable_46 : decode cb_R_readClosedTable 46 = .ok (.iconst 0, 1) := by decide +kernel
theorem d_R_readClosedTable_47 : decode cb_R_readClosedTable 47 = .ok (.istore 4, 2) := by decide +kernel
theorem d_R_readClosedTable_49 : decode cb_R_readClosedTable 49 = .ok (.iconst 0, 1) := by decide +kernel
theorem d_R_readClosedTable_50 : decode cb_R_readClosedTable 50 = .ok (.istore 5, 2) := by decide +kernel
theorem d_R_readClosedTable_52 : decode cb_R_readClosedTable 52 = .ok (.iload 4, 2) := by decide +kernel
theorem d_R_readClosedTable_54 : decode cb_R_readClosedTable 54 = .ok (.ifCond .eq 67, 3) := by decide +kernel
theorem d_R_readClosedTable_57 : decode cb_R_readClosedTable 57 = .ok (.iload 5, 2) := by decide +kernel
theorem d_R_readClosedTable_59 : decode cb_R_readClosedTable 59 = .ok (.sipush 240, 3) := by decide +kernel
theorem d_R_readClosedTable_62 : decode cb_R_readClosedTable 62 = .ok (.if_icmp .ge 59, 3) := by decide +kernel
theorem d_R_readClosedTable_65 : decode cb_R_readClosedTable 65 = .ok (.aload_n 0, 1) := by decide +kernel
theorem d_R_readClosedTable_66 : decode cb_R_readClosedTable 66 = .ok (.aload_n 2, 1) := by decide +kernel
theorem d_R_readClosedTable_67 : decode cb_R_readClosedTable 67 = .ok (.iload_n 1, 1) := by decide +kernel
theorem d_R_readClosedTable_68 : decode cb_R_readClosedTable 68 = .ok (.invokevirtual 66, 3) := by decide +kernel
theorem d_R_readClosedTable_71 : decode cb_R_readClosedTable 71 = .ok (.ifCond .ne 5, 3) := by decide +kernel
theorem d_R_readClosedTable_74 : decode cb_R_readClosedTable 74 = .ok (.aconst_null, 1) := by decide +kernel
theorem d_R_readClosedTable_75 : decode cb_R_readClosedTable 75 = .ok (.areturn, 1) := by decide +kernel
theorem d_R_readClosedTable_76 : decode cb_R_readClosedTable 76 = .ok (.aload_n 0, 1) := by decide +kernel
theorem d_R_readClosedTable_77 : decode cb_R_readClosedTable 77 = .ok (.invokevirtual 51, 3) := by decide +kernel
theorem d_R_readClosedTable_80 : decode cb_R_readClosedTable 80 = .ok (.aload_n 0, 1) := by decide +kernel
theorem d_R_readClosedTable_81 : decode cb_R_readClosedTable 81 = .ok (.invokevirtual 54, 3) := by decide +kernel
theorem d_R_readClosedTable_84 : decode cb_R_readClosedTable 84 = .ok (.bipush 44, 2) := by decide +kernel
theorem d_R_readClosedTable_86 : decode cb_R_readClosedTable 86 = .ok (.if_icmp .ne 7, 3) := by decide +kernel
theorem d_R_readClosedTable_89 : decode cb_R_readClosedTable 89 = .ok (.iconst 1, 1) := by decide +kernel
theorem d_R_readClosedTable_90 : decode cb_R_readClosedTable 90 = .ok (.goto 4, 3) := by decide +kernel
theorem d_R_readClosedTable_93 : decode cb_R_readClosedTable 93 = .ok (.iconst 0, 1) := by decide +kernel
theorem d_R_readClosedTable_94 : decode cb_R_readClosedTable 94 = .ok (.istore 4, 2) := by decide +kernel
theorem d_R_readClosedTable_96 : decode cb_R_readClosedTable 96 = .ok (.iload 4, 2) := by decide +kernel
theorem d_R_readClosedTable_98 : decode cb_R_readClosedTable 98 = .ok (.ifCond .eq 17, 3) := by decide +kernel
theorem d_R_readClosedTable_101 : decode cb_R_readClosedTable 101 = .ok (.aload_n 0, 1) := by decide +kernel
theorem d_R_readClosedTable_102 : decode cb_R_readClosedTable 102 = .ok (.dup, 1) := by decide +kernel
theorem d_R_readClosedTable_103 : decode cb_R_readClosedTable 103 = .ok (.getfield 45, 3) := by decide +kernel
theorem d_R_readClosedTable_106 : decode cb_R_readClosedTable 106 = .ok (.iconst 1, 1) := by decide +kernel
theorem d_R_readClosedTable_107 : decode cb_R_readClosedTable 107 = .ok (.iadd, 1) := by decide +kernel
theorem d_R_readClosedTable_108 : decode cb_R_readClosedTable 108 = .ok (.putfield 45, 3) := by decide +kernel
theorem d_R_readClosedTable_111 : decode cb_R_readClosedTable 111 = .ok (.aload_n 0, 1) := by decide +kernel
theorem d_R_readClosedTable_112 : decode cb_R_readClosedTable 112 = .ok (.invokevirtual 51, 3) := by decide +kernel
theorem d_R_readClosedTable_115 : decode cb_R_readClosedTable 115 = .ok (.iinc 5 1, 3) := by decide +kernel
theorem d_R_readClosedTable_118 : decode cb_R_readClosedTable 118 = .ok (.goto (-66), 3) := by decide +kernel
theorem d_R_readClosedTable_121 : decode cb_R_readClosedTable 121 = .ok (.aload_n 0, 1) := by decide +kernel
theorem d_R_readClosedTable_122 : decode cb_R_readClosedTable 122 = .ok (.bipush 125, 2) := by decide +kernel
theorem d_R_readClosedTable_124 : decode cb_R_readClosedTable 124 = .ok (.invokevirtual 73, 3) := by decide +kernel
theorem d_R_readClosedTable_127 : decode cb_R_readClosedTable 127 = .ok (.ifCond .ne 5, 3) := by decide +kernel
theorem d_R_readClosedTable_130 : decode cb_R_readClosedTable 130 = .ok (.aconst_null, 1) := by decide +kernel
theorem d_R_readClosedTable_131 : decode cb_R_readClosedTable 131 = .ok (.areturn, 1) := by decide +kernel
theorem d_R_readClosedTable_132 : decode cb_R_readClosedTable 132 = .ok (.iload_n 3, 1) := by decide +kernel
theorem d_R_readClosedTable_133 : decode cb_R_readClosedTable 133 = .ok (.istore 5, 2) := by decide +kernel
theorem d_R_readClosedTable_135 : decode cb_R_readClosedTable 135 = .ok (.iload 5, 2) := by decide +kernel
theorem d_R_readClosedTable_137 : decode cb_R_readClosedTable 137 = .ok (.aload_n 0, 1) := by decide +kernel
theorem d_R_readClosedTable_138 : decode cb_R_readClosedTable 138 = .ok (.getfield 29, 3) := by decide +kernel
theorem d_R_readClosedTable_141 : decode cb_R_readClosedTable 141 = .ok (.invokevirtual 181, 3) := by decide +kernel
theorem d_R_readClosedTable_144 : decode cb_R_readClosedTable 144 = .ok (.if_icmp .ge 26, 3) := by decide +kernel
theorem d_R_readClosedTable_147 : decode cb_R_readClosedTable 147 = .ok (.aload_n 0, 1) := by decide +kernel
theorem d_R_readClosedTable_148 : decode cb_R_readClosedTable 148 = .ok (.getfield 29, 3) := by decide +kernel
theorem d_R_readClosedTable_151 : decode cb_R_readClosedTable 151 = .ok (.iload 5, 2) := by decide +kernel
theorem d_R_readClosedTable_153 : decode cb_R_readClosedTable 153 = .ok (.invokevirtual 184, 3) := by decide +kernel
theorem d_R_readClosedTable_156 : decode cb_R_readClosedTable 156 = .ok (.checkcast 33, 3) := by decide +kernel
theorem d_R_readClosedTable_159 : decode cb_R_readClosedTable 159 = .ok (.bipush 10, 2) := by decide +kernel
theorem d_R_readClosedTable_161 : decode cb_R_readClosedTable 161 = .ok (.putfield 131, 3) := by decide +kernel
theorem d_R_readClosedTable_164 : decode cb_R_readClosedTable 164 = .ok (.iinc 5 1, 3) := by decide +kernel
theorem d_R_readClosedTable_167 : decode cb_R_readClosedTable 167 = .ok (.goto (-32), 3) := by decide +kernel
theorem d_R_readClosedTable_170 : decode cb_R_readClosedTable 170 = .ok (.aload_n 2, 1) := by decide +kernel
theorem d_R_readClosedTable_171 : decode cb_R_readClosedTable 171 = .ok (.areturn, 1) := by decide +kernel
theorem d_R_readValue_0 : decode cb_R_readValue 0 = .ok (.aload_n 0, 1) := by decide +kernel
theorem d_R_readValue_1 : decode cb_R_readValue 1 = .ok (.invokevirtual 54, 3) := by decide +kernel
theorem d_R_readValue_4 : decode cb_R_readValue 4 = .ok (.istore_n 2, 1) := by decide +kernel
theorem d_R_readValue_5 : decode cb_R_readValue 5 = .ok (.iload_n 2, 1) := by decide +kernel
theorem d_R_readValue_6 : decode cb_R_readValue 6 = .ok (.bipush 91, 2) := by decide +kernel
theorem d_R_readValue_8 : decode cb_R_readValue 8 = .ok (.if_icmp .eq 9, 3) := by decide +kernel
theorem d_R_readValue_11 : decode cb_R_readValue 11 = .ok (.iload_n 2, 1) := by decide +kernel
theorem d_R_readValue_12 : decode cb_R_readValue 12 = .ok (.bipush 123, 2) := by decide +kernel
theorem d_R_readValue_14 : decode cb_R_readValue 14 = .ok (.if_icmp .ne 42, 3) := by decide +kernel
theorem d_R_readValue_17 : decode cb_R_readValue 17 = .ok (.iload_n 1, 1) := by decide +kernel
theorem d_R_readValue_18 : decode cb_R_readValue 18 = .ok (.bipush 6, 2) := by decide +kernel
theorem d_R_readValue_20 : decode cb_R_readValue 20 = .ok (.if_icmp .lt 12, 3) := by decide +kernel
theorem d_R_readValue_23 : decode cb_R_readValue 23 = .ok (.aload_n 0, 1) := by decide +kernel
theorem d_R_readValue_24 : decode cb_R_readValue 24 = .ok (.aload_n 0, 1) := by decide +kernel
theorem d_R_readValue_25 : decode cb_R_readValue 25 = .ok (.getfield 45, 3) := by decide +kernel
theorem d_R_readValue_28 : decode cb_R_readValue 28 = .ok (.invokevirtual 105, 3) := by decide +kernel
theorem d_R_readValue_31 : decode cb_R_readValue 31 = .ok (.areturn, 1) := by decide +kernel
theorem d_R_readValue_32 : decode cb_R_readValue 32 = .ok (.iload_n 2, 1) := by decide +kernel
theorem d_R_readValue_33 : decode cb_R_readValue 33 = .ok (.bipush 91, 2) := by decide +kernel
theorem d_R_readValue_35 : decode cb_R_readValue 35 = .ok (.if_icmp .ne 13, 3) := by decide +kernel
theorem d_R_readValue_38 : decode cb_R_readValue 38 = .ok (.aload_n 0, 1) := by decide +kernel
theorem d_R_readValue_39 : decode cb_R_readValue 39 = .ok (.iload_n 1, 1) := by decide +kernel
theorem d_R_readValue_40 : decode cb_R_readValue 40 = .ok (.iconst 1, 1) := by decide +kernel
theorem d_R_readValue_41 : decode cb_R_readValue 41 = .ok (.iadd, 1) := by decide +kernel
theorem d_R_readValue_42 : decode cb_R_readValue 42 = .ok (.invokevirtual 152, 3) := by decide +kernel
theorem d_R_readValue_45 : decode cb_R_readValue 45 = .ok (.goto 10, 3) := by decide +kernel
theorem d_R_readValue_48 : decode cb_R_readValue 48 = .ok (.aload_n 0, 1) := by decide +kernel
theorem d_R_readValue_49 : decode cb_R_readValue 49 = .ok (.iload_n 1, 1) := by decide +kernel
theorem d_R_readValue_50 : decode cb_R_readValue 50 = .ok (.iconst 1, 1) := by decide +kernel
theorem d_R_readValue_51 : decode cb_R_readValue 51 = .ok (.iadd, 1) := by decide +kernel
theorem d_R_readValue_52 : decode cb_R_readValue 52 = .ok (.invokevirtual 155, 3) := by decide +kernel
theorem d_R_readValue_55 : decode cb_R_readValue 55 = .ok (.areturn, 1) := by decide +kernel
theorem d_R_readValue_56 : decode cb_R_readValue 56 = .ok (.iload_n 2, 1) := by decide +kernel
theorem d_R_readValue_57 : decode cb_R_readValue 57 = .ok (.bipush 34, 2) := by decide +kernel
theorem d_R_readValue_59 : decode cb_R_readValue 59 = .ok (.if_icmp .eq 9, 3) := by decide +kernel
theorem d_R_readValue_62 : decode cb_R_readValue 62 = .ok (.iload_n 2, 1) := by decide +kernel
theorem d_R_readValue_63 : decode cb_R_readValue 63 = .ok (.bipush 39, 2) := by decide +kernel
theorem d_R_readValue_65 : decode cb_R_readValue 65 = .ok (.if_icmp .ne 8, 3) := by decide +kernel
theorem d_R_readValue_68 : decode cb_R_readValue 68 = .ok (.aload_n 0, 1) := by decide +kernel
theorem d_R_readValue_69 : decode cb_R_readValue 69 = .ok (.invokevirtual 158, 3) := by decide +kernel
theorem d_R_readValue_72 : decode cb_R_readValue 72 = .ok (.areturn, 1) := by decide +kernel
theorem d_R_readValue_73 : decode cb_R_readValue 73 = .ok (.iload_n 2, 1) := by decide +kernel
theorem d_R_readValue_74 : decode cb_R_readValue 74 = .ok (.bipush 116, 2) := by decide +kernel
theorem d_R_readValue_76 : decode cb_R_readValue 76 = .ok (.if_icmp .ne 11, 3) := by decide +kernel
theorem d_R_readValue_79 : decode cb_R_readValue 79 = .ok (.aload_n 0, 1) := by decide +kernel
theorem d_R_readValue_80 : decode cb_R_readValue 80 = .ok (.ldc 162, 2) := by decide +kernel
theorem d_R_readValue_82 : decode cb_R_readValue 82 = .ok (.iconst 1, 1) := by decide +kernel
theorem d_R_readValue_83 : decode cb_R_readValue 83 = .ok (.invokevirtual 164, 3) := by decide +kernel
theorem d_R_readValue_86 : decode cb_R_readValue 86 = .ok (.areturn, 1) := by decide +kernel
theorem d_R_readValue_87 : decode cb_R_readValue 87 = .ok (.iload_n 2, 1) := by decide +kernel
theorem d_R_readValue_88 : decode cb_R_readValue 88 = .ok (.bipush 102, 2) := by decide +kernel
theorem d_R_readValue_90 : decode cb_R_readValue 90 = .ok (.if_icmp .ne 11, 3) := by decide +kernel
theorem d_R_readValue_93 : decode cb_R_readValue 93 = .ok (.aload_n 0, 1) := by decide +kernel
theorem d_R_readValue_94 : decode cb_R_readValue 94 = .ok (.ldc 167, 2) := by decide +kernel
theorem d_R_readValue_96 : decode cb_R_readValue 96 = .ok (.iconst 0, 1) := by decide +kernel
theorem d_R_readValue_97 : decode cb_R_readValue 97 = .ok (.invokevirtual 164, 3) := by decide +kernel
theorem d_R_readValue_100 : decode cb_R_readValue 100 = .ok (.areturn, 1) := by decide +kernel
theorem d_R_readValue_101 : decode cb_R_readValue 101 = .ok (.aload_n 0, 1) := by decide +kernel
theorem d_R_readValue_102 : decode cb_R_readValue 102 = .ok (.invokevirtual 169, 3) := by decide +kernel
theorem d_R_readValue_105 : decode cb_R_readValue 105 = .ok (.ifCond .eq 10, 3) := by decide +kernel
theorem d_R_readValue_108 : decode cb_R_readValue 108 = .ok (.aload_n 0, 1) := by decide +kernel
theorem d_R_readValue_109 : decode cb_R_readValue 109 = .ok (.invokevirtual 172, 3) := by decide +kernel
theorem d_R_readValue_112 : decode cb_R_readValue 112 = .ok (.goto 7, 3) := by decide +kernel
theorem d_R_readValue_115 : decode cb_R_readValue 115 = .ok (.aload_n 0, 1) := by decide +kernel
theorem d_R_readValue_116 : decode cb_R_readValue 116 = .ok (.invokevirtual 175, 3) := by decide +kernel
theorem d_R_readValue_119 : decode cb_R_readValue 119 = .ok (.areturn, 1) := by decide +kernel
theorem d_R_readDocument_0 : decode cb_R_readDocument 0 = .ok (.iconst 1, 1) := by decide +kernel
theorem d_R_readDocument_1 : decode cb_R_readDocument 1 = .ok (.istore_n 1, 1) := by decide +kernel
theorem d_R_readDocument_2 : decode cb_R_readDocument 2 = .ok (.iconst 0, 1) := by decide +kernel
theorem d_R_readDocument_3 : decode cb_R_readDocument 3 = .ok (.istore_n 2, 1) := by decide +kernel
theorem d_R_readDocument_4 : decode cb_R_readDocument 4 = .ok (.iload_n 1, 1) := by decide +kernel
theorem d_R_readDocument_5 : decode cb_R_readDocument 5 = .ok (.ifCond .eq 110, 3) := by decide +kernel
theorem d_R_readDocument_8 : decode cb_R_readDocument 8 = .ok (.iload_n 2, 1) := by decide +kernel
theorem d_R_readDocument_9 : decode cb_R_readDocument 9 = .ok (.sipush 240, 3) := by decide +kernel
theorem d_R_readDocument_12 : decode cb_R_readDocument 12 = .ok (.if_icmp .gt 103, 3) := by decide +kernel
theorem d_R_readDocument_15 : decode cb_R_readDocument 15 = .ok (.aload_n 0, 1) := by decide +kernel
theorem d_R_readDocument_16 : decode cb_R_readDocument 16 = .ok (.invokevirtual 51, 3) := by decide +kernel
theorem d_R_readDocument_19 : decode cb_R_readDocument 19 = .ok (.aload_n 0, 1) := by decide +kernel
theorem d_R_readDocument_20 : decode cb_R_readDocument 20 = .ok (.invokevirtual 54, 3) := by decide +kernel
theorem d_R_readDocument_23 : decode cb_R_readDocument 23 = .ok (.invokestatic 58, 3) := by decide +kernel
theorem d_R_readDocument_26 : decode cb_R_readDocument 26 = .ok (.ifCond .ne 34, 3) := by decide +kernel
theorem d_R_readDocument_29 : decode cb_R_readDocument 29 = .ok (.aload_n 0, 1) := by decide +kernel
theorem d_R_readDocument_30 : decode cb_R_readDocument 30 = .ok (.invokevirtual 54, 3) := by decide +kernel
theorem d_R_readDocument_33 : decode cb_R_readDocument 33 = .ok (.bipush 91, 2) := by decide +kernel
theorem d_R_readDocument_35 : decode cb_R_readDocument 35 = .ok (.if_icmp .ne 13, 3) := by decide +kernel
theorem d_R_readDocument_38 : decode cb_R_readDocument 38 = .ok (.aload_n 0, 1) := by decide +kernel
theorem d_R_readDocument_39 : decode cb_R_readDocument 39 = .ok (.invokevirtual 62, 3) := by decide +kernel
theorem d_R_readDocument_42 : decode cb_R_readDocument 42 = .ok (.ifCond .eq 22, 3) := by decide +kernel
theorem d_R_readDocument_45 : decode cb_R_readDocument 45 = .ok (.goto 15, 3) := by decide +kernel
theorem d_R_readDocument_48 : decode cb_R_readDocument 48 = .ok (.aload_n 0, 1) := by decide +kernel
theorem d_R_readDocument_49 : decode cb_R_readDocument 49 = .ok (.aload_n 0, 1) := by decide +kernel
theorem d_R_readDocument_50 : decode cb_R_readDocument 50 = .ok (.getfield 42, 3) := by decide +kernel
theorem d_R_readDocument_53 : decode cb_R_readDocument 53 = .ok (.iconst 0, 1) := by decide +kernel
theorem d_R_readDocument_54 : decode cb_R_readDocument 54 = .ok (.invokevirtual 66, 3) := by decide +kernel
theorem d_R_readDocument_57 : decode cb_R_readDocument 57 = .ok (.ifCond .eq 7, 3) := by decide +kernel
theorem d_R_readDocument_60 : decode cb_R_readDocument 60 = .ok (.iconst 1, 1) := by decide +kernel
theorem d_R_readDocument_61 : decode cb_R_readDocument 61 = .ok (.goto 4, 3) := by decide +kernel
theorem d_R_readDocument_64 : decode cb_R_readDocument 64 = .ok (.iconst 0, 1) := by decide +kernel
theorem d_R_readDocument_65 : decode cb_R_readDocument 65 = .ok (.istore_n 3, 1) := by decide +kernel
theorem d_R_readDocument_66 : decode cb_R_readDocument 66 = .ok (.iload_n 3, 1) := by decide +kernel
theorem d_R_readDocument_67 : decode cb_R_readDocument 67 = .ok (.ifCond .ne 5, 3) := by decide +kernel
theorem d_R_readDocument_70 : decode cb_R_readDocument 70 = .ok (.aconst_null, 1) := by decide +kernel
theorem d_R_readDocument_71 : decode cb_R_readDocument 71 = .ok (.areturn, 1) := by decide +kernel
theorem d_R_readDocument_72 : decode cb_R_readDocument 72 = .ok (.aload_n 0, 1) := by decide +kernel
theorem d_R_readDocument_73 : decode cb_R_readDocument 73 = .ok (.invokevirtual 51, 3) := by decide +kernel
theorem d_R_readDocument_76 : decode cb_R_readDocument 76 = .ok (.aload_n 0, 1) := by decide +kernel
theorem d_R_readDocument_77 : decode cb_R_readDocument 77 = .ok (.invokevirtual 70, 3) := by decide +kernel
theorem d_R_readDocument_80 : decode cb_R_readDocument 80 = .ok (.aload_n 0, 1) := by decide +kernel
theorem d_R_readDocument_81 : decode cb_R_readDocument 81 = .ok (.invokevirtual 54, 3) := by decide +kernel
theorem d_R_readDocument_84 : decode cb_R_readDocument 84 = .ok (.iconst (-1), 1) := by decide +kernel
theorem d_R_readDocument_85 : decode cb_R_readDocument 85 = .ok (.if_icmp .eq 7, 3) := by decide +kernel
theorem d_R_readDocument_88 : decode cb_R_readDocument 88 = .ok (.iconst 1, 1) := by decide +kernel
theorem d_R_readDocument_89 : decode cb_R_readDocument 89 = .ok (.goto 4, 3) := by decide +kernel
theorem d_R_readDocument_92 : decode cb_R_readDocument 92 = .ok (.iconst 0, 1) := by decide +kernel
theorem d_R_readDocument_93 : decode cb_R_readDocument 93 = .ok (.istore_n 1, 1) := by decide +kernel
theorem d_R_readDocument_94 : decode cb_R_readDocument 94 = .ok (.iload_n 1, 1) := by decide +kernel
theorem d_R_readDocument_95 : decode cb_R_readDocument 95 = .ok (.ifCond .eq 14, 3) := by decide +kernel
theorem d_R_readDocument_98 : decode cb_R_readDocument 98 = .ok (.aload_n 0, 1) := by decide +kernel
theorem d_R_readDocument_99 : decode cb_R_readDocument 99 = .ok (.bipush 10, 2) := by decide +kernel
theorem d_R_readDocument_101 : decode cb_R_readDocument 101 = .ok (.invokevirtual 73, 3) := by decide +kernel
theorem d_R_readDocument_104 : decode cb_R_readDocument 104 = .ok (.ifCond .ne 5, 3) := by decide +kernel
theorem d_R_readDocument_107 : decode cb_R_readDocument 107 = .ok (.aconst_null, 1) := by decide +kernel
theorem d_R_readDocument_108 : decode cb_R_readDocument 108 = .ok (.areturn, 1) := by decide +kernel
theorem d_R_readDocument_109 : decode cb_R_readDocument 109 = .ok (.iinc 2 1, 3) := by decide +kernel
theorem d_R_readDocument_112 : decode cb_R_readDocument 112 = .ok (.goto (-108), 3) := by decide +kernel
theorem d_R_readDocument_115 : decode cb_R_readDocument 115 = .ok (.aload_n 0, 1) := by decide +kernel
theorem d_R_readDocument_116 : decode cb_R_readDocument 116 = .ok (.getfield 38, 3) := by decide +kernel
theorem d_R_readDocument_119 : decode cb_R_readDocument 119 = .ok (.areturn, 1) := by decide +kernel
theorem d_T_read_0 : decode cb_T_read 0 = .ok (.new 50, 3) := by decide +kernel
theorem d_T_read_3 : decode cb_T_read 3 = .ok (.dup, 1) := by decide +kernel
theorem d_T_read_4 : decode cb_T_read 4 = .ok (.aload_n 0, 1) := by decide +kernel
theorem d_T_read_5 : decode cb_T_read 5 = .ok (.getfield 9, 3) := by decide +kernel
theorem d_T_read_8 : decode cb_T_read 8 = .ok (.aload_n 0, 1) := by decide +kernel
theorem d_T_read_9 : decode cb_T_read 9 = .ok (.getfield 20, 3) := by decide +kernel
theorem d_T_read_12 : decode cb_T_read 12 = .ok (.invokespecial 52, 3) := by decide +kernel
theorem d_T_read_15 : decode cb_T_read 15 = .ok (.astore_n 1, 1) := by decide +kernel
theorem d_T_read_16 : decode cb_T_read 16 = .ok (.aload_n 0, 1) := by decide +kernel
theorem d_T_read_17 : decode cb_T_read 17 = .ok (.iconst 0, 1) := by decide +kernel
theorem d_T_read_18 : decode cb_T_read 18 = .ok (.putfield 20, 3) := by decide +kernel
theorem d_T_read_21 : decode cb_T_read 21 = .ok (.aload_n 1, 1) := by decide +kernel
theorem d_T_read_22 : decode cb_T_read 22 = .ok (.invokevirtual 55, 3) := by decide +kernel
theorem d_T_read_25 : decode cb_T_read 25 = .ok (.astore_n 2, 1) := by decide +kernel
theorem d_T_read_26 : decode cb_T_read 26 = .ok (.aload_n 2, 1) := by decide +kernel
theorem d_T_read_27 : decode cb_T_read 27 = .ok (.ifnonnull 8, 3) := by decide +kernel
theorem d_T_read_30 : decode cb_T_read 30 = .ok (.aload_n 1, 1) := by decide +kernel
theorem d_T_read_31 : decode cb_T_read 31 = .ok (.getfield 59, 3) := by decide +kernel
theorem d_T_read_34 : decode cb_T_read 34 = .ok (.ireturn, 1) := by decide +kernel
theorem d_T_read_35 : decode cb_T_read 35 = .ok (.aload_n 0, 1) := by decide +kernel
theorem d_T_read_36 : decode cb_T_read 36 = .ok (.aload_n 2, 1) := by decide +kernel
theorem d_T_read_37 : decode cb_T_read 37 = .ok (.putfield 29, 3) := by decide +kernel
theorem d_T_read_40 : decode cb_T_read 40 = .ok (.aload_n 0, 1) := by decide +kernel
theorem d_T_read_41 : decode cb_T_read 41 = .ok (.aload_n 2, 1) := by decide +kernel
theorem d_T_read_42 : decode cb_T_read 42 = .ok (.putfield 33, 3) := by decide +kernel
theorem d_T_read_45 : decode cb_T_read 45 = .ok (.iconst (-1), 1) := by decide +kernel
theorem d_T_read_46 : decode cb_T_read 46 = .ok (.ireturn, 1) := by decide +kernel
