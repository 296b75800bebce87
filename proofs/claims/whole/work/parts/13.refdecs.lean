theorem d_isDate_49 : decode cb_isDate 49 = .ok (.goto (-28), 3) := by decide +kernel
theorem d_isDate_52 : decode cb_isDate 52 = .ok (.iload_n 1, 1) := by decide +kernel
theorem d_isDate_53 : decode cb_isDate 53 = .ok (.ifCond .eq 23, 3) := by decide +kernel
theorem d_isDate_56 : decode cb_isDate 56 = .ok (.aload_n 0, 1) := by decide +kernel
theorem d_isDate_57 : decode cb_isDate 57 = .ok (.getfield 7, 3) := by decide +kernel
theorem d_isDate_60 : decode cb_isDate 60 = .ok (.aload_n 0, 1) := by decide +kernel
theorem d_isDate_61 : decode cb_isDate 61 = .ok (.getfield 76, 3) := by decide +kernel
theorem d_isDate_64 : decode cb_isDate 64 = .ok (.iconst 4, 1) := by decide +kernel
theorem d_isDate_65 : decode cb_isDate 65 = .ok (.iadd, 1) := by decide +kernel
theorem d_isDate_66 : decode cb_isDate 66 = .ok (.iaload, 1) := by decide +kernel
theorem d_isDate_67 : decode cb_isDate 67 = .ok (.bipush 45, 2) := by decide +kernel
theorem d_isDate_69 : decode cb_isDate 69 = .ok (.if_icmp .ne 7, 3) := by decide +kernel
theorem d_isDate_72 : decode cb_isDate 72 = .ok (.iconst 1, 1) := by decide +kernel
theorem d_isDate_73 : decode cb_isDate 73 = .ok (.goto 4, 3) := by decide +kernel
theorem d_isDate_76 : decode cb_isDate 76 = .ok (.iconst 0, 1) := by decide +kernel
theorem d_isDate_77 : decode cb_isDate 77 = .ok (.ireturn, 1) := by decide +kernel
theorem d_two_0 : decode cb_two 0 = .ok (.iconst 0, 1) := by decide +kernel
theorem d_two_1 : decode cb_two 1 = .ok (.istore_n 1, 1) := by decide +kernel
theorem d_two_2 : decode cb_two 2 = .ok (.iconst 0, 1) := by decide +kernel
theorem d_two_3 : decode cb_two 3 = .ok (.istore_n 2, 1) := by decide +kernel
theorem d_two_4 : decode cb_two 4 = .ok (.iload_n 2, 1) := by decide +kernel
theorem d_two_5 : decode cb_two 5 = .ok (.iconst 2, 1) := by decide +kernel
theorem d_two_6 : decode cb_two 6 = .ok (.if_icmp .ge 53, 3) := by decide +kernel
theorem d_two_9 : decode cb_two 9 = .ok (.aload_n 0, 1) := by decide +kernel
theorem d_two_10 : decode cb_two 10 = .ok (.aload_n 0, 1) := by decide +kernel
theorem d_two_11 : decode cb_two 11 = .ok (.invokevirtual 82, 3) := by decide +kernel
theorem d_two_14 : decode cb_two 14 = .ok (.invokevirtual 89, 3) := by decide +kernel
theorem d_two_17 : decode cb_two 17 = .ok (.ifCond .ne 13, 3) := by decide +kernel
theorem d_two_20 : decode cb_two 20 = .ok (.aload_n 0, 1) := by decide +kernel
theorem d_two_21 : decode cb_two 21 = .ok (.aload_n 0, 1) := by decide +kernel
theorem d_two_22 : decode cb_two 22 = .ok (.getfield 76, 3) := by decide +kernel
theorem d_two_25 : decode cb_two 25 = .ok (.putfield 79, 3) := by decide +kernel
theorem d_two_28 : decode cb_two 28 = .ok (.iconst (-1), 1) := by decide +kernel
theorem d_two_29 : decode cb_two 29 = .ok (.ireturn, 1) := by decide +kernel
theorem d_two_30 : decode cb_two 30 = .ok (.bipush 10, 2) := by decide +kernel
theorem d_two_32 : decode cb_two 32 = .ok (.iload_n 1, 1) := by decide +kernel
theorem d_two_33 : decode cb_two 33 = .ok (.imul, 1) := by decide +kernel
theorem d_two_34 : decode cb_two 34 = .ok (.aload_n 0, 1) := by decide +kernel
theorem d_two_35 : decode cb_two 35 = .ok (.invokevirtual 82, 3) := by decide +kernel
theorem d_two_38 : decode cb_two 38 = .ok (.iadd, 1) := by decide +kernel
theorem d_two_39 : decode cb_two 39 = .ok (.bipush 48, 2) := by decide +kernel
theorem d_two_41 : decode cb_two 41 = .ok (.isub, 1) := by decide +kernel
theorem d_two_42 : decode cb_two 42 = .ok (.istore_n 1, 1) := by decide +kernel
theorem d_two_43 : decode cb_two 43 = .ok (.aload_n 0, 1) := by decide +kernel
theorem d_two_44 : decode cb_two 44 = .ok (.dup, 1) := by decide +kernel
theorem d_two_45 : decode cb_two 45 = .ok (.getfield 76, 3) := by decide +kernel
theorem d_two_48 : decode cb_two 48 = .ok (.iconst 1, 1) := by decide +kernel
theorem d_two_49 : decode cb_two 49 = .ok (.iadd, 1) := by decide +kernel
theorem d_two_50 : decode cb_two 50 = .ok (.putfield 76, 3) := by decide +kernel
theorem d_two_53 : decode cb_two 53 = .ok (.iinc 2 1, 3) := by decide +kernel
theorem d_two_56 : decode cb_two 56 = .ok (.goto (-52), 3) := by decide +kernel
theorem d_two_59 : decode cb_two 59 = .ok (.iload_n 1, 1) := by decide +kernel
theorem d_two_60 : decode cb_two 60 = .ok (.ireturn, 1) := by decide +kernel
theorem d_daysOf_0 : decode cb_daysOf 0 = .ok (.iload_n 2, 1) := by decide +kernel
theorem d_daysOf_1 : decode cb_daysOf 1 = .ok (.iconst 2, 1) := by decide +kernel
theorem d_daysOf_2 : decode cb_daysOf 2 = .ok (.if_icmp .ne 32, 3) := by decide +kernel
theorem d_daysOf_5 : decode cb_daysOf 5 = .ok (.iload_n 1, 1) := by decide +kernel
theorem d_daysOf_6 : decode cb_daysOf 6 = .ok (.sipush 400, 3) := by decide +kernel
theorem d_daysOf_9 : decode cb_daysOf 9 = .ok (.irem, 1) := by decide +kernel
theorem d_daysOf_10 : decode cb_daysOf 10 = .ok (.ifCond .eq 16, 3) := by decide +kernel
theorem d_daysOf_13 : decode cb_daysOf 13 = .ok (.iload_n 1, 1) := by decide +kernel
theorem d_daysOf_14 : decode cb_daysOf 14 = .ok (.iconst 4, 1) := by decide +kernel
theorem d_daysOf_15 : decode cb_daysOf 15 = .ok (.irem, 1) := by decide +kernel
theorem d_daysOf_16 : decode cb_daysOf 16 = .ok (.ifCond .ne 15, 3) := by decide +kernel
theorem d_daysOf_19 : decode cb_daysOf 19 = .ok (.iload_n 1, 1) := by decide +kernel
theorem d_daysOf_20 : decode cb_daysOf 20 = .ok (.bipush 100, 2) := by decide +kernel
theorem d_daysOf_22 : decode cb_daysOf 22 = .ok (.irem, 1) := by decide +kernel
theorem d_daysOf_23 : decode cb_daysOf 23 = .ok (.ifCond .eq 8, 3) := by decide +kernel
theorem d_daysOf_26 : decode cb_daysOf 26 = .ok (.bipush 29, 2) := by decide +kernel
theorem d_daysOf_28 : decode cb_daysOf 28 = .ok (.goto 5, 3) := by decide +kernel
theorem d_daysOf_31 : decode cb_daysOf 31 = .ok (.bipush 28, 2) := by decide +kernel
theorem d_daysOf_33 : decode cb_daysOf 33 = .ok (.ireturn, 1) := by decide +kernel
theorem d_daysOf_34 : decode cb_daysOf 34 = .ok (.iload_n 2, 1) := by decide +kernel
theorem d_daysOf_35 : decode cb_daysOf 35 = .ok (.iconst 4, 1) := by decide +kernel
theorem d_daysOf_36 : decode cb_daysOf 36 = .ok (.if_icmp .eq 21, 3) := by decide +kernel
theorem d_daysOf_39 : decode cb_daysOf 39 = .ok (.iload_n 2, 1) := by decide +kernel
theorem d_daysOf_40 : decode cb_daysOf 40 = .ok (.bipush 6, 2) := by decide +kernel
theorem d_daysOf_42 : decode cb_daysOf 42 = .ok (.if_icmp .eq 15, 3) := by decide +kernel
theorem d_daysOf_45 : decode cb_daysOf 45 = .ok (.iload_n 2, 1) := by decide +kernel
theorem d_daysOf_46 : decode cb_daysOf 46 = .ok (.bipush 9, 2) := by decide +kernel
theorem d_daysOf_48 : decode cb_daysOf 48 = .ok (.if_icmp .eq 9, 3) := by decide +kernel
theorem d_daysOf_51 : decode cb_daysOf 51 = .ok (.iload_n 2, 1) := by decide +kernel
theorem d_daysOf_52 : decode cb_daysOf 52 = .ok (.bipush 11, 2) := by decide +kernel
theorem d_daysOf_54 : decode cb_daysOf 54 = .ok (.if_icmp .ne 8, 3) := by decide +kernel
theorem d_daysOf_57 : decode cb_daysOf 57 = .ok (.bipush 30, 2) := by decide +kernel
theorem d_daysOf_59 : decode cb_daysOf 59 = .ok (.goto 5, 3) := by decide +kernel
theorem d_daysOf_62 : decode cb_daysOf 62 = .ok (.bipush 31, 2) := by decide +kernel
theorem d_daysOf_64 : decode cb_daysOf 64 = .ok (.ireturn, 1) := by decide +kernel
theorem d_date_0 : decode cb_date 0 = .ok (.iconst 0, 1) := by decide +kernel
theorem d_date_1 : decode cb_date 1 = .ok (.istore_n 2, 1) := by decide +kernel
theorem d_date_2 : decode cb_date 2 = .ok (.iconst 0, 1) := by decide +kernel
theorem d_date_3 : decode cb_date 3 = .ok (.istore_n 3, 1) := by decide +kernel
theorem d_date_4 : decode cb_date 4 = .ok (.iload_n 3, 1) := by decide +kernel
theorem d_date_5 : decode cb_date 5 = .ok (.iconst 4, 1) := by decide +kernel
theorem d_date_6 : decode cb_date 6 = .ok (.if_icmp .ge 32, 3) := by decide +kernel
theorem d_date_9 : decode cb_date 9 = .ok (.bipush 10, 2) := by decide +kernel
theorem d_date_11 : decode cb_date 11 = .ok (.iload_n 2, 1) := by decide +kernel
theorem d_date_12 : decode cb_date 12 = .ok (.imul, 1) := by decide +kernel
theorem d_date_13 : decode cb_date 13 = .ok (.aload_n 0, 1) := by decide +kernel
theorem d_date_14 : decode cb_date 14 = .ok (.invokevirtual 82, 3) := by decide +kernel
theorem d_date_17 : decode cb_date 17 = .ok (.iadd, 1) := by decide +kernel
theorem d_date_18 : decode cb_date 18 = .ok (.bipush 48, 2) := by decide +kernel
theorem d_date_20 : decode cb_date 20 = .ok (.isub, 1) := by decide +kernel
theorem d_date_21 : decode cb_date 21 = .ok (.istore_n 2, 1) := by decide +kernel
theorem d_date_22 : decode cb_date 22 = .ok (.aload_n 0, 1) := by decide +kernel
theorem d_date_23 : decode cb_date 23 = .ok (.dup, 1) := by decide +kernel
theorem d_date_24 : decode cb_date 24 = .ok (.getfield 76, 3) := by decide +kernel
theorem d_date_27 : decode cb_date 27 = .ok (.iconst 1, 1) := by decide +kernel
theorem d_date_28 : decode cb_date 28 = .ok (.iadd, 1) := by decide +kernel
theorem d_date_29 : decode cb_date 29 = .ok (.putfield 76, 3) := by decide +kernel
theorem d_date_32 : decode cb_date 32 = .ok (.iinc 3 1, 3) := by decide +kernel
theorem d_date_35 : decode cb_date 35 = .ok (.goto (-31), 3) := by decide +kernel
theorem d_date_38 : decode cb_date 38 = .ok (.aload_n 0, 1) := by decide +kernel
theorem d_date_39 : decode cb_date 39 = .ok (.dup, 1) := by decide +kernel
theorem d_date_40 : decode cb_date 40 = .ok (.getfield 76, 3) := by decide +kernel
theorem d_date_43 : decode cb_date 43 = .ok (.iconst 1, 1) := by decide +kernel
theorem d_date_44 : decode cb_date 44 = .ok (.iadd, 1) := by decide +kernel
theorem d_date_45 : decode cb_date 45 = .ok (.putfield 76, 3) := by decide +kernel
theorem d_date_48 : decode cb_date 48 = .ok (.aload_n 0, 1) := by decide +kernel
theorem d_date_49 : decode cb_date 49 = .ok (.invokevirtual 154, 3) := by decide +kernel
theorem d_date_52 : decode cb_date 52 = .ok (.istore_n 3, 1) := by decide +kernel
theorem d_date_53 : decode cb_date 53 = .ok (.iload_n 3, 1) := by decide +kernel
theorem d_date_54 : decode cb_date 54 = .ok (.iconst (-1), 1) := by decide +kernel
theorem d_date_55 : decode cb_date 55 = .ok (.if_icmp .ne 5, 3) := by decide +kernel
theorem d_date_58 : decode cb_date 58 = .ok (.iconst 0, 1) := by decide +kernel
theorem d_date_59 : decode cb_date 59 = .ok (.ireturn, 1) := by decide +kernel
theorem d_date_60 : decode cb_date 60 = .ok (.iload_n 3, 1) := by decide +kernel
theorem d_date_61 : decode cb_date 61 = .ok (.iconst 1, 1) := by decide +kernel
theorem d_date_62 : decode cb_date 62 = .ok (.if_icmp .lt 9, 3) := by decide +kernel
theorem d_date_65 : decode cb_date 65 = .ok (.iload_n 3, 1) := by decide +kernel
theorem d_date_66 : decode cb_date 66 = .ok (.bipush 12, 2) := by decide +kernel
theorem d_date_68 : decode cb_date 68 = .ok (.if_icmp .le 14, 3) := by decide +kernel
theorem d_date_71 : decode cb_date 71 = .ok (.aload_n 0, 1) := by decide +kernel
theorem d_date_72 : decode cb_date 72 = .ok (.aload_n 0, 1) := by decide +kernel
theorem d_date_73 : decode cb_date 73 = .ok (.getfield 76, 3) := by decide +kernel
theorem d_date_76 : decode cb_date 76 = .ok (.iconst 2, 1) := by decide +kernel
theorem d_date_77 : decode cb_date 77 = .ok (.isub, 1) := by decide +kernel
theorem d_date_78 : decode cb_date 78 = .ok (.invokevirtual 102, 3) := by decide +kernel
theorem d_date_81 : decode cb_date 81 = .ok (.ireturn, 1) := by decide +kernel
theorem d_date_82 : decode cb_date 82 = .ok (.aload_n 0, 1) := by decide +kernel
theorem d_date_83 : decode cb_date 83 = .ok (.invokevirtual 82, 3) := by decide +kernel
theorem d_date_86 : decode cb_date 86 = .ok (.bipush 45, 2) := by decide +kernel
theorem d_date_88 : decode cb_date 88 = .ok (.if_icmp .eq 12, 3) := by decide +kernel
theorem d_date_91 : decode cb_date 91 = .ok (.aload_n 0, 1) := by decide +kernel
theorem d_date_92 : decode cb_date 92 = .ok (.aload_n 0, 1) := by decide +kernel
theorem d_date_93 : decode cb_date 93 = .ok (.getfield 76, 3) := by decide +kernel
theorem d_date_96 : decode cb_date 96 = .ok (.invokevirtual 102, 3) := by decide +kernel
theorem d_date_99 : decode cb_date 99 = .ok (.ireturn, 1) := by decide +kernel
theorem d_date_100 : decode cb_date 100 = .ok (.aload_n 0, 1) := by decide +kernel
theorem d_date_101 : decode cb_date 101 = .ok (.dup, 1) := by decide +kernel
theorem d_date_102 : decode cb_date 102 = .ok (.getfield 76, 3) := by decide +kernel
theorem d_date_105 : decode cb_date 105 = .ok (.iconst 1, 1) := by decide +kernel
theorem d_date_106 : decode cb_date 106 = .ok (.iadd, 1) := by decide +kernel
theorem d_date_107 : decode cb_date 107 = .ok (.putfield 76, 3) := by decide +kernel
theorem d_date_110 : decode cb_date 110 = .ok (.aload_n 0, 1) := by decide +kernel
theorem d_date_111 : decode cb_date 111 = .ok (.invokevirtual 154, 3) := by decide +kernel
theorem d_date_114 : decode cb_date 114 = .ok (.istore 4, 2) := by decide +kernel
theorem d_date_116 : decode cb_date 116 = .ok (.iload 4, 2) := by decide +kernel
theorem d_date_118 : decode cb_date 118 = .ok (.iconst (-1), 1) := by decide +kernel
theorem d_date_119 : decode cb_date 119 = .ok (.if_icmp .ne 5, 3) := by decide +kernel
theorem d_date_122 : decode cb_date 122 = .ok (.iconst 0, 1) := by decide +kernel
theorem d_date_123 : decode cb_date 123 = .ok (.ireturn, 1) := by decide +kernel
theorem d_date_124 : decode cb_date 124 = .ok (.iload 4, 2) := by decide +kernel
theorem d_date_126 : decode cb_date 126 = .ok (.iconst 1, 1) := by decide +kernel
theorem d_date_127 : decode cb_date 127 = .ok (.if_icmp .lt 14, 3) := by decide +kernel
theorem d_date_130 : decode cb_date 130 = .ok (.iload 4, 2) := by decide +kernel
theorem d_date_132 : decode cb_date 132 = .ok (.aload_n 0, 1) := by decide +kernel
theorem d_date_133 : decode cb_date 133 = .ok (.iload_n 2, 1) := by decide +kernel
theorem d_date_134 : decode cb_date 134 = .ok (.iload_n 3, 1) := by decide +kernel
theorem d_date_135 : decode cb_date 135 = .ok (.invokevirtual 157, 3) := by decide +kernel
theorem d_date_138 : decode cb_date 138 = .ok (.if_icmp .le 14, 3) := by decide +kernel
theorem d_date_141 : decode cb_date 141 = .ok (.aload_n 0, 1) := by decide +kernel
theorem d_date_142 : decode cb_date 142 = .ok (.aload_n 0, 1) := by decide +kernel
theorem d_date_143 : decode cb_date 143 = .ok (.getfield 76, 3) := by decide +kernel
theorem d_date_146 : decode cb_date 146 = .ok (.iconst 2, 1) := by decide +kernel
theorem d_date_147 : decode cb_date 147 = .ok (.isub, 1) := by decide +kernel
theorem d_date_148 : decode cb_date 148 = .ok (.invokevirtual 102, 3) := by decide +kernel
theorem d_date_151 : decode cb_date 151 = .ok (.ireturn, 1) := by decide +kernel
theorem d_date_152 : decode cb_date 152 = .ok (.aload_n 0, 1) := by decide +kernel
theorem d_date_153 : decode cb_date 153 = .ok (.getfield 16, 3) := by decide +kernel
theorem d_date_156 : decode cb_date 156 = .ok (.iload_n 1, 1) := by decide +kernel
theorem d_date_157 : decode cb_date 157 = .ok (.iconst 4, 1) := by decide +kernel
theorem d_date_158 : decode cb_date 158 = .ok (.iastore, 1) := by decide +kernel
theorem d_date_159 : decode cb_date 159 = .ok (.aload_n 0, 1) := by decide +kernel
theorem d_date_160 : decode cb_date 160 = .ok (.getfield 19, 3) := by decide +kernel
theorem d_date_163 : decode cb_date 163 = .ok (.iload_n 1, 1) := by decide +kernel
theorem d_date_164 : decode cb_date 164 = .ok (.sipush 10000, 3) := by decide +kernel
theorem d_date_167 : decode cb_date 167 = .ok (.iload_n 2, 1) := by decide +kernel
theorem d_date_168 : decode cb_date 168 = .ok (.imul, 1) := by decide +kernel
theorem d_date_169 : decode cb_date 169 = .ok (.bipush 100, 2) := by decide +kernel
theorem d_date_171 : decode cb_date 171 = .ok (.iload_n 3, 1) := by decide +kernel
theorem d_date_172 : decode cb_date 172 = .ok (.imul, 1) := by decide +kernel
theorem d_date_173 : decode cb_date 173 = .ok (.iadd, 1) := by decide +kernel
theorem d_date_174 : decode cb_date 174 = .ok (.iload 4, 2) := by decide +kernel
theorem d_date_176 : decode cb_date 176 = .ok (.iadd, 1) := by decide +kernel
theorem d_date_177 : decode cb_date 177 = .ok (.iastore, 1) := by decide +kernel
theorem d_date_178 : decode cb_date 178 = .ok (.iconst 1, 1) := by decide +kernel
theorem d_date_179 : decode cb_date 179 = .ok (.ireturn, 1) := by decide +kernel
theorem d_letterOf_0 : decode cb_letterOf 0 = .ok (.iload_n 2, 1) := by decide +kernel
theorem d_letterOf_1 : decode cb_letterOf 1 = .ok (.tableswitch 79 0 3 #[31, 43, 55, 67], 31) := by decide +kernel
theorem d_letterOf_32 : decode cb_letterOf 32 = .ok (.iload_n 1, 1) := by decide +kernel
theorem d_letterOf_33 : decode cb_letterOf 33 = .ok (.ifCond .eq 8, 3) := by decide +kernel
theorem d_letterOf_36 : decode cb_letterOf 36 = .ok (.bipush 116, 2) := by decide +kernel
theorem d_letterOf_38 : decode cb_letterOf 38 = .ok (.goto 5, 3) := by decide +kernel
theorem d_letterOf_41 : decode cb_letterOf 41 = .ok (.bipush 102, 2) := by decide +kernel
theorem d_letterOf_43 : decode cb_letterOf 43 = .ok (.ireturn, 1) := by decide +kernel
theorem d_letterOf_44 : decode cb_letterOf 44 = .ok (.iload_n 1, 1) := by decide +kernel
theorem d_letterOf_45 : decode cb_letterOf 45 = .ok (.ifCond .eq 8, 3) := by decide +kernel
theorem d_letterOf_48 : decode cb_letterOf 48 = .ok (.bipush 114, 2) := by decide +kernel
theorem d_letterOf_50 : decode cb_letterOf 50 = .ok (.goto 5, 3) := by decide +kernel
theorem d_letterOf_53 : decode cb_letterOf 53 = .ok (.bipush 97, 2) := by decide +kernel
theorem d_letterOf_55 : decode cb_letterOf 55 = .ok (.ireturn, 1) := by decide +kernel
theorem d_letterOf_56 : decode cb_letterOf 56 = .ok (.iload_n 1, 1) := by decide +kernel
theorem d_letterOf_57 : decode cb_letterOf 57 = .ok (.ifCond .eq 8, 3) := by decide +kernel
theorem d_letterOf_60 : decode cb_letterOf 60 = .ok (.bipush 117, 2) := by decide +kernel
theorem d_letterOf_62 : decode cb_letterOf 62 = .ok (.goto 5, 3) := by decide +kernel
theorem d_letterOf_65 : decode cb_letterOf 65 = .ok (.bipush 108, 2) := by decide +kernel
theorem d_letterOf_67 : decode cb_letterOf 67 = .ok (.ireturn, 1) := by decide +kernel
theorem d_letterOf_68 : decode cb_letterOf 68 = .ok (.iload_n 1, 1) := by decide +kernel
theorem d_letterOf_69 : decode cb_letterOf 69 = .ok (.ifCond .eq 8, 3) := by decide +kernel
theorem d_letterOf_72 : decode cb_letterOf 72 = .ok (.bipush 101, 2) := by decide +kernel
theorem d_letterOf_74 : decode cb_letterOf 74 = .ok (.goto 5, 3) := by decide +kernel
theorem d_letterOf_77 : decode cb_letterOf 77 = .ok (.bipush 115, 2) := by decide +kernel
theorem d_letterOf_79 : decode cb_letterOf 79 = .ok (.ireturn, 1) := by decide +kernel
theorem d_letterOf_80 : decode cb_letterOf 80 = .ok (.bipush 101, 2) := by decide +kernel
theorem d_letterOf_82 : decode cb_letterOf 82 = .ok (.ireturn, 1) := by decide +kernel
theorem d_truth_0 : decode cb_truth 0 = .ok (.aload_n 0, 1) := by decide +kernel
theorem d_truth_1 : decode cb_truth 1 = .ok (.invokevirtual 82, 3) := by decide +kernel
theorem d_truth_4 : decode cb_truth 4 = .ok (.bipush 116, 2) := by decide +kernel
theorem d_truth_6 : decode cb_truth 6 = .ok (.if_icmp .ne 7, 3) := by decide +kernel
theorem d_truth_9 : decode cb_truth 9 = .ok (.iconst 1, 1) := by decide +kernel
theorem d_truth_10 : decode cb_truth 10 = .ok (.goto 4, 3) := by decide +kernel
theorem d_truth_13 : decode cb_truth 13 = .ok (.iconst 0, 1) := by decide +kernel
theorem d_truth_14 : decode cb_truth 14 = .ok (.istore_n 2, 1) := by decide +kernel
theorem d_truth_15 : decode cb_truth 15 = .ok (.iconst 0, 1) := by decide +kernel
theorem d_truth_16 : decode cb_truth 16 = .ok (.istore_n 3, 1) := by decide +kernel
theorem d_truth_17 : decode cb_truth 17 = .ok (.iload_n 3, 1) := by decide +kernel
theorem d_truth_18 : decode cb_truth 18 = .ok (.iload_n 2, 1) := by decide +kernel
theorem d_truth_19 : decode cb_truth 19 = .ok (.ifCond .eq 7, 3) := by decide +kernel
theorem d_truth_22 : decode cb_truth 22 = .ok (.iconst 4, 1) := by decide +kernel
theorem d_truth_23 : decode cb_truth 23 = .ok (.goto 4, 3) := by decide +kernel
theorem d_truth_26 : decode cb_truth 26 = .ok (.iconst 5, 1) := by decide +kernel
theorem d_truth_27 : decode cb_truth 27 = .ok (.if_icmp .ge 41, 3) := by decide +kernel
theorem d_truth_30 : decode cb_truth 30 = .ok (.aload_n 0, 1) := by decide +kernel
theorem d_truth_31 : decode cb_truth 31 = .ok (.invokevirtual 82, 3) := by decide +kernel
theorem d_truth_34 : decode cb_truth 34 = .ok (.aload_n 0, 1) := by decide +kernel
theorem d_truth_35 : decode cb_truth 35 = .ok (.iload_n 2, 1) := by decide +kernel
theorem d_truth_36 : decode cb_truth 36 = .ok (.iload_n 3, 1) := by decide +kernel
theorem d_truth_37 : decode cb_truth 37 = .ok (.invokevirtual 160, 3) := by decide +kernel
theorem d_truth_40 : decode cb_truth 40 = .ok (.if_icmp .eq 12, 3) := by decide +kernel
theorem d_truth_43 : decode cb_truth 43 = .ok (.aload_n 0, 1) := by decide +kernel
theorem d_truth_44 : decode cb_truth 44 = .ok (.aload_n 0, 1) := by decide +kernel
theorem d_truth_45 : decode cb_truth 45 = .ok (.getfield 76, 3) := by decide +kernel
theorem d_truth_48 : decode cb_truth 48 = .ok (.invokevirtual 102, 3) := by decide +kernel
theorem d_truth_51 : decode cb_truth 51 = .ok (.ireturn, 1) := by decide +kernel
theorem d_truth_52 : decode cb_truth 52 = .ok (.aload_n 0, 1) := by decide +kernel
theorem d_truth_53 : decode cb_truth 53 = .ok (.dup, 1) := by decide +kernel
theorem d_truth_54 : decode cb_truth 54 = .ok (.getfield 76, 3) := by decide +kernel
theorem d_truth_57 : decode cb_truth 57 = .ok (.iconst 1, 1) := by decide +kernel
theorem d_truth_58 : decode cb_truth 58 = .ok (.iadd, 1) := by decide +kernel
theorem d_truth_59 : decode cb_truth 59 = .ok (.putfield 76, 3) := by decide +kernel
theorem d_truth_62 : decode cb_truth 62 = .ok (.iinc 3 1, 3) := by decide +kernel
theorem d_truth_65 : decode cb_truth 65 = .ok (.goto (-48), 3) := by decide +kernel
theorem d_truth_68 : decode cb_truth 68 = .ok (.aload_n 0, 1) := by decide +kernel
theorem d_truth_69 : decode cb_truth 69 = .ok (.getfield 16, 3) := by decide +kernel
theorem d_truth_72 : decode cb_truth 72 = .ok (.iload_n 1, 1) := by decide +kernel
theorem d_truth_73 : decode cb_truth 73 = .ok (.iconst 2, 1) := by decide +kernel
theorem d_truth_74 : decode cb_truth 74 = .ok (.iastore, 1) := by decide +kernel
theorem d_truth_75 : decode cb_truth 75 = .ok (.aload_n 0, 1) := by decide +kernel
theorem d_truth_76 : decode cb_truth 76 = .ok (.getfield 19, 3) := by decide +kernel
theorem d_truth_79 : decode cb_truth 79 = .ok (.iload_n 1, 1) := by decide +kernel
theorem d_truth_80 : decode cb_truth 80 = .ok (.iload_n 2, 1) := by decide +kernel
theorem d_truth_81 : decode cb_truth 81 = .ok (.ifCond .eq 7, 3) := by decide +kernel
theorem d_truth_84 : decode cb_truth 84 = .ok (.iconst 1, 1) := by decide +kernel
theorem d_truth_85 : decode cb_truth 85 = .ok (.goto 4, 3) := by decide +kernel
theorem d_truth_88 : decode cb_truth 88 = .ok (.iconst 0, 1) := by decide +kernel
theorem d_truth_89 : decode cb_truth 89 = .ok (.iastore, 1) := by decide +kernel
theorem d_truth_90 : decode cb_truth 90 = .ok (.iconst 1, 1) := by decide +kernel
theorem d_truth_91 : decode cb_truth 91 = .ok (.ireturn, 1) := by decide +kernel
theorem d_beginValue_0 : decode cb_beginValue 0 = .ok (.aload_n 0, 1) := by decide +kernel
theorem d_beginValue_1 : decode cb_beginValue 1 = .ok (.invokevirtual 82, 3) := by decide +kernel
theorem d_beginValue_4 : decode cb_beginValue 4 = .ok (.istore_n 3, 1) := by decide +kernel
theorem d_beginValue_5 : decode cb_beginValue 5 = .ok (.aload_n 0, 1) := by decide +kernel
theorem d_beginValue_6 : decode cb_beginValue 6 = .ok (.iload_n 3, 1) := by decide +kernel
theorem d_beginValue_7 : decode cb_beginValue 7 = .ok (.invokevirtual 89, 3) := by decide +kernel
theorem d_beginValue_10 : decode cb_beginValue 10 = .ok (.ifCond .ne 15, 3) := by decide +kernel
theorem d_beginValue_13 : decode cb_beginValue 13 = .ok (.iload_n 3, 1) := by decide +kernel
theorem d_beginValue_14 : decode cb_beginValue 14 = .ok (.bipush 43, 2) := by decide +kernel
theorem d_beginValue_16 : decode cb_beginValue 16 = .ok (.if_icmp .eq 9, 3) := by decide +kernel
theorem d_beginValue_19 : decode cb_beginValue 19 = .ok (.iload_n 3, 1) := by decide +kernel
theorem d_beginValue_20 : decode cb_beginValue 20 = .ok (.bipush 45, 2) := by decide +kernel
theorem d_beginValue_22 : decode cb_beginValue 22 = .ok (.if_icmp .ne 7, 3) := by decide +kernel
theorem d_beginValue_25 : decode cb_beginValue 25 = .ok (.iconst 1, 1) := by decide +kernel
theorem d_beginValue_26 : decode cb_beginValue 26 = .ok (.goto 4, 3) := by decide +kernel
theorem d_beginValue_29 : decode cb_beginValue 29 = .ok (.iconst 0, 1) := by decide +kernel
theorem d_beginValue_30 : decode cb_beginValue 30 = .ok (.istore 4, 2) := by decide +kernel
theorem d_beginValue_32 : decode cb_beginValue 32 = .ok (.iload_n 3, 1) := by decide +kernel
theorem d_beginValue_33 : decode cb_beginValue 33 = .ok (.bipush 91, 2) := by decide +kernel
theorem d_beginValue_35 : decode cb_beginValue 35 = .ok (.if_icmp .eq 9, 3) := by decide +kernel
theorem d_beginValue_38 : decode cb_beginValue 38 = .ok (.iload_n 3, 1) := by decide +kernel
theorem d_beginValue_39 : decode cb_beginValue 39 = .ok (.bipush 123, 2) := by decide +kernel
theorem d_beginValue_41 : decode cb_beginValue 41 = .ok (.if_icmp .ne 7, 3) := by decide +kernel
theorem d_beginValue_44 : decode cb_beginValue 44 = .ok (.iconst 1, 1) := by decide +kernel
theorem d_beginValue_45 : decode cb_beginValue 45 = .ok (.goto 4, 3) := by decide +kernel
theorem d_beginValue_48 : decode cb_beginValue 48 = .ok (.iconst 0, 1) := by decide +kernel
theorem d_beginValue_49 : decode cb_beginValue 49 = .ok (.istore 5, 2) := by decide +kernel
theorem d_beginValue_51 : decode cb_beginValue 51 = .ok (.iload 4, 2) := by decide +kernel
theorem d_beginValue_53 : decode cb_beginValue 53 = .ok (.ifCond .ne 32, 3) := by decide +kernel
theorem d_beginValue_56 : decode cb_beginValue 56 = .ok (.iload 5, 2) := by decide +kernel
theorem d_beginValue_58 : decode cb_beginValue 58 = .ok (.ifCond .ne 27, 3) := by decide +kernel
theorem d_beginValue_61 : decode cb_beginValue 61 = .ok (.iload_n 3, 1) := by decide +kernel
theorem d_beginValue_62 : decode cb_beginValue 62 = .ok (.bipush 116, 2) := by decide +kernel
theorem d_beginValue_64 : decode cb_beginValue 64 = .ok (.if_icmp .eq 21, 3) := by decide +kernel
theorem d_beginValue_67 : decode cb_beginValue 67 = .ok (.iload_n 3, 1) := by decide +kernel
theorem d_beginValue_68 : decode cb_beginValue 68 = .ok (.bipush 102, 2) := by decide +kernel
theorem d_beginValue_70 : decode cb_beginValue 70 = .ok (.if_icmp .eq 15, 3) := by decide +kernel
theorem d_beginValue_73 : decode cb_beginValue 73 = .ok (.iload_n 3, 1) := by decide +kernel
theorem d_beginValue_74 : decode cb_beginValue 74 = .ok (.bipush 34, 2) := by decide +kernel
theorem d_beginValue_76 : decode cb_beginValue 76 = .ok (.if_icmp .eq 9, 3) := by decide +kernel
theorem d_beginValue_79 : decode cb_beginValue 79 = .ok (.iload_n 3, 1) := by decide +kernel
theorem d_beginValue_80 : decode cb_beginValue 80 = .ok (.bipush 39, 2) := by decide +kernel
theorem d_beginValue_82 : decode cb_beginValue 82 = .ok (.if_icmp .ne 17, 3) := by decide +kernel
theorem d_beginValue_85 : decode cb_beginValue 85 = .ok (.iload 5, 2) := by decide +kernel
theorem d_beginValue_87 : decode cb_beginValue 87 = .ok (.ifCond .eq 21, 3) := by decide +kernel
theorem d_beginValue_90 : decode cb_beginValue 90 = .ok (.aload_n 0, 1) := by decide +kernel
theorem d_beginValue_91 : decode cb_beginValue 91 = .ok (.getfield 164, 3) := by decide +kernel
theorem d_beginValue_94 : decode cb_beginValue 94 = .ok (.bipush 6, 2) := by decide +kernel
theorem d_beginValue_96 : decode cb_beginValue 96 = .ok (.if_icmp .ne 12, 3) := by decide +kernel
theorem d_beginValue_99 : decode cb_beginValue 99 = .ok (.aload_n 0, 1) := by decide +kernel
theorem d_beginValue_100 : decode cb_beginValue 100 = .ok (.aload_n 0, 1) := by decide +kernel
theorem d_beginValue_101 : decode cb_beginValue 101 = .ok (.getfield 76, 3) := by decide +kernel
theorem d_beginValue_104 : decode cb_beginValue 104 = .ok (.invokevirtual 102, 3) := by decide +kernel
theorem d_beginValue_107 : decode cb_beginValue 107 = .ok (.ireturn, 1) := by decide +kernel
theorem d_beginValue_108 : decode cb_beginValue 108 = .ok (.aload_n 0, 1) := by decide +kernel
theorem d_beginValue_109 : decode cb_beginValue 109 = .ok (.iconst 0, 1) := by decide +kernel
theorem d_beginValue_110 : decode cb_beginValue 110 = .ok (.iload_n 1, 1) := by decide +kernel
theorem d_beginValue_111 : decode cb_beginValue 111 = .ok (.invokevirtual 136, 3) := by decide +kernel
theorem d_beginValue_114 : decode cb_beginValue 114 = .ok (.istore 6, 2) := by decide +kernel
theorem d_beginValue_116 : decode cb_beginValue 116 = .ok (.iload_n 2, 1) := by decide +kernel
theorem d_beginValue_117 : decode cb_beginValue 117 = .ok (.iconst (-1), 1) := by decide +kernel
theorem d_beginValue_118 : decode cb_beginValue 118 = .ok (.if_icmp .eq 11, 3) := by decide +kernel
theorem d_beginValue_121 : decode cb_beginValue 121 = .ok (.aload_n 0, 1) := by decide +kernel
theorem d_beginValue_122 : decode cb_beginValue 122 = .ok (.iload 6, 2) := by decide +kernel
theorem d_beginValue_124 : decode cb_beginValue 124 = .ok (.iload_n 2, 1) := by decide +kernel
theorem d_beginValue_125 : decode cb_beginValue 125 = .ok (.invokevirtual 139, 3) := by decide +kernel
theorem d_beginValue_128 : decode cb_beginValue 128 = .ok (.pop, 1) := by decide +kernel
theorem d_beginValue_129 : decode cb_beginValue 129 = .ok (.iload 5, 2) := by decide +kernel
theorem d_beginValue_131 : decode cb_beginValue 131 = .ok (.ifCond .eq 65, 3) := by decide +kernel
theorem d_beginValue_134 : decode cb_beginValue 134 = .ok (.aload_n 0, 1) := by decide +kernel
theorem d_beginValue_135 : decode cb_beginValue 135 = .ok (.getfield 16, 3) := by decide +kernel
theorem d_beginValue_138 : decode cb_beginValue 138 = .ok (.iload 6, 2) := by decide +kernel
theorem d_beginValue_140 : decode cb_beginValue 140 = .ok (.iload_n 3, 1) := by decide +kernel
theorem d_beginValue_141 : decode cb_beginValue 141 = .ok (.bipush 91, 2) := by decide +kernel
theorem d_beginValue_143 : decode cb_beginValue 143 = .ok (.if_icmp .ne 7, 3) := by decide +kernel
theorem d_beginValue_146 : decode cb_beginValue 146 = .ok (.iconst 5, 1) := by decide +kernel
theorem d_beginValue_147 : decode cb_beginValue 147 = .ok (.goto 5, 3) := by decide +kernel
theorem d_beginValue_150 : decode cb_beginValue 150 = .ok (.bipush 10, 2) := by decide +kernel
theorem d_beginValue_152 : decode cb_beginValue 152 = .ok (.iastore, 1) := by decide +kernel
theorem d_beginValue_153 : decode cb_beginValue 153 = .ok (.aload_n 0, 1) := by decide +kernel
theorem d_beginValue_154 : decode cb_beginValue 154 = .ok (.getfield 58, 3) := by decide +kernel
theorem d_beginValue_157 : decode cb_beginValue 157 = .ok (.aload_n 0, 1) := by decide +kernel
theorem d_beginValue_158 : decode cb_beginValue 158 = .ok (.getfield 164, 3) := by decide +kernel
theorem d_beginValue_161 : decode cb_beginValue 161 = .ok (.iload 6, 2) := by decide +kernel
theorem d_beginValue_163 : decode cb_beginValue 163 = .ok (.iastore, 1) := by decide +kernel
theorem d_beginValue_164 : decode cb_beginValue 164 = .ok (.aload_n 0, 1) := by decide +kernel
theorem d_beginValue_165 : decode cb_beginValue 165 = .ok (.getfield 61, 3) := by decide +kernel
theorem d_beginValue_168 : decode cb_beginValue 168 = .ok (.aload_n 0, 1) := by decide +kernel
theorem d_beginValue_169 : decode cb_beginValue 169 = .ok (.getfield 164, 3) := by decide +kernel
theorem d_beginValue_172 : decode cb_beginValue 172 = .ok (.iconst 0, 1) := by decide +kernel
theorem d_beginValue_173 : decode cb_beginValue 173 = .ok (.iastore, 1) := by decide +kernel
theorem d_beginValue_174 : decode cb_beginValue 174 = .ok (.aload_n 0, 1) := by decide +kernel
theorem d_beginValue_175 : decode cb_beginValue 175 = .ok (.dup, 1) := by decide +kernel
theorem d_beginValue_176 : decode cb_beginValue 176 = .ok (.getfield 164, 3) := by decide +kernel
theorem d_beginValue_179 : decode cb_beginValue 179 = .ok (.iconst 1, 1) := by decide +kernel
theorem d_beginValue_180 : decode cb_beginValue 180 = .ok (.iadd, 1) := by decide +kernel
theorem d_beginValue_181 : decode cb_beginValue 181 = .ok (.putfield 164, 3) := by decide +kernel
theorem d_beginValue_184 : decode cb_beginValue 184 = .ok (.aload_n 0, 1) := by decide +kernel
theorem d_beginValue_185 : decode cb_beginValue 185 = .ok (.dup, 1) := by decide +kernel
theorem d_beginValue_186 : decode cb_beginValue 186 = .ok (.getfield 76, 3) := by decide +kernel
theorem d_beginValue_189 : decode cb_beginValue 189 = .ok (.iconst 1, 1) := by decide +kernel
theorem d_beginValue_190 : decode cb_beginValue 190 = .ok (.iadd, 1) := by decide +kernel
theorem d_beginValue_191 : decode cb_beginValue 191 = .ok (.putfield 76, 3) := by decide +kernel
theorem d_beginValue_194 : decode cb_beginValue 194 = .ok (.iconst 1, 1) := by decide +kernel
theorem d_beginValue_195 : decode cb_beginValue 195 = .ok (.ireturn, 1) := by decide +kernel
theorem d_beginValue_196 : decode cb_beginValue 196 = .ok (.iload 4, 2) := by decide +kernel
theorem d_beginValue_198 : decode cb_beginValue 198 = .ok (.ifCond .eq 26, 3) := by decide +kernel
theorem d_beginValue_201 : decode cb_beginValue 201 = .ok (.aload_n 0, 1) := by decide +kernel
theorem d_beginValue_202 : decode cb_beginValue 202 = .ok (.invokevirtual 167, 3) := by decide +kernel
theorem d_beginValue_205 : decode cb_beginValue 205 = .ok (.ifCond .eq 12, 3) := by decide +kernel
theorem d_beginValue_208 : decode cb_beginValue 208 = .ok (.aload_n 0, 1) := by decide +kernel
theorem d_beginValue_209 : decode cb_beginValue 209 = .ok (.iload 6, 2) := by decide +kernel
theorem d_beginValue_211 : decode cb_beginValue 211 = .ok (.invokevirtual 170, 3) := by decide +kernel
theorem d_beginValue_214 : decode cb_beginValue 214 = .ok (.goto 9, 3) := by decide +kernel
theorem d_beginValue_217 : decode cb_beginValue 217 = .ok (.aload_n 0, 1) := by decide +kernel
theorem d_beginValue_218 : decode cb_beginValue 218 = .ok (.iload 6, 2) := by decide +kernel
theorem d_beginValue_220 : decode cb_beginValue 220 = .ok (.invokevirtual 173, 3) := by decide +kernel
theorem d_beginValue_223 : decode cb_beginValue 223 = .ok (.ireturn, 1) := by decide +kernel
theorem d_beginValue_224 : decode cb_beginValue 224 = .ok (.iload_n 3, 1) := by decide +kernel
theorem d_beginValue_225 : decode cb_beginValue 225 = .ok (.bipush 34, 2) := by decide +kernel
theorem d_beginValue_227 : decode cb_beginValue 227 = .ok (.if_icmp .eq 9, 3) := by decide +kernel
theorem d_beginValue_230 : decode cb_beginValue 230 = .ok (.iload_n 3, 1) := by decide +kernel
theorem d_beginValue_231 : decode cb_beginValue 231 = .ok (.bipush 39, 2) := by decide +kernel
theorem d_beginValue_233 : decode cb_beginValue 233 = .ok (.if_icmp .ne 42, 3) := by decide +kernel
theorem d_beginValue_236 : decode cb_beginValue 236 = .ok (.aload_n 0, 1) := by decide +kernel
theorem d_beginValue_237 : decode cb_beginValue 237 = .ok (.invokevirtual 122, 3) := by decide +kernel
theorem d_beginValue_240 : decode cb_beginValue 240 = .ok (.istore 7, 2) := by decide +kernel
theorem d_beginValue_242 : decode cb_beginValue 242 = .ok (.aload_n 0, 1) := by decide +kernel
theorem d_beginValue_243 : decode cb_beginValue 243 = .ok (.getfield 16, 3) := by decide +kernel
theorem d_beginValue_246 : decode cb_beginValue 246 = .ok (.iload 6, 2) := by decide +kernel
theorem d_beginValue_248 : decode cb_beginValue 248 = .ok (.iconst 3, 1) := by decide +kernel
theorem d_beginValue_249 : decode cb_beginValue 249 = .ok (.iastore, 1) := by decide +kernel
theorem d_beginValue_250 : decode cb_beginValue 250 = .ok (.aload_n 0, 1) := by decide +kernel
theorem d_beginValue_251 : decode cb_beginValue 251 = .ok (.getfield 19, 3) := by decide +kernel
theorem d_beginValue_254 : decode cb_beginValue 254 = .ok (.iload 6, 2) := by decide +kernel
theorem d_beginValue_256 : decode cb_beginValue 256 = .ok (.aload_n 0, 1) := by decide +kernel
theorem d_beginValue_257 : decode cb_beginValue 257 = .ok (.getfield 96, 3) := by decide +kernel
theorem d_beginValue_260 : decode cb_beginValue 260 = .ok (.iastore, 1) := by decide +kernel
theorem d_beginValue_261 : decode cb_beginValue 261 = .ok (.aload_n 0, 1) := by decide +kernel
theorem d_beginValue_262 : decode cb_beginValue 262 = .ok (.getfield 34, 3) := by decide +kernel
theorem d_beginValue_265 : decode cb_beginValue 265 = .ok (.iload 6, 2) := by decide +kernel
theorem d_beginValue_267 : decode cb_beginValue 267 = .ok (.aload_n 0, 1) := by decide +kernel
theorem d_beginValue_268 : decode cb_beginValue 268 = .ok (.getfield 99, 3) := by decide +kernel
theorem d_beginValue_271 : decode cb_beginValue 271 = .ok (.iastore, 1) := by decide +kernel
theorem d_beginValue_272 : decode cb_beginValue 272 = .ok (.iload 7, 2) := by decide +kernel
theorem d_beginValue_274 : decode cb_beginValue 274 = .ok (.ireturn, 1) := by decide +kernel
theorem d_beginValue_275 : decode cb_beginValue 275 = .ok (.aload_n 0, 1) := by decide +kernel
theorem d_beginValue_276 : decode cb_beginValue 276 = .ok (.iload 6, 2) := by decide +kernel
theorem d_beginValue_278 : decode cb_beginValue 278 = .ok (.invokevirtual 176, 3) := by decide +kernel
theorem d_beginValue_281 : decode cb_beginValue 281 = .ok (.ireturn, 1) := by decide +kernel
theorem d_stepList_0 : decode cb_stepList 0 = .ok (.aload_n 0, 1) := by decide +kernel
theorem d_stepList_1 : decode cb_stepList 1 = .ok (.getfield 58, 3) := by decide +kernel
theorem d_stepList_4 : decode cb_stepList 4 = .ok (.iload_n 1, 1) := by decide +kernel
theorem d_stepList_5 : decode cb_stepList 5 = .ok (.iaload, 1) := by decide +kernel
theorem d_stepList_6 : decode cb_stepList 6 = .ok (.istore_n 2, 1) := by decide +kernel
theorem d_stepList_7 : decode cb_stepList 7 = .ok (.aload_n 0, 1) := by decide +kernel
theorem d_stepList_8 : decode cb_stepList 8 = .ok (.invokevirtual 179, 3) := by decide +kernel
theorem d_stepList_11 : decode cb_stepList 11 = .ok (.aload_n 0, 1) := by decide +kernel
theorem d_stepList_12 : decode cb_stepList 12 = .ok (.invokevirtual 82, 3) := by decide +kernel
theorem d_stepList_15 : decode cb_stepList 15 = .ok (.bipush 93, 2) := by decide +kernel
theorem d_stepList_17 : decode cb_stepList 17 = .ok (.if_icmp .ne 25, 3) := by decide +kernel
theorem d_stepList_20 : decode cb_stepList 20 = .ok (.aload_n 0, 1) := by decide +kernel
theorem d_stepList_21 : decode cb_stepList 21 = .ok (.dup, 1) := by decide +kernel
theorem d_stepList_22 : decode cb_stepList 22 = .ok (.getfield 76, 3) := by decide +kernel
theorem d_stepList_25 : decode cb_stepList 25 = .ok (.iconst 1, 1) := by decide +kernel
theorem d_stepList_26 : decode cb_stepList 26 = .ok (.iadd, 1) := by decide +kernel
theorem d_stepList_27 : decode cb_stepList 27 = .ok (.putfield 76, 3) := by decide +kernel
theorem d_stepList_30 : decode cb_stepList 30 = .ok (.aload_n 0, 1) := by decide +kernel
theorem d_stepList_31 : decode cb_stepList 31 = .ok (.dup, 1) := by decide +kernel
theorem d_stepList_32 : decode cb_stepList 32 = .ok (.getfield 164, 3) := by decide +kernel
theorem d_stepList_35 : decode cb_stepList 35 = .ok (.iconst 1, 1) := by decide +kernel
theorem d_stepList_36 : decode cb_stepList 36 = .ok (.isub, 1) := by decide +kernel
theorem d_stepList_37 : decode cb_stepList 37 = .ok (.putfield 164, 3) := by decide +kernel
theorem d_stepList_40 : decode cb_stepList 40 = .ok (.iconst 1, 1) := by decide +kernel
theorem d_stepList_41 : decode cb_stepList 41 = .ok (.ireturn, 1) := by decide +kernel
theorem d_stepList_42 : decode cb_stepList 42 = .ok (.aload_n 0, 1) := by decide +kernel
theorem d_stepList_43 : decode cb_stepList 43 = .ok (.getfield 61, 3) := by decide +kernel
theorem d_stepList_46 : decode cb_stepList 46 = .ok (.iload_n 1, 1) := by decide +kernel
theorem d_stepList_47 : decode cb_stepList 47 = .ok (.iaload, 1) := by decide +kernel
theorem d_stepList_48 : decode cb_stepList 48 = .ok (.iconst 1, 1) := by decide +kernel
theorem d_stepList_49 : decode cb_stepList 49 = .ok (.if_icmp .ne 40, 3) := by decide +kernel
theorem d_stepList_52 : decode cb_stepList 52 = .ok (.aload_n 0, 1) := by decide +kernel
theorem d_stepList_53 : decode cb_stepList 53 = .ok (.invokevirtual 82, 3) := by decide +kernel
theorem d_stepList_56 : decode cb_stepList 56 = .ok (.bipush 44, 2) := by decide +kernel
theorem d_stepList_58 : decode cb_stepList 58 = .ok (.if_icmp .eq 12, 3) := by decide +kernel
theorem d_stepList_61 : decode cb_stepList 61 = .ok (.aload_n 0, 1) := by decide +kernel
theorem d_stepList_62 : decode cb_stepList 62 = .ok (.aload_n 0, 1) := by decide +kernel
theorem d_stepList_63 : decode cb_stepList 63 = .ok (.getfield 76, 3) := by decide +kernel
theorem d_stepList_66 : decode cb_stepList 66 = .ok (.invokevirtual 102, 3) := by decide +kernel
theorem d_stepList_69 : decode cb_stepList 69 = .ok (.ireturn, 1) := by decide +kernel
theorem d_stepList_70 : decode cb_stepList 70 = .ok (.aload_n 0, 1) := by decide +kernel
theorem d_stepList_71 : decode cb_stepList 71 = .ok (.dup, 1) := by decide +kernel
theorem d_stepList_72 : decode cb_stepList 72 = .ok (.getfield 76, 3) := by decide +kernel
theorem d_stepList_75 : decode cb_stepList 75 = .ok (.iconst 1, 1) := by decide +kernel
theorem d_stepList_76 : decode cb_stepList 76 = .ok (.iadd, 1) := by decide +kernel
theorem d_stepList_77 : decode cb_stepList 77 = .ok (.putfield 76, 3) := by decide +kernel
theorem d_stepList_80 : decode cb_stepList 80 = .ok (.aload_n 0, 1) := by decide +kernel
theorem d_stepList_81 : decode cb_stepList 81 = .ok (.getfield 61, 3) := by decide +kernel
theorem d_stepList_84 : decode cb_stepList 84 = .ok (.iload_n 1, 1) := by decide +kernel
theorem d_stepList_85 : decode cb_stepList 85 = .ok (.iconst 0, 1) := by decide +kernel
theorem d_stepList_86 : decode cb_stepList 86 = .ok (.iastore, 1) := by decide +kernel
theorem d_stepList_87 : decode cb_stepList 87 = .ok (.iconst 1, 1) := by decide +kernel
theorem d_stepList_88 : decode cb_stepList 88 = .ok (.ireturn, 1) := by decide +kernel
theorem d_stepList_89 : decode cb_stepList 89 = .ok (.aload_n 0, 1) := by decide +kernel
theorem d_stepList_90 : decode cb_stepList 90 = .ok (.getfield 61, 3) := by decide +kernel
theorem d_stepList_93 : decode cb_stepList 93 = .ok (.iload_n 1, 1) := by decide +kernel
theorem d_stepList_94 : decode cb_stepList 94 = .ok (.iconst 1, 1) := by decide +kernel
theorem d_stepList_95 : decode cb_stepList 95 = .ok (.iastore, 1) := by decide +kernel
theorem d_stepList_96 : decode cb_stepList 96 = .ok (.aload_n 0, 1) := by decide +kernel
theorem d_stepList_97 : decode cb_stepList 97 = .ok (.iload_n 2, 1) := by decide +kernel
theorem d_stepList_98 : decode cb_stepList 98 = .ok (.iconst (-1), 1) := by decide +kernel
theorem d_stepList_99 : decode cb_stepList 99 = .ok (.invokevirtual 182, 3) := by decide +kernel
theorem d_stepList_102 : decode cb_stepList 102 = .ok (.ireturn, 1) := by decide +kernel
theorem d_entry_0 : decode cb_entry 0 = .ok (.aload_n 0, 1) := by decide +kernel
theorem d_entry_1 : decode cb_entry 1 = .ok (.invokevirtual 185, 3) := by decide +kernel
theorem d_entry_4 : decode cb_entry 4 = .ok (.ifCond .ne 5, 3) := by decide +kernel
theorem d_entry_7 : decode cb_entry 7 = .ok (.iconst 0, 1) := by decide +kernel
theorem d_entry_8 : decode cb_entry 8 = .ok (.ireturn, 1) := by decide +kernel
theorem d_entry_9 : decode cb_entry 9 = .ok (.aload_n 0, 1) := by decide +kernel
theorem d_entry_10 : decode cb_entry 10 = .ok (.iload_n 1, 1) := by decide +kernel
theorem d_entry_11 : decode cb_entry 11 = .ok (.invokevirtual 188, 3) := by decide +kernel
theorem d_entry_14 : decode cb_entry 14 = .ok (.istore_n 2, 1) := by decide +kernel
theorem d_entry_15 : decode cb_entry 15 = .ok (.iload_n 2, 1) := by decide +kernel
theorem d_entry_16 : decode cb_entry 16 = .ok (.iconst (-1), 1) := by decide +kernel
theorem d_entry_17 : decode cb_entry 17 = .ok (.if_icmp .ne 5, 3) := by decide +kernel
theorem d_entry_20 : decode cb_entry 20 = .ok (.iconst 0, 1) := by decide +kernel
theorem d_entry_21 : decode cb_entry 21 = .ok (.ireturn, 1) := by decide +kernel
theorem d_entry_22 : decode cb_entry 22 = .ok (.aload_n 0, 1) := by decide +kernel
theorem d_entry_23 : decode cb_entry 23 = .ok (.invokevirtual 82, 3) := by decide +kernel
theorem d_entry_26 : decode cb_entry 26 = .ok (.bipush 61, 2) := by decide +kernel
theorem d_entry_28 : decode cb_entry 28 = .ok (.if_icmp .eq 12, 3) := by decide +kernel
theorem d_entry_31 : decode cb_entry 31 = .ok (.aload_n 0, 1) := by decide +kernel
theorem d_entry_32 : decode cb_entry 32 = .ok (.aload_n 0, 1) := by decide +kernel
theorem d_entry_33 : decode cb_entry 33 = .ok (.getfield 76, 3) := by decide +kernel
theorem d_entry_36 : decode cb_entry 36 = .ok (.invokevirtual 102, 3) := by decide +kernel
theorem d_entry_39 : decode cb_entry 39 = .ok (.ireturn, 1) := by decide +kernel
theorem d_entry_40 : decode cb_entry 40 = .ok (.aload_n 0, 1) := by decide +kernel
theorem d_entry_41 : decode cb_entry 41 = .ok (.dup, 1) := by decide +kernel
theorem d_entry_42 : decode cb_entry 42 = .ok (.getfield 76, 3) := by decide +kernel
theorem d_entry_45 : decode cb_entry 45 = .ok (.iconst 1, 1) := by decide +kernel
theorem d_entry_46 : decode cb_entry 46 = .ok (.iadd, 1) := by decide +kernel
theorem d_entry_47 : decode cb_entry 47 = .ok (.putfield 76, 3) := by decide +kernel
theorem d_entry_50 : decode cb_entry 50 = .ok (.aload_n 0, 1) := by decide +kernel
theorem d_entry_51 : decode cb_entry 51 = .ok (.invokevirtual 129, 3) := by decide +kernel
theorem d_entry_54 : decode cb_entry 54 = .ok (.aload_n 0, 1) := by decide +kernel
theorem d_entry_55 : decode cb_entry 55 = .ok (.iload_n 2, 1) := by decide +kernel
theorem d_entry_56 : decode cb_entry 56 = .ok (.aload_n 0, 1) := by decide +kernel
theorem d_entry_57 : decode cb_entry 57 = .ok (.getfield 119, 3) := by decide +kernel
theorem d_entry_60 : decode cb_entry 60 = .ok (.iconst 1, 1) := by decide +kernel
theorem d_entry_61 : decode cb_entry 61 = .ok (.isub, 1) := by decide +kernel
theorem d_entry_62 : decode cb_entry 62 = .ok (.invokevirtual 182, 3) := by decide +kernel
theorem d_entry_65 : decode cb_entry 65 = .ok (.ireturn, 1) := by decide +kernel
theorem d_stepTable_0 : decode cb_stepTable 0 = .ok (.aload_n 0, 1) := by decide +kernel
theorem d_stepTable_1 : decode cb_stepTable 1 = .ok (.getfield 58, 3) := by decide +kernel
theorem d_stepTable_4 : decode cb_stepTable 4 = .ok (.iload_n 1, 1) := by decide +kernel
theorem d_stepTable_5 : decode cb_stepTable 5 = .ok (.iaload, 1) := by decide +kernel
theorem d_stepTable_6 : decode cb_stepTable 6 = .ok (.istore_n 2, 1) := by decide +kernel
theorem d_stepTable_7 : decode cb_stepTable 7 = .ok (.aload_n 0, 1) := by decide +kernel
theorem d_stepTable_8 : decode cb_stepTable 8 = .ok (.invokevirtual 129, 3) := by decide +kernel
theorem d_stepTable_11 : decode cb_stepTable 11 = .ok (.aload_n 0, 1) := by decide +kernel
theorem d_stepTable_12 : decode cb_stepTable 12 = .ok (.invokevirtual 82, 3) := by decide +kernel
theorem d_stepTable_15 : decode cb_stepTable 15 = .ok (.bipush 125, 2) := by decide +kernel
theorem d_stepTable_17 : decode cb_stepTable 17 = .ok (.if_icmp .ne 95, 3) := by decide +kernel
theorem d_stepTable_20 : decode cb_stepTable 20 = .ok (.aload_n 0, 1) := by decide +kernel
theorem d_stepTable_21 : decode cb_stepTable 21 = .ok (.getfield 61, 3) := by decide +kernel
theorem d_stepTable_24 : decode cb_stepTable 24 = .ok (.iload_n 1, 1) := by decide +kernel
theorem d_stepTable_25 : decode cb_stepTable 25 = .ok (.iaload, 1) := by decide +kernel
theorem d_stepTable_26 : decode cb_stepTable 26 = .ok (.iconst 2, 1) := by decide +kernel
theorem d_stepTable_27 : decode cb_stepTable 27 = .ok (.if_icmp .ge 85, 3) := by decide +kernel
theorem d_stepTable_30 : decode cb_stepTable 30 = .ok (.aload_n 0, 1) := by decide +kernel
theorem d_stepTable_31 : decode cb_stepTable 31 = .ok (.dup, 1) := by decide +kernel
