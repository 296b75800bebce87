theorem d_stepTable_32 : decode cb_stepTable 32 = .ok (.getfield 76, 3) := by decide +kernel
theorem d_stepTable_35 : decode cb_stepTable 35 = .ok (.iconst 1, 1) := by decide +kernel
theorem d_stepTable_36 : decode cb_stepTable 36 = .ok (.iadd, 1) := by decide +kernel
theorem d_stepTable_37 : decode cb_stepTable 37 = .ok (.putfield 76, 3) := by decide +kernel
theorem d_stepTable_40 : decode cb_stepTable 40 = .ok (.aload_n 0, 1) := by decide +kernel
theorem d_stepTable_41 : decode cb_stepTable 41 = .ok (.dup, 1) := by decide +kernel
theorem d_stepTable_42 : decode cb_stepTable 42 = .ok (.getfield 164, 3) := by decide +kernel
theorem d_stepTable_45 : decode cb_stepTable 45 = .ok (.iconst 1, 1) := by decide +kernel
theorem d_stepTable_46 : decode cb_stepTable 46 = .ok (.isub, 1) := by decide +kernel
theorem d_stepTable_47 : decode cb_stepTable 47 = .ok (.putfield 164, 3) := by decide +kernel
theorem d_stepTable_50 : decode cb_stepTable 50 = .ok (.iload_n 2, 1) := by decide +kernel
theorem d_stepTable_51 : decode cb_stepTable 51 = .ok (.iconst 1, 1) := by decide +kernel
theorem d_stepTable_52 : decode cb_stepTable 52 = .ok (.iadd, 1) := by decide +kernel
theorem d_stepTable_53 : decode cb_stepTable 53 = .ok (.istore_n 3, 1) := by decide +kernel
theorem d_stepTable_54 : decode cb_stepTable 54 = .ok (.iload_n 3, 1) := by decide +kernel
theorem d_stepTable_55 : decode cb_stepTable 55 = .ok (.sipush 260, 3) := by decide +kernel
theorem d_stepTable_58 : decode cb_stepTable 58 = .ok (.aload_n 0, 1) := by decide +kernel
theorem d_stepTable_59 : decode cb_stepTable 59 = .ok (.getfield 93, 3) := by decide +kernel
theorem d_stepTable_62 : decode cb_stepTable 62 = .ok (.imul, 1) := by decide +kernel
theorem d_stepTable_63 : decode cb_stepTable 63 = .ok (.aload_n 0, 1) := by decide +kernel
theorem d_stepTable_64 : decode cb_stepTable 64 = .ok (.getfield 13, 3) := by decide +kernel
theorem d_stepTable_67 : decode cb_stepTable 67 = .ok (.aload_n 0, 1) := by decide +kernel
theorem d_stepTable_68 : decode cb_stepTable 68 = .ok (.getfield 93, 3) := by decide +kernel
theorem d_stepTable_71 : decode cb_stepTable 71 = .ok (.iaload, 1) := by decide +kernel
theorem d_stepTable_72 : decode cb_stepTable 72 = .ok (.iadd, 1) := by decide +kernel
theorem d_stepTable_73 : decode cb_stepTable 73 = .ok (.if_icmp .ge 37, 3) := by decide +kernel
theorem d_stepTable_76 : decode cb_stepTable 76 = .ok (.aload_n 0, 1) := by decide +kernel
theorem d_stepTable_77 : decode cb_stepTable 77 = .ok (.getfield 16, 3) := by decide +kernel
theorem d_stepTable_80 : decode cb_stepTable 80 = .ok (.iload_n 3, 1) := by decide +kernel
theorem d_stepTable_81 : decode cb_stepTable 81 = .ok (.aload_n 0, 1) := by decide +kernel
theorem d_stepTable_82 : decode cb_stepTable 82 = .ok (.getfield 16, 3) := by decide +kernel
theorem d_stepTable_85 : decode cb_stepTable 85 = .ok (.iload_n 3, 1) := by decide +kernel
theorem d_stepTable_86 : decode cb_stepTable 86 = .ok (.iaload, 1) := by decide +kernel
theorem d_stepTable_87 : decode cb_stepTable 87 = .ok (.bipush 9, 2) := by decide +kernel
theorem d_stepTable_89 : decode cb_stepTable 89 = .ok (.if_icmp .ne 8, 3) := by decide +kernel
theorem d_stepTable_92 : decode cb_stepTable 92 = .ok (.bipush 10, 2) := by decide +kernel
theorem d_stepTable_94 : decode cb_stepTable 94 = .ok (.goto 9, 3) := by decide +kernel
theorem d_stepTable_97 : decode cb_stepTable 97 = .ok (.aload_n 0, 1) := by decide +kernel
theorem d_stepTable_98 : decode cb_stepTable 98 = .ok (.getfield 16, 3) := by decide +kernel
theorem d_stepTable_101 : decode cb_stepTable 101 = .ok (.iload_n 3, 1) := by decide +kernel
theorem d_stepTable_102 : decode cb_stepTable 102 = .ok (.iaload, 1) := by decide +kernel
theorem d_stepTable_103 : decode cb_stepTable 103 = .ok (.iastore, 1) := by decide +kernel
theorem d_stepTable_104 : decode cb_stepTable 104 = .ok (.iinc 3 1, 3) := by decide +kernel
theorem d_stepTable_107 : decode cb_stepTable 107 = .ok (.goto (-53), 3) := by decide +kernel
theorem d_stepTable_110 : decode cb_stepTable 110 = .ok (.iconst 1, 1) := by decide +kernel
theorem d_stepTable_111 : decode cb_stepTable 111 = .ok (.ireturn, 1) := by decide +kernel
theorem d_stepTable_112 : decode cb_stepTable 112 = .ok (.aload_n 0, 1) := by decide +kernel
theorem d_stepTable_113 : decode cb_stepTable 113 = .ok (.getfield 61, 3) := by decide +kernel
theorem d_stepTable_116 : decode cb_stepTable 116 = .ok (.iload_n 1, 1) := by decide +kernel
theorem d_stepTable_117 : decode cb_stepTable 117 = .ok (.iaload, 1) := by decide +kernel
theorem d_stepTable_118 : decode cb_stepTable 118 = .ok (.iconst 1, 1) := by decide +kernel
theorem d_stepTable_119 : decode cb_stepTable 119 = .ok (.if_icmp .ne 40, 3) := by decide +kernel
theorem d_stepTable_122 : decode cb_stepTable 122 = .ok (.aload_n 0, 1) := by decide +kernel
theorem d_stepTable_123 : decode cb_stepTable 123 = .ok (.invokevirtual 82, 3) := by decide +kernel
theorem d_stepTable_126 : decode cb_stepTable 126 = .ok (.bipush 44, 2) := by decide +kernel
theorem d_stepTable_128 : decode cb_stepTable 128 = .ok (.if_icmp .eq 12, 3) := by decide +kernel
theorem d_stepTable_131 : decode cb_stepTable 131 = .ok (.aload_n 0, 1) := by decide +kernel
theorem d_stepTable_132 : decode cb_stepTable 132 = .ok (.aload_n 0, 1) := by decide +kernel
theorem d_stepTable_133 : decode cb_stepTable 133 = .ok (.getfield 76, 3) := by decide +kernel
theorem d_stepTable_136 : decode cb_stepTable 136 = .ok (.invokevirtual 102, 3) := by decide +kernel
theorem d_stepTable_139 : decode cb_stepTable 139 = .ok (.ireturn, 1) := by decide +kernel
theorem d_stepTable_140 : decode cb_stepTable 140 = .ok (.aload_n 0, 1) := by decide +kernel
theorem d_stepTable_141 : decode cb_stepTable 141 = .ok (.dup, 1) := by decide +kernel
theorem d_stepTable_142 : decode cb_stepTable 142 = .ok (.getfield 76, 3) := by decide +kernel
theorem d_stepTable_145 : decode cb_stepTable 145 = .ok (.iconst 1, 1) := by decide +kernel
theorem d_stepTable_146 : decode cb_stepTable 146 = .ok (.iadd, 1) := by decide +kernel
theorem d_stepTable_147 : decode cb_stepTable 147 = .ok (.putfield 76, 3) := by decide +kernel
theorem d_stepTable_150 : decode cb_stepTable 150 = .ok (.aload_n 0, 1) := by decide +kernel
theorem d_stepTable_151 : decode cb_stepTable 151 = .ok (.getfield 61, 3) := by decide +kernel
theorem d_stepTable_154 : decode cb_stepTable 154 = .ok (.iload_n 1, 1) := by decide +kernel
theorem d_stepTable_155 : decode cb_stepTable 155 = .ok (.iconst 2, 1) := by decide +kernel
theorem d_stepTable_156 : decode cb_stepTable 156 = .ok (.iastore, 1) := by decide +kernel
theorem d_stepTable_157 : decode cb_stepTable 157 = .ok (.iconst 1, 1) := by decide +kernel
theorem d_stepTable_158 : decode cb_stepTable 158 = .ok (.ireturn, 1) := by decide +kernel
theorem d_stepTable_159 : decode cb_stepTable 159 = .ok (.aload_n 0, 1) := by decide +kernel
theorem d_stepTable_160 : decode cb_stepTable 160 = .ok (.getfield 61, 3) := by decide +kernel
theorem d_stepTable_163 : decode cb_stepTable 163 = .ok (.iload_n 1, 1) := by decide +kernel
theorem d_stepTable_164 : decode cb_stepTable 164 = .ok (.iconst 1, 1) := by decide +kernel
theorem d_stepTable_165 : decode cb_stepTable 165 = .ok (.iastore, 1) := by decide +kernel
theorem d_stepTable_166 : decode cb_stepTable 166 = .ok (.aload_n 0, 1) := by decide +kernel
theorem d_stepTable_167 : decode cb_stepTable 167 = .ok (.iload_n 2, 1) := by decide +kernel
theorem d_stepTable_168 : decode cb_stepTable 168 = .ok (.invokevirtual 191, 3) := by decide +kernel
theorem d_stepTable_171 : decode cb_stepTable 171 = .ok (.ireturn, 1) := by decide +kernel
theorem d_finishValue_0 : decode cb_finishValue 0 = .ok (.iconst 1, 1) := by decide +kernel
theorem d_finishValue_1 : decode cb_finishValue 1 = .ok (.istore_n 1, 1) := by decide +kernel
theorem d_finishValue_2 : decode cb_finishValue 2 = .ok (.aload_n 0, 1) := by decide +kernel
theorem d_finishValue_3 : decode cb_finishValue 3 = .ok (.getfield 164, 3) := by decide +kernel
theorem d_finishValue_6 : decode cb_finishValue 6 = .ok (.ifCond .le 54, 3) := by decide +kernel
theorem d_finishValue_9 : decode cb_finishValue 9 = .ok (.iload_n 1, 1) := by decide +kernel
theorem d_finishValue_10 : decode cb_finishValue 10 = .ok (.ifCond .eq 50, 3) := by decide +kernel
theorem d_finishValue_13 : decode cb_finishValue 13 = .ok (.aload_n 0, 1) := by decide +kernel
theorem d_finishValue_14 : decode cb_finishValue 14 = .ok (.getfield 16, 3) := by decide +kernel
theorem d_finishValue_17 : decode cb_finishValue 17 = .ok (.aload_n 0, 1) := by decide +kernel
theorem d_finishValue_18 : decode cb_finishValue 18 = .ok (.getfield 58, 3) := by decide +kernel
theorem d_finishValue_21 : decode cb_finishValue 21 = .ok (.aload_n 0, 1) := by decide +kernel
theorem d_finishValue_22 : decode cb_finishValue 22 = .ok (.getfield 164, 3) := by decide +kernel
theorem d_finishValue_25 : decode cb_finishValue 25 = .ok (.iconst 1, 1) := by decide +kernel
theorem d_finishValue_26 : decode cb_finishValue 26 = .ok (.isub, 1) := by decide +kernel
theorem d_finishValue_27 : decode cb_finishValue 27 = .ok (.iaload, 1) := by decide +kernel
theorem d_finishValue_28 : decode cb_finishValue 28 = .ok (.iaload, 1) := by decide +kernel
theorem d_finishValue_29 : decode cb_finishValue 29 = .ok (.iconst 5, 1) := by decide +kernel
theorem d_finishValue_30 : decode cb_finishValue 30 = .ok (.if_icmp .ne 16, 3) := by decide +kernel
theorem d_finishValue_33 : decode cb_finishValue 33 = .ok (.aload_n 0, 1) := by decide +kernel
theorem d_finishValue_34 : decode cb_finishValue 34 = .ok (.aload_n 0, 1) := by decide +kernel
theorem d_finishValue_35 : decode cb_finishValue 35 = .ok (.getfield 164, 3) := by decide +kernel
theorem d_finishValue_38 : decode cb_finishValue 38 = .ok (.iconst 1, 1) := by decide +kernel
theorem d_finishValue_39 : decode cb_finishValue 39 = .ok (.isub, 1) := by decide +kernel
theorem d_finishValue_40 : decode cb_finishValue 40 = .ok (.invokevirtual 194, 3) := by decide +kernel
theorem d_finishValue_43 : decode cb_finishValue 43 = .ok (.goto 13, 3) := by decide +kernel
theorem d_finishValue_46 : decode cb_finishValue 46 = .ok (.aload_n 0, 1) := by decide +kernel
theorem d_finishValue_47 : decode cb_finishValue 47 = .ok (.aload_n 0, 1) := by decide +kernel
theorem d_finishValue_48 : decode cb_finishValue 48 = .ok (.getfield 164, 3) := by decide +kernel
theorem d_finishValue_51 : decode cb_finishValue 51 = .ok (.iconst 1, 1) := by decide +kernel
theorem d_finishValue_52 : decode cb_finishValue 52 = .ok (.isub, 1) := by decide +kernel
theorem d_finishValue_53 : decode cb_finishValue 53 = .ok (.invokevirtual 197, 3) := by decide +kernel
theorem d_finishValue_56 : decode cb_finishValue 56 = .ok (.istore_n 1, 1) := by decide +kernel
theorem d_finishValue_57 : decode cb_finishValue 57 = .ok (.goto (-55), 3) := by decide +kernel
theorem d_finishValue_60 : decode cb_finishValue 60 = .ok (.iload_n 1, 1) := by decide +kernel
theorem d_finishValue_61 : decode cb_finishValue 61 = .ok (.ireturn, 1) := by decide +kernel
theorem d_header_0 : decode cb_header 0 = .ok (.aload_n 0, 1) := by decide +kernel
theorem d_header_1 : decode cb_header 1 = .ok (.dup, 1) := by decide +kernel
theorem d_header_2 : decode cb_header 2 = .ok (.getfield 76, 3) := by decide +kernel
theorem d_header_5 : decode cb_header 5 = .ok (.iconst 1, 1) := by decide +kernel
theorem d_header_6 : decode cb_header 6 = .ok (.iadd, 1) := by decide +kernel
theorem d_header_7 : decode cb_header 7 = .ok (.putfield 76, 3) := by decide +kernel
theorem d_header_10 : decode cb_header 10 = .ok (.aload_n 0, 1) := by decide +kernel
theorem d_header_11 : decode cb_header 11 = .ok (.invokevirtual 82, 3) := by decide +kernel
theorem d_header_14 : decode cb_header 14 = .ok (.bipush 91, 2) := by decide +kernel
theorem d_header_16 : decode cb_header 16 = .ok (.if_icmp .ne 7, 3) := by decide +kernel
theorem d_header_19 : decode cb_header 19 = .ok (.iconst 1, 1) := by decide +kernel
theorem d_header_20 : decode cb_header 20 = .ok (.goto 4, 3) := by decide +kernel
theorem d_header_23 : decode cb_header 23 = .ok (.iconst 0, 1) := by decide +kernel
theorem d_header_24 : decode cb_header 24 = .ok (.istore_n 1, 1) := by decide +kernel
theorem d_header_25 : decode cb_header 25 = .ok (.aload_n 0, 1) := by decide +kernel
theorem d_header_26 : decode cb_header 26 = .ok (.dup, 1) := by decide +kernel
theorem d_header_27 : decode cb_header 27 = .ok (.getfield 76, 3) := by decide +kernel
theorem d_header_30 : decode cb_header 30 = .ok (.iload_n 1, 1) := by decide +kernel
theorem d_header_31 : decode cb_header 31 = .ok (.ifCond .eq 7, 3) := by decide +kernel
theorem d_header_34 : decode cb_header 34 = .ok (.iconst 1, 1) := by decide +kernel
theorem d_header_35 : decode cb_header 35 = .ok (.goto 4, 3) := by decide +kernel
theorem d_header_38 : decode cb_header 38 = .ok (.iconst 0, 1) := by decide +kernel
theorem d_header_39 : decode cb_header 39 = .ok (.iadd, 1) := by decide +kernel
theorem d_header_40 : decode cb_header 40 = .ok (.putfield 76, 3) := by decide +kernel
theorem d_header_43 : decode cb_header 43 = .ok (.aload_n 0, 1) := by decide +kernel
theorem d_header_44 : decode cb_header 44 = .ok (.invokevirtual 129, 3) := by decide +kernel
theorem d_header_47 : decode cb_header 47 = .ok (.aload_n 0, 1) := by decide +kernel
theorem d_header_48 : decode cb_header 48 = .ok (.invokevirtual 185, 3) := by decide +kernel
theorem d_header_51 : decode cb_header 51 = .ok (.ifCond .ne 5, 3) := by decide +kernel
theorem d_header_54 : decode cb_header 54 = .ok (.iconst (-1), 1) := by decide +kernel
theorem d_header_55 : decode cb_header 55 = .ok (.ireturn, 1) := by decide +kernel
theorem d_header_56 : decode cb_header 56 = .ok (.aload_n 0, 1) := by decide +kernel
theorem d_header_57 : decode cb_header 57 = .ok (.iload_n 1, 1) := by decide +kernel
theorem d_header_58 : decode cb_header 58 = .ok (.invokevirtual 200, 3) := by decide +kernel
theorem d_header_61 : decode cb_header 61 = .ok (.istore_n 2, 1) := by decide +kernel
theorem d_header_62 : decode cb_header 62 = .ok (.iconst 0, 1) := by decide +kernel
theorem d_header_63 : decode cb_header 63 = .ok (.istore_n 3, 1) := by decide +kernel
theorem d_header_64 : decode cb_header 64 = .ok (.iload_n 3, 1) := by decide +kernel
theorem d_header_65 : decode cb_header 65 = .ok (.iload_n 1, 1) := by decide +kernel
theorem d_header_66 : decode cb_header 66 = .ok (.ifCond .eq 7, 3) := by decide +kernel
theorem d_header_69 : decode cb_header 69 = .ok (.iconst 2, 1) := by decide +kernel
theorem d_header_70 : decode cb_header 70 = .ok (.goto 4, 3) := by decide +kernel
theorem d_header_73 : decode cb_header 73 = .ok (.iconst 1, 1) := by decide +kernel
theorem d_header_74 : decode cb_header 74 = .ok (.if_icmp .ge 43, 3) := by decide +kernel
theorem d_header_77 : decode cb_header 77 = .ok (.iload_n 2, 1) := by decide +kernel
theorem d_header_78 : decode cb_header 78 = .ok (.iconst (-1), 1) := by decide +kernel
theorem d_header_79 : decode cb_header 79 = .ok (.if_icmp .eq 38, 3) := by decide +kernel
theorem d_header_82 : decode cb_header 82 = .ok (.aload_n 0, 1) := by decide +kernel
theorem d_header_83 : decode cb_header 83 = .ok (.invokevirtual 82, 3) := by decide +kernel
theorem d_header_86 : decode cb_header 86 = .ok (.bipush 93, 2) := by decide +kernel
theorem d_header_88 : decode cb_header 88 = .ok (.if_icmp .eq 13, 3) := by decide +kernel
theorem d_header_91 : decode cb_header 91 = .ok (.aload_n 0, 1) := by decide +kernel
theorem d_header_92 : decode cb_header 92 = .ok (.aload_n 0, 1) := by decide +kernel
theorem d_header_93 : decode cb_header 93 = .ok (.getfield 76, 3) := by decide +kernel
theorem d_header_96 : decode cb_header 96 = .ok (.putfield 79, 3) := by decide +kernel
theorem d_header_99 : decode cb_header 99 = .ok (.iconst (-1), 1) := by decide +kernel
theorem d_header_100 : decode cb_header 100 = .ok (.ireturn, 1) := by decide +kernel
theorem d_header_101 : decode cb_header 101 = .ok (.aload_n 0, 1) := by decide +kernel
theorem d_header_102 : decode cb_header 102 = .ok (.dup, 1) := by decide +kernel
theorem d_header_103 : decode cb_header 103 = .ok (.getfield 76, 3) := by decide +kernel
theorem d_header_106 : decode cb_header 106 = .ok (.iconst 1, 1) := by decide +kernel
theorem d_header_107 : decode cb_header 107 = .ok (.iadd, 1) := by decide +kernel
theorem d_header_108 : decode cb_header 108 = .ok (.putfield 76, 3) := by decide +kernel
theorem d_header_111 : decode cb_header 111 = .ok (.iinc 3 1, 3) := by decide +kernel
theorem d_header_114 : decode cb_header 114 = .ok (.goto (-50), 3) := by decide +kernel
theorem d_header_117 : decode cb_header 117 = .ok (.iload_n 2, 1) := by decide +kernel
theorem d_header_118 : decode cb_header 118 = .ok (.ireturn, 1) := by decide +kernel
theorem d_line_0 : decode cb_line 0 = .ok (.iload_n 1, 1) := by decide +kernel
theorem d_line_1 : decode cb_line 1 = .ok (.istore_n 2, 1) := by decide +kernel
theorem d_line_2 : decode cb_line 2 = .ok (.aload_n 0, 1) := by decide +kernel
theorem d_line_3 : decode cb_line 3 = .ok (.invokevirtual 129, 3) := by decide +kernel
theorem d_line_6 : decode cb_line 6 = .ok (.aload_n 0, 1) := by decide +kernel
theorem d_line_7 : decode cb_line 7 = .ok (.invokevirtual 82, 3) := by decide +kernel
theorem d_line_10 : decode cb_line 10 = .ok (.istore_n 3, 1) := by decide +kernel
theorem d_line_11 : decode cb_line 11 = .ok (.iload_n 3, 1) := by decide +kernel
theorem d_line_12 : decode cb_line 12 = .ok (.bipush 91, 2) := by decide +kernel
theorem d_line_14 : decode cb_line 14 = .ok (.if_icmp .ne 15, 3) := by decide +kernel
theorem d_line_17 : decode cb_line 17 = .ok (.aload_n 0, 1) := by decide +kernel
theorem d_line_18 : decode cb_line 18 = .ok (.invokevirtual 204, 3) := by decide +kernel
theorem d_line_21 : decode cb_line 21 = .ok (.istore_n 2, 1) := by decide +kernel
theorem d_line_22 : decode cb_line 22 = .ok (.iload_n 2, 1) := by decide +kernel
theorem d_line_23 : decode cb_line 23 = .ok (.iconst (-1), 1) := by decide +kernel
theorem d_line_24 : decode cb_line 24 = .ok (.if_icmp .ne 50, 3) := by decide +kernel
theorem d_line_27 : decode cb_line 27 = .ok (.iconst (-1), 1) := by decide +kernel
theorem d_line_28 : decode cb_line 28 = .ok (.ireturn, 1) := by decide +kernel
theorem d_line_29 : decode cb_line 29 = .ok (.aload_n 0, 1) := by decide +kernel
theorem d_line_30 : decode cb_line 30 = .ok (.getfield 76, 3) := by decide +kernel
theorem d_line_33 : decode cb_line 33 = .ok (.aload_n 0, 1) := by decide +kernel
theorem d_line_34 : decode cb_line 34 = .ok (.getfield 73, 3) := by decide +kernel
theorem d_line_37 : decode cb_line 37 = .ok (.if_icmp .ge 37, 3) := by decide +kernel
theorem d_line_40 : decode cb_line 40 = .ok (.iload_n 3, 1) := by decide +kernel
theorem d_line_41 : decode cb_line 41 = .ok (.bipush 10, 2) := by decide +kernel
theorem d_line_43 : decode cb_line 43 = .ok (.if_icmp .eq 31, 3) := by decide +kernel
theorem d_line_46 : decode cb_line 46 = .ok (.iload_n 3, 1) := by decide +kernel
theorem d_line_47 : decode cb_line 47 = .ok (.bipush 35, 2) := by decide +kernel
theorem d_line_49 : decode cb_line 49 = .ok (.if_icmp .eq 25, 3) := by decide +kernel
theorem d_line_52 : decode cb_line 52 = .ok (.aload_n 0, 1) := by decide +kernel
theorem d_line_53 : decode cb_line 53 = .ok (.iconst 0, 1) := by decide +kernel
theorem d_line_54 : decode cb_line 54 = .ok (.putfield 164, 3) := by decide +kernel
theorem d_line_57 : decode cb_line 57 = .ok (.aload_n 0, 1) := by decide +kernel
theorem d_line_58 : decode cb_line 58 = .ok (.iload_n 2, 1) := by decide +kernel
theorem d_line_59 : decode cb_line 59 = .ok (.invokevirtual 191, 3) := by decide +kernel
theorem d_line_62 : decode cb_line 62 = .ok (.ifCond .eq 10, 3) := by decide +kernel
theorem d_line_65 : decode cb_line 65 = .ok (.aload_n 0, 1) := by decide +kernel
theorem d_line_66 : decode cb_line 66 = .ok (.invokevirtual 207, 3) := by decide +kernel
theorem d_line_69 : decode cb_line 69 = .ok (.ifCond .ne 5, 3) := by decide +kernel
theorem d_line_72 : decode cb_line 72 = .ok (.iconst (-1), 1) := by decide +kernel
theorem d_line_73 : decode cb_line 73 = .ok (.ireturn, 1) := by decide +kernel
theorem d_line_74 : decode cb_line 74 = .ok (.aload_n 0, 1) := by decide +kernel
theorem d_line_75 : decode cb_line 75 = .ok (.invokevirtual 129, 3) := by decide +kernel
theorem d_line_78 : decode cb_line 78 = .ok (.aload_n 0, 1) := by decide +kernel
theorem d_line_79 : decode cb_line 79 = .ok (.invokevirtual 82, 3) := by decide +kernel
theorem d_line_82 : decode cb_line 82 = .ok (.bipush 35, 2) := by decide +kernel
theorem d_line_84 : decode cb_line 84 = .ok (.if_icmp .ne 7, 3) := by decide +kernel
theorem d_line_87 : decode cb_line 87 = .ok (.aload_n 0, 1) := by decide +kernel
theorem d_line_88 : decode cb_line 88 = .ok (.invokevirtual 86, 3) := by decide +kernel
theorem d_line_91 : decode cb_line 91 = .ok (.aload_n 0, 1) := by decide +kernel
theorem d_line_92 : decode cb_line 92 = .ok (.getfield 76, 3) := by decide +kernel
theorem d_line_95 : decode cb_line 95 = .ok (.aload_n 0, 1) := by decide +kernel
theorem d_line_96 : decode cb_line 96 = .ok (.getfield 73, 3) := by decide +kernel
theorem d_line_99 : decode cb_line 99 = .ok (.if_icmp .ge 22, 3) := by decide +kernel
theorem d_line_102 : decode cb_line 102 = .ok (.aload_n 0, 1) := by decide +kernel
theorem d_line_103 : decode cb_line 103 = .ok (.invokevirtual 82, 3) := by decide +kernel
theorem d_line_106 : decode cb_line 106 = .ok (.bipush 10, 2) := by decide +kernel
theorem d_line_108 : decode cb_line 108 = .ok (.if_icmp .eq 13, 3) := by decide +kernel
theorem d_line_111 : decode cb_line 111 = .ok (.aload_n 0, 1) := by decide +kernel
theorem d_line_112 : decode cb_line 112 = .ok (.aload_n 0, 1) := by decide +kernel
theorem d_line_113 : decode cb_line 113 = .ok (.getfield 76, 3) := by decide +kernel
theorem d_line_116 : decode cb_line 116 = .ok (.putfield 79, 3) := by decide +kernel
theorem d_line_119 : decode cb_line 119 = .ok (.iconst (-1), 1) := by decide +kernel
theorem d_line_120 : decode cb_line 120 = .ok (.ireturn, 1) := by decide +kernel
theorem d_line_121 : decode cb_line 121 = .ok (.aload_n 0, 1) := by decide +kernel
theorem d_line_122 : decode cb_line 122 = .ok (.dup, 1) := by decide +kernel
theorem d_line_123 : decode cb_line 123 = .ok (.getfield 76, 3) := by decide +kernel
theorem d_line_126 : decode cb_line 126 = .ok (.iconst 1, 1) := by decide +kernel
theorem d_line_127 : decode cb_line 127 = .ok (.iadd, 1) := by decide +kernel
theorem d_line_128 : decode cb_line 128 = .ok (.putfield 76, 3) := by decide +kernel
theorem d_line_131 : decode cb_line 131 = .ok (.iload_n 2, 1) := by decide +kernel
theorem d_line_132 : decode cb_line 132 = .ok (.ireturn, 1) := by decide +kernel
theorem d_read_0 : decode cb_read 0 = .ok (.aload_n 0, 1) := by decide +kernel
theorem d_read_1 : decode cb_read 1 = .ok (.iconst 0, 1) := by decide +kernel
theorem d_read_2 : decode cb_read 2 = .ok (.putfield 67, 3) := by decide +kernel
theorem d_read_5 : decode cb_read 5 = .ok (.aload_n 0, 1) := by decide +kernel
theorem d_read_6 : decode cb_read 6 = .ok (.iconst 1, 1) := by decide +kernel
theorem d_read_7 : decode cb_read 7 = .ok (.aload_n 0, 1) := by decide +kernel
theorem d_read_8 : decode cb_read 8 = .ok (.getfield 210, 3) := by decide +kernel
theorem d_read_11 : decode cb_read 11 = .ok (.isub, 1) := by decide +kernel
theorem d_read_12 : decode cb_read 12 = .ok (.putfield 93, 3) := by decide +kernel
theorem d_read_15 : decode cb_read 15 = .ok (.aload_n 0, 1) := by decide +kernel
theorem d_read_16 : decode cb_read 16 = .ok (.getfield 13, 3) := by decide +kernel
theorem d_read_19 : decode cb_read 19 = .ok (.aload_n 0, 1) := by decide +kernel
theorem d_read_20 : decode cb_read 20 = .ok (.getfield 93, 3) := by decide +kernel
theorem d_read_23 : decode cb_read 23 = .ok (.iconst 0, 1) := by decide +kernel
theorem d_read_24 : decode cb_read 24 = .ok (.iastore, 1) := by decide +kernel
theorem d_read_25 : decode cb_read 25 = .ok (.aload_n 0, 1) := by decide +kernel
theorem d_read_26 : decode cb_read 26 = .ok (.getfield 43, 3) := by decide +kernel
theorem d_read_29 : decode cb_read 29 = .ok (.aload_n 0, 1) := by decide +kernel
theorem d_read_30 : decode cb_read 30 = .ok (.getfield 93, 3) := by decide +kernel
theorem d_read_33 : decode cb_read 33 = .ok (.iconst 0, 1) := by decide +kernel
theorem d_read_34 : decode cb_read 34 = .ok (.iastore, 1) := by decide +kernel
theorem d_read_35 : decode cb_read 35 = .ok (.aload_n 0, 1) := by decide +kernel
theorem d_read_36 : decode cb_read 36 = .ok (.iconst 0, 1) := by decide +kernel
theorem d_read_37 : decode cb_read 37 = .ok (.putfield 76, 3) := by decide +kernel
theorem d_read_40 : decode cb_read 40 = .ok (.aload_n 0, 1) := by decide +kernel
theorem d_read_41 : decode cb_read 41 = .ok (.iconst (-1), 1) := by decide +kernel
theorem d_read_42 : decode cb_read 42 = .ok (.putfield 79, 3) := by decide +kernel
theorem d_read_45 : decode cb_read 45 = .ok (.aload_n 0, 1) := by decide +kernel
theorem d_read_46 : decode cb_read 46 = .ok (.bipush 7, 2) := by decide +kernel
theorem d_read_48 : decode cb_read 48 = .ok (.iconst (-1), 1) := by decide +kernel
theorem d_read_49 : decode cb_read 49 = .ok (.invokevirtual 136, 3) := by decide +kernel
theorem d_read_52 : decode cb_read 52 = .ok (.istore_n 1, 1) := by decide +kernel
theorem d_read_53 : decode cb_read 53 = .ok (.aload_n 0, 1) := by decide +kernel
theorem d_read_54 : decode cb_read 54 = .ok (.getfield 76, 3) := by decide +kernel
theorem d_read_57 : decode cb_read 57 = .ok (.aload_n 0, 1) := by decide +kernel
theorem d_read_58 : decode cb_read 58 = .ok (.getfield 73, 3) := by decide +kernel
theorem d_read_61 : decode cb_read 61 = .ok (.if_icmp .ge 17, 3) := by decide +kernel
theorem d_read_64 : decode cb_read 64 = .ok (.iload_n 1, 1) := by decide +kernel
theorem d_read_65 : decode cb_read 65 = .ok (.iconst (-1), 1) := by decide +kernel
theorem d_read_66 : decode cb_read 66 = .ok (.if_icmp .eq 12, 3) := by decide +kernel
theorem d_read_69 : decode cb_read 69 = .ok (.aload_n 0, 1) := by decide +kernel
theorem d_read_70 : decode cb_read 70 = .ok (.iload_n 1, 1) := by decide +kernel
theorem d_read_71 : decode cb_read 71 = .ok (.invokevirtual 213, 3) := by decide +kernel
theorem d_read_74 : decode cb_read 74 = .ok (.istore_n 1, 1) := by decide +kernel
theorem d_read_75 : decode cb_read 75 = .ok (.goto (-22), 3) := by decide +kernel
theorem d_read_78 : decode cb_read 78 = .ok (.aload_n 0, 1) := by decide +kernel
theorem d_read_79 : decode cb_read 79 = .ok (.iconst 0, 1) := by decide +kernel
theorem d_read_80 : decode cb_read 80 = .ok (.putfield 73, 3) := by decide +kernel
theorem d_read_83 : decode cb_read 83 = .ok (.iload_n 1, 1) := by decide +kernel
theorem d_read_84 : decode cb_read 84 = .ok (.iconst (-1), 1) := by decide +kernel
theorem d_read_85 : decode cb_read 85 = .ok (.if_icmp .ne 8, 3) := by decide +kernel
theorem d_read_88 : decode cb_read 88 = .ok (.aload_n 0, 1) := by decide +kernel
theorem d_read_89 : decode cb_read 89 = .ok (.getfield 79, 3) := by decide +kernel
theorem d_read_92 : decode cb_read 92 = .ok (.ireturn, 1) := by decide +kernel
theorem d_read_93 : decode cb_read 93 = .ok (.aload_n 0, 1) := by decide +kernel
theorem d_read_94 : decode cb_read 94 = .ok (.aload_n 0, 1) := by decide +kernel
theorem d_read_95 : decode cb_read 95 = .ok (.getfield 93, 3) := by decide +kernel
theorem d_read_98 : decode cb_read 98 = .ok (.putfield 210, 3) := by decide +kernel
theorem d_read_101 : decode cb_read 101 = .ok (.aload_n 0, 1) := by decide +kernel
theorem d_read_102 : decode cb_read 102 = .ok (.sipush 260, 3) := by decide +kernel
theorem d_read_105 : decode cb_read 105 = .ok (.aload_n 0, 1) := by decide +kernel
theorem d_read_106 : decode cb_read 106 = .ok (.getfield 210, 3) := by decide +kernel
theorem d_read_109 : decode cb_read 109 = .ok (.imul, 1) := by decide +kernel
theorem d_read_110 : decode cb_read 110 = .ok (.putfield 216, 3) := by decide +kernel
theorem d_read_113 : decode cb_read 113 = .ok (.iconst (-1), 1) := by decide +kernel
theorem d_read_114 : decode cb_read 114 = .ok (.ireturn, 1) := by decide +kernel
theorem d_put_0 : decode cb_put 0 = .ok (.aload_n 0, 1) := by decide +kernel
theorem d_put_1 : decode cb_put 1 = .ok (.getfield 219, 3) := by decide +kernel
theorem d_put_4 : decode cb_put 4 = .ok (.sipush 600, 3) := by decide +kernel
theorem d_put_7 : decode cb_put 7 = .ok (.if_icmp .ge 13, 3) := by decide +kernel
theorem d_put_10 : decode cb_put 10 = .ok (.aload_n 0, 1) := by decide +kernel
theorem d_put_11 : decode cb_put 11 = .ok (.getfield 64, 3) := by decide +kernel
theorem d_put_14 : decode cb_put 14 = .ok (.aload_n 0, 1) := by decide +kernel
theorem d_put_15 : decode cb_put 15 = .ok (.getfield 219, 3) := by decide +kernel
theorem d_put_18 : decode cb_put 18 = .ok (.iload_n 1, 1) := by decide +kernel
theorem d_put_19 : decode cb_put 19 = .ok (.iastore, 1) := by decide +kernel
theorem d_put_20 : decode cb_put 20 = .ok (.aload_n 0, 1) := by decide +kernel
theorem d_put_21 : decode cb_put 21 = .ok (.dup, 1) := by decide +kernel
theorem d_put_22 : decode cb_put 22 = .ok (.getfield 219, 3) := by decide +kernel
theorem d_put_25 : decode cb_put 25 = .ok (.iconst 1, 1) := by decide +kernel
theorem d_put_26 : decode cb_put 26 = .ok (.iadd, 1) := by decide +kernel
theorem d_put_27 : decode cb_put 27 = .ok (.putfield 219, 3) := by decide +kernel
theorem d_put_30 : decode cb_put 30 = .ok (.return_, 1) := by decide +kernel
theorem d_putNumber_0 : decode cb_putNumber 0 = .ok (.iconst 1, 1) := by decide +kernel
theorem d_putNumber_1 : decode cb_putNumber 1 = .ok (.istore_n 3, 1) := by decide +kernel
theorem d_putNumber_2 : decode cb_putNumber 2 = .ok (.iconst 1, 1) := by decide +kernel
theorem d_putNumber_3 : decode cb_putNumber 3 = .ok (.istore 4, 2) := by decide +kernel
theorem d_putNumber_5 : decode cb_putNumber 5 = .ok (.iload 4, 2) := by decide +kernel
theorem d_putNumber_7 : decode cb_putNumber 7 = .ok (.iload_n 2, 1) := by decide +kernel
theorem d_putNumber_8 : decode cb_putNumber 8 = .ok (.if_icmp .ge 14, 3) := by decide +kernel
theorem d_putNumber_11 : decode cb_putNumber 11 = .ok (.iload_n 3, 1) := by decide +kernel
theorem d_putNumber_12 : decode cb_putNumber 12 = .ok (.bipush 10, 2) := by decide +kernel
theorem d_putNumber_14 : decode cb_putNumber 14 = .ok (.imul, 1) := by decide +kernel
theorem d_putNumber_15 : decode cb_putNumber 15 = .ok (.istore_n 3, 1) := by decide +kernel
theorem d_putNumber_16 : decode cb_putNumber 16 = .ok (.iinc 4 1, 3) := by decide +kernel
theorem d_putNumber_19 : decode cb_putNumber 19 = .ok (.goto (-14), 3) := by decide +kernel
theorem d_putNumber_22 : decode cb_putNumber 22 = .ok (.iload_n 1, 1) := by decide +kernel
theorem d_putNumber_23 : decode cb_putNumber 23 = .ok (.iload_n 3, 1) := by decide +kernel
theorem d_putNumber_24 : decode cb_putNumber 24 = .ok (.idiv, 1) := by decide +kernel
theorem d_putNumber_25 : decode cb_putNumber 25 = .ok (.bipush 9, 2) := by decide +kernel
theorem d_putNumber_27 : decode cb_putNumber 27 = .ok (.if_icmp .le 11, 3) := by decide +kernel
theorem d_putNumber_30 : decode cb_putNumber 30 = .ok (.iload_n 3, 1) := by decide +kernel
theorem d_putNumber_31 : decode cb_putNumber 31 = .ok (.bipush 10, 2) := by decide +kernel
theorem d_putNumber_33 : decode cb_putNumber 33 = .ok (.imul, 1) := by decide +kernel
theorem d_putNumber_34 : decode cb_putNumber 34 = .ok (.istore_n 3, 1) := by decide +kernel
theorem d_putNumber_35 : decode cb_putNumber 35 = .ok (.goto (-13), 3) := by decide +kernel
theorem d_putNumber_38 : decode cb_putNumber 38 = .ok (.iload_n 3, 1) := by decide +kernel
theorem d_putNumber_39 : decode cb_putNumber 39 = .ok (.istore 4, 2) := by decide +kernel
theorem d_putNumber_41 : decode cb_putNumber 41 = .ok (.iload 4, 2) := by decide +kernel
theorem d_putNumber_43 : decode cb_putNumber 43 = .ok (.ifCond .le 27, 3) := by decide +kernel
theorem d_putNumber_46 : decode cb_putNumber 46 = .ok (.aload_n 0, 1) := by decide +kernel
theorem d_putNumber_47 : decode cb_putNumber 47 = .ok (.bipush 48, 2) := by decide +kernel
theorem d_putNumber_49 : decode cb_putNumber 49 = .ok (.iload_n 1, 1) := by decide +kernel
theorem d_putNumber_50 : decode cb_putNumber 50 = .ok (.iload 4, 2) := by decide +kernel
theorem d_putNumber_52 : decode cb_putNumber 52 = .ok (.idiv, 1) := by decide +kernel
theorem d_putNumber_53 : decode cb_putNumber 53 = .ok (.bipush 10, 2) := by decide +kernel
theorem d_putNumber_55 : decode cb_putNumber 55 = .ok (.irem, 1) := by decide +kernel
theorem d_putNumber_56 : decode cb_putNumber 56 = .ok (.iadd, 1) := by decide +kernel
theorem d_putNumber_57 : decode cb_putNumber 57 = .ok (.invokevirtual 222, 3) := by decide +kernel
theorem d_putNumber_60 : decode cb_putNumber 60 = .ok (.iload 4, 2) := by decide +kernel
theorem d_putNumber_62 : decode cb_putNumber 62 = .ok (.bipush 10, 2) := by decide +kernel
theorem d_putNumber_64 : decode cb_putNumber 64 = .ok (.idiv, 1) := by decide +kernel
theorem d_putNumber_65 : decode cb_putNumber 65 = .ok (.istore 4, 2) := by decide +kernel
theorem d_putNumber_67 : decode cb_putNumber 67 = .ok (.goto (-26), 3) := by decide +kernel
theorem d_putNumber_70 : decode cb_putNumber 70 = .ok (.return_, 1) := by decide +kernel
theorem d_putQuoted_0 : decode cb_putQuoted 0 = .ok (.aload_n 0, 1) := by decide +kernel
theorem d_putQuoted_1 : decode cb_putQuoted 1 = .ok (.bipush 34, 2) := by decide +kernel
theorem d_putQuoted_3 : decode cb_putQuoted 3 = .ok (.invokevirtual 222, 3) := by decide +kernel
theorem d_putQuoted_6 : decode cb_putQuoted 6 = .ok (.iconst 0, 1) := by decide +kernel
theorem d_putQuoted_7 : decode cb_putQuoted 7 = .ok (.istore_n 3, 1) := by decide +kernel
theorem d_putQuoted_8 : decode cb_putQuoted 8 = .ok (.iload_n 3, 1) := by decide +kernel
theorem d_putQuoted_9 : decode cb_putQuoted 9 = .ok (.iload_n 2, 1) := by decide +kernel
theorem d_putQuoted_10 : decode cb_putQuoted 10 = .ok (.if_icmp .ge 83, 3) := by decide +kernel
theorem d_putQuoted_13 : decode cb_putQuoted 13 = .ok (.aload_n 0, 1) := by decide +kernel
theorem d_putQuoted_14 : decode cb_putQuoted 14 = .ok (.getfield 46, 3) := by decide +kernel
theorem d_putQuoted_17 : decode cb_putQuoted 17 = .ok (.iload_n 1, 1) := by decide +kernel
theorem d_putQuoted_18 : decode cb_putQuoted 18 = .ok (.iload_n 3, 1) := by decide +kernel
theorem d_putQuoted_19 : decode cb_putQuoted 19 = .ok (.iadd, 1) := by decide +kernel
theorem d_putQuoted_20 : decode cb_putQuoted 20 = .ok (.iaload, 1) := by decide +kernel
theorem d_putQuoted_21 : decode cb_putQuoted 21 = .ok (.istore 4, 2) := by decide +kernel
theorem d_putQuoted_23 : decode cb_putQuoted 23 = .ok (.iload 4, 2) := by decide +kernel
theorem d_putQuoted_25 : decode cb_putQuoted 25 = .ok (.bipush 34, 2) := by decide +kernel
theorem d_putQuoted_27 : decode cb_putQuoted 27 = .ok (.if_icmp .eq 24, 3) := by decide +kernel
theorem d_putQuoted_30 : decode cb_putQuoted 30 = .ok (.iload 4, 2) := by decide +kernel
theorem d_putQuoted_32 : decode cb_putQuoted 32 = .ok (.bipush 92, 2) := by decide +kernel
theorem d_putQuoted_34 : decode cb_putQuoted 34 = .ok (.if_icmp .eq 17, 3) := by decide +kernel
theorem d_putQuoted_37 : decode cb_putQuoted 37 = .ok (.iload 4, 2) := by decide +kernel
theorem d_putQuoted_39 : decode cb_putQuoted 39 = .ok (.bipush 10, 2) := by decide +kernel
theorem d_putQuoted_41 : decode cb_putQuoted 41 = .ok (.if_icmp .eq 10, 3) := by decide +kernel
theorem d_putQuoted_44 : decode cb_putQuoted 44 = .ok (.iload 4, 2) := by decide +kernel
theorem d_putQuoted_46 : decode cb_putQuoted 46 = .ok (.bipush 9, 2) := by decide +kernel
theorem d_putQuoted_48 : decode cb_putQuoted 48 = .ok (.if_icmp .ne 9, 3) := by decide +kernel
theorem d_putQuoted_51 : decode cb_putQuoted 51 = .ok (.aload_n 0, 1) := by decide +kernel
theorem d_putQuoted_52 : decode cb_putQuoted 52 = .ok (.bipush 92, 2) := by decide +kernel
theorem d_putQuoted_54 : decode cb_putQuoted 54 = .ok (.invokevirtual 222, 3) := by decide +kernel
theorem d_putQuoted_57 : decode cb_putQuoted 57 = .ok (.aload_n 0, 1) := by decide +kernel
theorem d_putQuoted_58 : decode cb_putQuoted 58 = .ok (.iload 4, 2) := by decide +kernel
theorem d_putQuoted_60 : decode cb_putQuoted 60 = .ok (.bipush 10, 2) := by decide +kernel
theorem d_putQuoted_62 : decode cb_putQuoted 62 = .ok (.if_icmp .ne 8, 3) := by decide +kernel
theorem d_putQuoted_65 : decode cb_putQuoted 65 = .ok (.bipush 110, 2) := by decide +kernel
theorem d_putQuoted_67 : decode cb_putQuoted 67 = .ok (.goto 17, 3) := by decide +kernel
theorem d_putQuoted_70 : decode cb_putQuoted 70 = .ok (.iload 4, 2) := by decide +kernel
theorem d_putQuoted_72 : decode cb_putQuoted 72 = .ok (.bipush 9, 2) := by decide +kernel
theorem d_putQuoted_74 : decode cb_putQuoted 74 = .ok (.if_icmp .ne 8, 3) := by decide +kernel
theorem d_putQuoted_77 : decode cb_putQuoted 77 = .ok (.bipush 116, 2) := by decide +kernel
theorem d_putQuoted_79 : decode cb_putQuoted 79 = .ok (.goto 5, 3) := by decide +kernel
theorem d_putQuoted_82 : decode cb_putQuoted 82 = .ok (.iload 4, 2) := by decide +kernel
theorem d_putQuoted_84 : decode cb_putQuoted 84 = .ok (.invokevirtual 222, 3) := by decide +kernel
theorem d_putQuoted_87 : decode cb_putQuoted 87 = .ok (.iinc 3 1, 3) := by decide +kernel
theorem d_putQuoted_90 : decode cb_putQuoted 90 = .ok (.goto (-82), 3) := by decide +kernel
theorem d_putQuoted_93 : decode cb_putQuoted 93 = .ok (.aload_n 0, 1) := by decide +kernel
theorem d_putQuoted_94 : decode cb_putQuoted 94 = .ok (.bipush 34, 2) := by decide +kernel
theorem d_putQuoted_96 : decode cb_putQuoted 96 = .ok (.invokevirtual 222, 3) := by decide +kernel
theorem d_putQuoted_99 : decode cb_putQuoted 99 = .ok (.return_, 1) := by decide +kernel
theorem d_putKey_0 : decode cb_putKey 0 = .ok (.aload_n 0, 1) := by decide +kernel
theorem d_putKey_1 : decode cb_putKey 1 = .ok (.getfield 40, 3) := by decide +kernel
theorem d_putKey_4 : decode cb_putKey 4 = .ok (.iload_n 1, 1) := by decide +kernel
theorem d_putKey_5 : decode cb_putKey 5 = .ok (.iaload, 1) := by decide +kernel
theorem d_putKey_6 : decode cb_putKey 6 = .ok (.ifCond .le 7, 3) := by decide +kernel
theorem d_putKey_9 : decode cb_putKey 9 = .ok (.iconst 1, 1) := by decide +kernel
theorem d_putKey_10 : decode cb_putKey 10 = .ok (.goto 4, 3) := by decide +kernel
theorem d_putKey_13 : decode cb_putKey 13 = .ok (.iconst 0, 1) := by decide +kernel
theorem d_putKey_14 : decode cb_putKey 14 = .ok (.istore_n 2, 1) := by decide +kernel
theorem d_putKey_15 : decode cb_putKey 15 = .ok (.iconst 0, 1) := by decide +kernel
theorem d_putKey_16 : decode cb_putKey 16 = .ok (.istore_n 3, 1) := by decide +kernel
theorem d_putKey_17 : decode cb_putKey 17 = .ok (.iload_n 3, 1) := by decide +kernel
theorem d_putKey_18 : decode cb_putKey 18 = .ok (.aload_n 0, 1) := by decide +kernel
theorem d_putKey_19 : decode cb_putKey 19 = .ok (.getfield 40, 3) := by decide +kernel
theorem d_putKey_22 : decode cb_putKey 22 = .ok (.iload_n 1, 1) := by decide +kernel
theorem d_putKey_23 : decode cb_putKey 23 = .ok (.iaload, 1) := by decide +kernel
theorem d_putKey_24 : decode cb_putKey 24 = .ok (.if_icmp .ge 39, 3) := by decide +kernel
theorem d_putKey_27 : decode cb_putKey 27 = .ok (.iload_n 2, 1) := by decide +kernel
theorem d_putKey_28 : decode cb_putKey 28 = .ok (.ifCond .eq 27, 3) := by decide +kernel
theorem d_putKey_31 : decode cb_putKey 31 = .ok (.aload_n 0, 1) := by decide +kernel
theorem d_putKey_32 : decode cb_putKey 32 = .ok (.aload_n 0, 1) := by decide +kernel
theorem d_putKey_33 : decode cb_putKey 33 = .ok (.getfield 46, 3) := by decide +kernel
theorem d_putKey_36 : decode cb_putKey 36 = .ok (.aload_n 0, 1) := by decide +kernel
theorem d_putKey_37 : decode cb_putKey 37 = .ok (.getfield 37, 3) := by decide +kernel
theorem d_putKey_40 : decode cb_putKey 40 = .ok (.iload_n 1, 1) := by decide +kernel
theorem d_putKey_41 : decode cb_putKey 41 = .ok (.iaload, 1) := by decide +kernel
theorem d_putKey_42 : decode cb_putKey 42 = .ok (.iload_n 3, 1) := by decide +kernel
theorem d_putKey_43 : decode cb_putKey 43 = .ok (.iadd, 1) := by decide +kernel
theorem d_putKey_44 : decode cb_putKey 44 = .ok (.iaload, 1) := by decide +kernel
theorem d_putKey_45 : decode cb_putKey 45 = .ok (.invokevirtual 116, 3) := by decide +kernel
theorem d_putKey_48 : decode cb_putKey 48 = .ok (.ifCond .eq 7, 3) := by decide +kernel
theorem d_putKey_51 : decode cb_putKey 51 = .ok (.iconst 1, 1) := by decide +kernel
theorem d_putKey_52 : decode cb_putKey 52 = .ok (.goto 4, 3) := by decide +kernel
theorem d_putKey_55 : decode cb_putKey 55 = .ok (.iconst 0, 1) := by decide +kernel
theorem d_putKey_56 : decode cb_putKey 56 = .ok (.istore_n 2, 1) := by decide +kernel
theorem d_putKey_57 : decode cb_putKey 57 = .ok (.iinc 3 1, 3) := by decide +kernel
theorem d_putKey_60 : decode cb_putKey 60 = .ok (.goto (-43), 3) := by decide +kernel
theorem d_putKey_63 : decode cb_putKey 63 = .ok (.iload_n 2, 1) := by decide +kernel
theorem d_putKey_64 : decode cb_putKey 64 = .ok (.ifCond .ne 19, 3) := by decide +kernel
theorem d_putKey_67 : decode cb_putKey 67 = .ok (.aload_n 0, 1) := by decide +kernel
theorem d_putKey_68 : decode cb_putKey 68 = .ok (.aload_n 0, 1) := by decide +kernel
theorem d_putKey_69 : decode cb_putKey 69 = .ok (.getfield 37, 3) := by decide +kernel
theorem d_putKey_72 : decode cb_putKey 72 = .ok (.iload_n 1, 1) := by decide +kernel
theorem d_putKey_73 : decode cb_putKey 73 = .ok (.iaload, 1) := by decide +kernel
theorem d_putKey_74 : decode cb_putKey 74 = .ok (.aload_n 0, 1) := by decide +kernel
theorem d_putKey_75 : decode cb_putKey 75 = .ok (.getfield 40, 3) := by decide +kernel
theorem d_putKey_78 : decode cb_putKey 78 = .ok (.iload_n 1, 1) := by decide +kernel
theorem d_putKey_79 : decode cb_putKey 79 = .ok (.iaload, 1) := by decide +kernel
theorem d_putKey_80 : decode cb_putKey 80 = .ok (.invokevirtual 226, 3) := by decide +kernel
theorem d_putKey_83 : decode cb_putKey 83 = .ok (.iconst 0, 1) := by decide +kernel
theorem d_putKey_84 : decode cb_putKey 84 = .ok (.istore_n 3, 1) := by decide +kernel
theorem d_putKey_85 : decode cb_putKey 85 = .ok (.iload_n 3, 1) := by decide +kernel
theorem d_putKey_86 : decode cb_putKey 86 = .ok (.aload_n 0, 1) := by decide +kernel
theorem d_putKey_87 : decode cb_putKey 87 = .ok (.getfield 40, 3) := by decide +kernel
theorem d_putKey_90 : decode cb_putKey 90 = .ok (.iload_n 1, 1) := by decide +kernel
theorem d_putKey_91 : decode cb_putKey 91 = .ok (.iaload, 1) := by decide +kernel
theorem d_putKey_92 : decode cb_putKey 92 = .ok (.if_icmp .ge 30, 3) := by decide +kernel
theorem d_putKey_95 : decode cb_putKey 95 = .ok (.iload_n 2, 1) := by decide +kernel
theorem d_putKey_96 : decode cb_putKey 96 = .ok (.ifCond .eq 26, 3) := by decide +kernel
theorem d_putKey_99 : decode cb_putKey 99 = .ok (.aload_n 0, 1) := by decide +kernel
theorem d_putKey_100 : decode cb_putKey 100 = .ok (.aload_n 0, 1) := by decide +kernel
theorem d_putKey_101 : decode cb_putKey 101 = .ok (.getfield 46, 3) := by decide +kernel
theorem d_putKey_104 : decode cb_putKey 104 = .ok (.aload_n 0, 1) := by decide +kernel
theorem d_putKey_105 : decode cb_putKey 105 = .ok (.getfield 37, 3) := by decide +kernel
theorem d_putKey_108 : decode cb_putKey 108 = .ok (.iload_n 1, 1) := by decide +kernel
theorem d_putKey_109 : decode cb_putKey 109 = .ok (.iaload, 1) := by decide +kernel
theorem d_putKey_110 : decode cb_putKey 110 = .ok (.iload_n 3, 1) := by decide +kernel
theorem d_putKey_111 : decode cb_putKey 111 = .ok (.iadd, 1) := by decide +kernel
theorem d_putKey_112 : decode cb_putKey 112 = .ok (.iaload, 1) := by decide +kernel
theorem d_putKey_113 : decode cb_putKey 113 = .ok (.invokevirtual 222, 3) := by decide +kernel
theorem d_putKey_116 : decode cb_putKey 116 = .ok (.iinc 3 1, 3) := by decide +kernel
theorem d_putKey_119 : decode cb_putKey 119 = .ok (.goto (-34), 3) := by decide +kernel
theorem d_putKey_122 : decode cb_putKey 122 = .ok (.aload_n 0, 1) := by decide +kernel
theorem d_putKey_123 : decode cb_putKey 123 = .ok (.bipush 32, 2) := by decide +kernel
theorem d_putKey_125 : decode cb_putKey 125 = .ok (.invokevirtual 222, 3) := by decide +kernel
theorem d_putKey_128 : decode cb_putKey 128 = .ok (.aload_n 0, 1) := by decide +kernel
theorem d_putKey_129 : decode cb_putKey 129 = .ok (.bipush 61, 2) := by decide +kernel
theorem d_putKey_131 : decode cb_putKey 131 = .ok (.invokevirtual 222, 3) := by decide +kernel
theorem d_putKey_134 : decode cb_putKey 134 = .ok (.aload_n 0, 1) := by decide +kernel
theorem d_putKey_135 : decode cb_putKey 135 = .ok (.bipush 32, 2) := by decide +kernel
theorem d_putKey_137 : decode cb_putKey 137 = .ok (.invokevirtual 222, 3) := by decide +kernel
theorem d_putKey_140 : decode cb_putKey 140 = .ok (.return_, 1) := by decide +kernel
theorem d_putHead_0 : decode cb_putHead 0 = .ok (.aload_n 0, 1) := by decide +kernel
theorem d_putHead_1 : decode cb_putHead 1 = .ok (.getfield 16, 3) := by decide +kernel
theorem d_putHead_4 : decode cb_putHead 4 = .ok (.iload_n 1, 1) := by decide +kernel
theorem d_putHead_5 : decode cb_putHead 5 = .ok (.iaload, 1) := by decide +kernel
theorem d_putHead_6 : decode cb_putHead 6 = .ok (.istore_n 2, 1) := by decide +kernel
theorem d_putHead_7 : decode cb_putHead 7 = .ok (.iload_n 2, 1) := by decide +kernel
theorem d_putHead_8 : decode cb_putHead 8 = .ok (.iconst 1, 1) := by decide +kernel
theorem d_putHead_9 : decode cb_putHead 9 = .ok (.if_icmp .ne 51, 3) := by decide +kernel
theorem d_putHead_12 : decode cb_putHead 12 = .ok (.aload_n 0, 1) := by decide +kernel
theorem d_putHead_13 : decode cb_putHead 13 = .ok (.getfield 19, 3) := by decide +kernel
theorem d_putHead_16 : decode cb_putHead 16 = .ok (.iload_n 1, 1) := by decide +kernel
theorem d_putHead_17 : decode cb_putHead 17 = .ok (.iaload, 1) := by decide +kernel
theorem d_putHead_18 : decode cb_putHead 18 = .ok (.ifCond .ge 9, 3) := by decide +kernel
theorem d_putHead_21 : decode cb_putHead 21 = .ok (.aload_n 0, 1) := by decide +kernel
theorem d_putHead_22 : decode cb_putHead 22 = .ok (.bipush 45, 2) := by decide +kernel
theorem d_putHead_24 : decode cb_putHead 24 = .ok (.invokevirtual 222, 3) := by decide +kernel
theorem d_putHead_27 : decode cb_putHead 27 = .ok (.aload_n 0, 1) := by decide +kernel
theorem d_putHead_28 : decode cb_putHead 28 = .ok (.aload_n 0, 1) := by decide +kernel
theorem d_putHead_29 : decode cb_putHead 29 = .ok (.getfield 19, 3) := by decide +kernel
theorem d_putHead_32 : decode cb_putHead 32 = .ok (.iload_n 1, 1) := by decide +kernel
theorem d_putHead_33 : decode cb_putHead 33 = .ok (.iaload, 1) := by decide +kernel
theorem d_putHead_34 : decode cb_putHead 34 = .ok (.ifCond .ge 13, 3) := by decide +kernel
theorem d_putHead_37 : decode cb_putHead 37 = .ok (.aload_n 0, 1) := by decide +kernel
theorem d_putHead_38 : decode cb_putHead 38 = .ok (.getfield 19, 3) := by decide +kernel
theorem d_putHead_41 : decode cb_putHead 41 = .ok (.iload_n 1, 1) := by decide +kernel
theorem d_putHead_42 : decode cb_putHead 42 = .ok (.iaload, 1) := by decide +kernel
theorem d_putHead_43 : decode cb_putHead 43 = .ok (.ineg, 1) := by decide +kernel
theorem d_putHead_44 : decode cb_putHead 44 = .ok (.goto 9, 3) := by decide +kernel
theorem d_putHead_47 : decode cb_putHead 47 = .ok (.aload_n 0, 1) := by decide +kernel
theorem d_putHead_48 : decode cb_putHead 48 = .ok (.getfield 19, 3) := by decide +kernel
theorem d_putHead_51 : decode cb_putHead 51 = .ok (.iload_n 1, 1) := by decide +kernel
theorem d_putHead_52 : decode cb_putHead 52 = .ok (.iaload, 1) := by decide +kernel
theorem d_putHead_53 : decode cb_putHead 53 = .ok (.iconst 1, 1) := by decide +kernel
theorem d_putHead_54 : decode cb_putHead 54 = .ok (.invokevirtual 230, 3) := by decide +kernel
theorem d_putHead_57 : decode cb_putHead 57 = .ok (.goto 162, 3) := by decide +kernel
theorem d_putHead_60 : decode cb_putHead 60 = .ok (.iload_n 2, 1) := by decide +kernel
