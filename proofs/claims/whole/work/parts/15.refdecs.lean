theorem d_putHead_61 : decode cb_putHead 61 = .ok (.iconst 2, 1) := by decide +kernel
theorem d_putHead_62 : decode cb_putHead 62 = .ok (.if_icmp .ne 50, 3) := by decide +kernel
theorem d_putHead_65 : decode cb_putHead 65 = .ok (.iconst 0, 1) := by decide +kernel
theorem d_putHead_66 : decode cb_putHead 66 = .ok (.istore_n 3, 1) := by decide +kernel
theorem d_putHead_67 : decode cb_putHead 67 = .ok (.iload_n 3, 1) := by decide +kernel
theorem d_putHead_68 : decode cb_putHead 68 = .ok (.iconst 5, 1) := by decide +kernel
theorem d_putHead_69 : decode cb_putHead 69 = .ok (.aload_n 0, 1) := by decide +kernel
theorem d_putHead_70 : decode cb_putHead 70 = .ok (.getfield 19, 3) := by decide +kernel
theorem d_putHead_73 : decode cb_putHead 73 = .ok (.iload_n 1, 1) := by decide +kernel
theorem d_putHead_74 : decode cb_putHead 74 = .ok (.iaload, 1) := by decide +kernel
theorem d_putHead_75 : decode cb_putHead 75 = .ok (.isub, 1) := by decide +kernel
theorem d_putHead_76 : decode cb_putHead 76 = .ok (.if_icmp .ge 33, 3) := by decide +kernel
theorem d_putHead_79 : decode cb_putHead 79 = .ok (.aload_n 0, 1) := by decide +kernel
theorem d_putHead_80 : decode cb_putHead 80 = .ok (.aload_n 0, 1) := by decide +kernel
theorem d_putHead_81 : decode cb_putHead 81 = .ok (.aload_n 0, 1) := by decide +kernel
theorem d_putHead_82 : decode cb_putHead 82 = .ok (.getfield 19, 3) := by decide +kernel
theorem d_putHead_85 : decode cb_putHead 85 = .ok (.iload_n 1, 1) := by decide +kernel
theorem d_putHead_86 : decode cb_putHead 86 = .ok (.iaload, 1) := by decide +kernel
theorem d_putHead_87 : decode cb_putHead 87 = .ok (.iconst 1, 1) := by decide +kernel
theorem d_putHead_88 : decode cb_putHead 88 = .ok (.if_icmp .ne 7, 3) := by decide +kernel
theorem d_putHead_91 : decode cb_putHead 91 = .ok (.iconst 1, 1) := by decide +kernel
theorem d_putHead_92 : decode cb_putHead 92 = .ok (.goto 4, 3) := by decide +kernel
theorem d_putHead_95 : decode cb_putHead 95 = .ok (.iconst 0, 1) := by decide +kernel
theorem d_putHead_96 : decode cb_putHead 96 = .ok (.iload_n 3, 1) := by decide +kernel
theorem d_putHead_97 : decode cb_putHead 97 = .ok (.invokevirtual 160, 3) := by decide +kernel
theorem d_putHead_100 : decode cb_putHead 100 = .ok (.invokevirtual 222, 3) := by decide +kernel
theorem d_putHead_103 : decode cb_putHead 103 = .ok (.iinc 3 1, 3) := by decide +kernel
theorem d_putHead_106 : decode cb_putHead 106 = .ok (.goto (-39), 3) := by decide +kernel
theorem d_putHead_109 : decode cb_putHead 109 = .ok (.goto 110, 3) := by decide +kernel
theorem d_putHead_112 : decode cb_putHead 112 = .ok (.iload_n 2, 1) := by decide +kernel
theorem d_putHead_113 : decode cb_putHead 113 = .ok (.iconst 3, 1) := by decide +kernel
theorem d_putHead_114 : decode cb_putHead 114 = .ok (.if_icmp .ne 22, 3) := by decide +kernel
theorem d_putHead_117 : decode cb_putHead 117 = .ok (.aload_n 0, 1) := by decide +kernel
theorem d_putHead_118 : decode cb_putHead 118 = .ok (.aload_n 0, 1) := by decide +kernel
theorem d_putHead_119 : decode cb_putHead 119 = .ok (.getfield 19, 3) := by decide +kernel
theorem d_putHead_122 : decode cb_putHead 122 = .ok (.iload_n 1, 1) := by decide +kernel
theorem d_putHead_123 : decode cb_putHead 123 = .ok (.iaload, 1) := by decide +kernel
theorem d_putHead_124 : decode cb_putHead 124 = .ok (.aload_n 0, 1) := by decide +kernel
theorem d_putHead_125 : decode cb_putHead 125 = .ok (.getfield 34, 3) := by decide +kernel
theorem d_putHead_128 : decode cb_putHead 128 = .ok (.iload_n 1, 1) := by decide +kernel
theorem d_putHead_129 : decode cb_putHead 129 = .ok (.iaload, 1) := by decide +kernel
theorem d_putHead_130 : decode cb_putHead 130 = .ok (.invokevirtual 226, 3) := by decide +kernel
theorem d_putHead_133 : decode cb_putHead 133 = .ok (.goto 86, 3) := by decide +kernel
theorem d_putHead_136 : decode cb_putHead 136 = .ok (.iload_n 2, 1) := by decide +kernel
theorem d_putHead_137 : decode cb_putHead 137 = .ok (.iconst 4, 1) := by decide +kernel
theorem d_putHead_138 : decode cb_putHead 138 = .ok (.if_icmp .ne 64, 3) := by decide +kernel
theorem d_putHead_141 : decode cb_putHead 141 = .ok (.aload_n 0, 1) := by decide +kernel
theorem d_putHead_142 : decode cb_putHead 142 = .ok (.aload_n 0, 1) := by decide +kernel
theorem d_putHead_143 : decode cb_putHead 143 = .ok (.getfield 19, 3) := by decide +kernel
theorem d_putHead_146 : decode cb_putHead 146 = .ok (.iload_n 1, 1) := by decide +kernel
theorem d_putHead_147 : decode cb_putHead 147 = .ok (.iaload, 1) := by decide +kernel
theorem d_putHead_148 : decode cb_putHead 148 = .ok (.sipush 10000, 3) := by decide +kernel
theorem d_putHead_151 : decode cb_putHead 151 = .ok (.idiv, 1) := by decide +kernel
theorem d_putHead_152 : decode cb_putHead 152 = .ok (.iconst 4, 1) := by decide +kernel
theorem d_putHead_153 : decode cb_putHead 153 = .ok (.invokevirtual 230, 3) := by decide +kernel
theorem d_putHead_156 : decode cb_putHead 156 = .ok (.aload_n 0, 1) := by decide +kernel
theorem d_putHead_157 : decode cb_putHead 157 = .ok (.bipush 45, 2) := by decide +kernel
theorem d_putHead_159 : decode cb_putHead 159 = .ok (.invokevirtual 222, 3) := by decide +kernel
theorem d_putHead_162 : decode cb_putHead 162 = .ok (.aload_n 0, 1) := by decide +kernel
theorem d_putHead_163 : decode cb_putHead 163 = .ok (.aload_n 0, 1) := by decide +kernel
theorem d_putHead_164 : decode cb_putHead 164 = .ok (.getfield 19, 3) := by decide +kernel
theorem d_putHead_167 : decode cb_putHead 167 = .ok (.iload_n 1, 1) := by decide +kernel
theorem d_putHead_168 : decode cb_putHead 168 = .ok (.iaload, 1) := by decide +kernel
theorem d_putHead_169 : decode cb_putHead 169 = .ok (.bipush 100, 2) := by decide +kernel
theorem d_putHead_171 : decode cb_putHead 171 = .ok (.idiv, 1) := by decide +kernel
theorem d_putHead_172 : decode cb_putHead 172 = .ok (.bipush 100, 2) := by decide +kernel
theorem d_putHead_174 : decode cb_putHead 174 = .ok (.irem, 1) := by decide +kernel
theorem d_putHead_175 : decode cb_putHead 175 = .ok (.iconst 2, 1) := by decide +kernel
theorem d_putHead_176 : decode cb_putHead 176 = .ok (.invokevirtual 230, 3) := by decide +kernel
theorem d_putHead_179 : decode cb_putHead 179 = .ok (.aload_n 0, 1) := by decide +kernel
theorem d_putHead_180 : decode cb_putHead 180 = .ok (.bipush 45, 2) := by decide +kernel
theorem d_putHead_182 : decode cb_putHead 182 = .ok (.invokevirtual 222, 3) := by decide +kernel
theorem d_putHead_185 : decode cb_putHead 185 = .ok (.aload_n 0, 1) := by decide +kernel
theorem d_putHead_186 : decode cb_putHead 186 = .ok (.aload_n 0, 1) := by decide +kernel
theorem d_putHead_187 : decode cb_putHead 187 = .ok (.getfield 19, 3) := by decide +kernel
theorem d_putHead_190 : decode cb_putHead 190 = .ok (.iload_n 1, 1) := by decide +kernel
theorem d_putHead_191 : decode cb_putHead 191 = .ok (.iaload, 1) := by decide +kernel
theorem d_putHead_192 : decode cb_putHead 192 = .ok (.bipush 100, 2) := by decide +kernel
theorem d_putHead_194 : decode cb_putHead 194 = .ok (.irem, 1) := by decide +kernel
theorem d_putHead_195 : decode cb_putHead 195 = .ok (.iconst 2, 1) := by decide +kernel
theorem d_putHead_196 : decode cb_putHead 196 = .ok (.invokevirtual 230, 3) := by decide +kernel
theorem d_putHead_199 : decode cb_putHead 199 = .ok (.goto 20, 3) := by decide +kernel
theorem d_putHead_202 : decode cb_putHead 202 = .ok (.aload_n 0, 1) := by decide +kernel
theorem d_putHead_203 : decode cb_putHead 203 = .ok (.iload_n 2, 1) := by decide +kernel
theorem d_putHead_204 : decode cb_putHead 204 = .ok (.bipush 6, 2) := by decide +kernel
theorem d_putHead_206 : decode cb_putHead 206 = .ok (.if_icmp .le 8, 3) := by decide +kernel
theorem d_putHead_209 : decode cb_putHead 209 = .ok (.bipush 123, 2) := by decide +kernel
theorem d_putHead_211 : decode cb_putHead 211 = .ok (.goto 5, 3) := by decide +kernel
theorem d_putHead_214 : decode cb_putHead 214 = .ok (.bipush 91, 2) := by decide +kernel
theorem d_putHead_216 : decode cb_putHead 216 = .ok (.invokevirtual 222, 3) := by decide +kernel
theorem d_putHead_219 : decode cb_putHead 219 = .ok (.return_, 1) := by decide +kernel
theorem d_holds_0 : decode cb_holds 0 = .ok (.aload_n 0, 1) := by decide +kernel
theorem d_holds_1 : decode cb_holds 1 = .ok (.getfield 16, 3) := by decide +kernel
theorem d_holds_4 : decode cb_holds 4 = .ok (.iload_n 1, 1) := by decide +kernel
theorem d_holds_5 : decode cb_holds 5 = .ok (.iaload, 1) := by decide +kernel
theorem d_holds_6 : decode cb_holds 6 = .ok (.iconst 4, 1) := by decide +kernel
theorem d_holds_7 : decode cb_holds 7 = .ok (.if_icmp .le 7, 3) := by decide +kernel
theorem d_holds_10 : decode cb_holds 10 = .ok (.iconst 1, 1) := by decide +kernel
theorem d_holds_11 : decode cb_holds 11 = .ok (.goto 4, 3) := by decide +kernel
theorem d_holds_14 : decode cb_holds 14 = .ok (.iconst 0, 1) := by decide +kernel
theorem d_holds_15 : decode cb_holds 15 = .ok (.ireturn, 1) := by decide +kernel
theorem d_putValue_0 : decode cb_putValue 0 = .ok (.iload_n 1, 1) := by decide +kernel
theorem d_putValue_1 : decode cb_putValue 1 = .ok (.istore_n 2, 1) := by decide +kernel
theorem d_putValue_2 : decode cb_putValue 2 = .ok (.aload_n 0, 1) := by decide +kernel
theorem d_putValue_3 : decode cb_putValue 3 = .ok (.iload_n 2, 1) := by decide +kernel
theorem d_putValue_4 : decode cb_putValue 4 = .ok (.invokevirtual 233, 3) := by decide +kernel
theorem d_putValue_7 : decode cb_putValue 7 = .ok (.iconst 1, 1) := by decide +kernel
theorem d_putValue_8 : decode cb_putValue 8 = .ok (.istore_n 3, 1) := by decide +kernel
theorem d_putValue_9 : decode cb_putValue 9 = .ok (.iconst 1, 1) := by decide +kernel
theorem d_putValue_10 : decode cb_putValue 10 = .ok (.istore 4, 2) := by decide +kernel
theorem d_putValue_12 : decode cb_putValue 12 = .ok (.iload 4, 2) := by decide +kernel
theorem d_putValue_14 : decode cb_putValue 14 = .ok (.ifCond .eq 149, 3) := by decide +kernel
theorem d_putValue_17 : decode cb_putValue 17 = .ok (.iload_n 3, 1) := by decide +kernel
theorem d_putValue_18 : decode cb_putValue 18 = .ok (.ifCond .eq 36, 3) := by decide +kernel
theorem d_putValue_21 : decode cb_putValue 21 = .ok (.aload_n 0, 1) := by decide +kernel
theorem d_putValue_22 : decode cb_putValue 22 = .ok (.iload_n 2, 1) := by decide +kernel
theorem d_putValue_23 : decode cb_putValue 23 = .ok (.invokevirtual 236, 3) := by decide +kernel
theorem d_putValue_26 : decode cb_putValue 26 = .ok (.ifCond .eq 28, 3) := by decide +kernel
theorem d_putValue_29 : decode cb_putValue 29 = .ok (.aload_n 0, 1) := by decide +kernel
theorem d_putValue_30 : decode cb_putValue 30 = .ok (.getfield 25, 3) := by decide +kernel
theorem d_putValue_33 : decode cb_putValue 33 = .ok (.iload_n 2, 1) := by decide +kernel
theorem d_putValue_34 : decode cb_putValue 34 = .ok (.iaload, 1) := by decide +kernel
theorem d_putValue_35 : decode cb_putValue 35 = .ok (.iconst (-1), 1) := by decide +kernel
theorem d_putValue_36 : decode cb_putValue 36 = .ok (.if_icmp .eq 18, 3) := by decide +kernel
theorem d_putValue_39 : decode cb_putValue 39 = .ok (.aload_n 0, 1) := by decide +kernel
theorem d_putValue_40 : decode cb_putValue 40 = .ok (.getfield 25, 3) := by decide +kernel
theorem d_putValue_43 : decode cb_putValue 43 = .ok (.iload_n 2, 1) := by decide +kernel
theorem d_putValue_44 : decode cb_putValue 44 = .ok (.iaload, 1) := by decide +kernel
theorem d_putValue_45 : decode cb_putValue 45 = .ok (.istore_n 2, 1) := by decide +kernel
theorem d_putValue_46 : decode cb_putValue 46 = .ok (.aload_n 0, 1) := by decide +kernel
theorem d_putValue_47 : decode cb_putValue 47 = .ok (.iload_n 2, 1) := by decide +kernel
theorem d_putValue_48 : decode cb_putValue 48 = .ok (.invokevirtual 239, 3) := by decide +kernel
theorem d_putValue_51 : decode cb_putValue 51 = .ok (.goto (-39), 3) := by decide +kernel
theorem d_putValue_54 : decode cb_putValue 54 = .ok (.aload_n 0, 1) := by decide +kernel
theorem d_putValue_55 : decode cb_putValue 55 = .ok (.iload_n 2, 1) := by decide +kernel
theorem d_putValue_56 : decode cb_putValue 56 = .ok (.invokevirtual 236, 3) := by decide +kernel
theorem d_putValue_59 : decode cb_putValue 59 = .ok (.ifCond .eq 25, 3) := by decide +kernel
theorem d_putValue_62 : decode cb_putValue 62 = .ok (.aload_n 0, 1) := by decide +kernel
theorem d_putValue_63 : decode cb_putValue 63 = .ok (.aload_n 0, 1) := by decide +kernel
theorem d_putValue_64 : decode cb_putValue 64 = .ok (.getfield 16, 3) := by decide +kernel
theorem d_putValue_67 : decode cb_putValue 67 = .ok (.iload_n 2, 1) := by decide +kernel
theorem d_putValue_68 : decode cb_putValue 68 = .ok (.iaload, 1) := by decide +kernel
theorem d_putValue_69 : decode cb_putValue 69 = .ok (.bipush 6, 2) := by decide +kernel
theorem d_putValue_71 : decode cb_putValue 71 = .ok (.if_icmp .le 8, 3) := by decide +kernel
theorem d_putValue_74 : decode cb_putValue 74 = .ok (.bipush 125, 2) := by decide +kernel
theorem d_putValue_76 : decode cb_putValue 76 = .ok (.goto 5, 3) := by decide +kernel
theorem d_putValue_79 : decode cb_putValue 79 = .ok (.bipush 93, 2) := by decide +kernel
theorem d_putValue_81 : decode cb_putValue 81 = .ok (.invokevirtual 222, 3) := by decide +kernel
theorem d_putValue_84 : decode cb_putValue 84 = .ok (.iload_n 2, 1) := by decide +kernel
theorem d_putValue_85 : decode cb_putValue 85 = .ok (.iload_n 1, 1) := by decide +kernel
theorem d_putValue_86 : decode cb_putValue 86 = .ok (.if_icmp .eq 7, 3) := by decide +kernel
theorem d_putValue_89 : decode cb_putValue 89 = .ok (.iconst 1, 1) := by decide +kernel
theorem d_putValue_90 : decode cb_putValue 90 = .ok (.goto 4, 3) := by decide +kernel
theorem d_putValue_93 : decode cb_putValue 93 = .ok (.iconst 0, 1) := by decide +kernel
theorem d_putValue_94 : decode cb_putValue 94 = .ok (.istore 4, 2) := by decide +kernel
theorem d_putValue_96 : decode cb_putValue 96 = .ok (.iload 4, 2) := by decide +kernel
theorem d_putValue_98 : decode cb_putValue 98 = .ok (.ifCond .eq 17, 3) := by decide +kernel
theorem d_putValue_101 : decode cb_putValue 101 = .ok (.aload_n 0, 1) := by decide +kernel
theorem d_putValue_102 : decode cb_putValue 102 = .ok (.getfield 31, 3) := by decide +kernel
theorem d_putValue_105 : decode cb_putValue 105 = .ok (.iload_n 2, 1) := by decide +kernel
theorem d_putValue_106 : decode cb_putValue 106 = .ok (.iaload, 1) := by decide +kernel
theorem d_putValue_107 : decode cb_putValue 107 = .ok (.iconst (-1), 1) := by decide +kernel
theorem d_putValue_108 : decode cb_putValue 108 = .ok (.if_icmp .eq 7, 3) := by decide +kernel
theorem d_putValue_111 : decode cb_putValue 111 = .ok (.iconst 1, 1) := by decide +kernel
theorem d_putValue_112 : decode cb_putValue 112 = .ok (.goto 4, 3) := by decide +kernel
theorem d_putValue_115 : decode cb_putValue 115 = .ok (.iconst 0, 1) := by decide +kernel
theorem d_putValue_116 : decode cb_putValue 116 = .ok (.istore_n 3, 1) := by decide +kernel
theorem d_putValue_117 : decode cb_putValue 117 = .ok (.iload_n 3, 1) := by decide +kernel
theorem d_putValue_118 : decode cb_putValue 118 = .ok (.ifCond .eq 30, 3) := by decide +kernel
theorem d_putValue_121 : decode cb_putValue 121 = .ok (.aload_n 0, 1) := by decide +kernel
theorem d_putValue_122 : decode cb_putValue 122 = .ok (.bipush 44, 2) := by decide +kernel
theorem d_putValue_124 : decode cb_putValue 124 = .ok (.invokevirtual 222, 3) := by decide +kernel
theorem d_putValue_127 : decode cb_putValue 127 = .ok (.aload_n 0, 1) := by decide +kernel
theorem d_putValue_128 : decode cb_putValue 128 = .ok (.bipush 32, 2) := by decide +kernel
theorem d_putValue_130 : decode cb_putValue 130 = .ok (.invokevirtual 222, 3) := by decide +kernel
theorem d_putValue_133 : decode cb_putValue 133 = .ok (.aload_n 0, 1) := by decide +kernel
theorem d_putValue_134 : decode cb_putValue 134 = .ok (.getfield 31, 3) := by decide +kernel
theorem d_putValue_137 : decode cb_putValue 137 = .ok (.iload_n 2, 1) := by decide +kernel
theorem d_putValue_138 : decode cb_putValue 138 = .ok (.iaload, 1) := by decide +kernel
theorem d_putValue_139 : decode cb_putValue 139 = .ok (.istore_n 2, 1) := by decide +kernel
theorem d_putValue_140 : decode cb_putValue 140 = .ok (.aload_n 0, 1) := by decide +kernel
theorem d_putValue_141 : decode cb_putValue 141 = .ok (.iload_n 2, 1) := by decide +kernel
theorem d_putValue_142 : decode cb_putValue 142 = .ok (.invokevirtual 239, 3) := by decide +kernel
theorem d_putValue_145 : decode cb_putValue 145 = .ok (.goto (-133), 3) := by decide +kernel
theorem d_putValue_148 : decode cb_putValue 148 = .ok (.iload 4, 2) := by decide +kernel
theorem d_putValue_150 : decode cb_putValue 150 = .ok (.ifCond .eq (-138), 3) := by decide +kernel
theorem d_putValue_153 : decode cb_putValue 153 = .ok (.aload_n 0, 1) := by decide +kernel
theorem d_putValue_154 : decode cb_putValue 154 = .ok (.getfield 22, 3) := by decide +kernel
theorem d_putValue_157 : decode cb_putValue 157 = .ok (.iload_n 2, 1) := by decide +kernel
theorem d_putValue_158 : decode cb_putValue 158 = .ok (.iaload, 1) := by decide +kernel
theorem d_putValue_159 : decode cb_putValue 159 = .ok (.istore_n 2, 1) := by decide +kernel
theorem d_putValue_160 : decode cb_putValue 160 = .ok (.goto (-148), 3) := by decide +kernel
theorem d_putValue_163 : decode cb_putValue 163 = .ok (.return_, 1) := by decide +kernel
theorem d_putEntry_0 : decode cb_putEntry 0 = .ok (.aload_n 0, 1) := by decide +kernel
theorem d_putEntry_1 : decode cb_putEntry 1 = .ok (.aload_n 0, 1) := by decide +kernel
theorem d_putEntry_2 : decode cb_putEntry 2 = .ok (.getfield 22, 3) := by decide +kernel
theorem d_putEntry_5 : decode cb_putEntry 5 = .ok (.iload_n 1, 1) := by decide +kernel
theorem d_putEntry_6 : decode cb_putEntry 6 = .ok (.iaload, 1) := by decide +kernel
theorem d_putEntry_7 : decode cb_putEntry 7 = .ok (.invokevirtual 142, 3) := by decide +kernel
theorem d_putEntry_10 : decode cb_putEntry 10 = .ok (.ifCond .eq 8, 3) := by decide +kernel
theorem d_putEntry_13 : decode cb_putEntry 13 = .ok (.aload_n 0, 1) := by decide +kernel
theorem d_putEntry_14 : decode cb_putEntry 14 = .ok (.iload_n 1, 1) := by decide +kernel
theorem d_putEntry_15 : decode cb_putEntry 15 = .ok (.invokevirtual 242, 3) := by decide +kernel
theorem d_putEntry_18 : decode cb_putEntry 18 = .ok (.aload_n 0, 1) := by decide +kernel
theorem d_putEntry_19 : decode cb_putEntry 19 = .ok (.iload_n 1, 1) := by decide +kernel
theorem d_putEntry_20 : decode cb_putEntry 20 = .ok (.invokevirtual 233, 3) := by decide +kernel
theorem d_putEntry_23 : decode cb_putEntry 23 = .ok (.return_, 1) := by decide +kernel
theorem d_write_0 : decode cb_write 0 = .ok (.aload_n 0, 1) := by decide +kernel
theorem d_write_1 : decode cb_write 1 = .ok (.iconst 0, 1) := by decide +kernel
theorem d_write_2 : decode cb_write 2 = .ok (.putfield 67, 3) := by decide +kernel
theorem d_write_5 : decode cb_write 5 = .ok (.aload_n 0, 1) := by decide +kernel
theorem d_write_6 : decode cb_write 6 = .ok (.iconst 0, 1) := by decide +kernel
theorem d_write_7 : decode cb_write 7 = .ok (.putfield 219, 3) := by decide +kernel
theorem d_write_10 : decode cb_write 10 = .ok (.aload_n 0, 1) := by decide +kernel
theorem d_write_11 : decode cb_write 11 = .ok (.getfield 25, 3) := by decide +kernel
theorem d_write_14 : decode cb_write 14 = .ok (.sipush 260, 3) := by decide +kernel
theorem d_write_17 : decode cb_write 17 = .ok (.aload_n 0, 1) := by decide +kernel
theorem d_write_18 : decode cb_write 18 = .ok (.getfield 210, 3) := by decide +kernel
theorem d_write_21 : decode cb_write 21 = .ok (.imul, 1) := by decide +kernel
theorem d_write_22 : decode cb_write 22 = .ok (.iaload, 1) := by decide +kernel
theorem d_write_23 : decode cb_write 23 = .ok (.istore_n 1, 1) := by decide +kernel
theorem d_write_24 : decode cb_write 24 = .ok (.iload_n 1, 1) := by decide +kernel
theorem d_write_25 : decode cb_write 25 = .ok (.iconst (-1), 1) := by decide +kernel
theorem d_write_26 : decode cb_write 26 = .ok (.if_icmp .eq 29, 3) := by decide +kernel
theorem d_write_29 : decode cb_write 29 = .ok (.aload_n 0, 1) := by decide +kernel
theorem d_write_30 : decode cb_write 30 = .ok (.iload_n 1, 1) := by decide +kernel
theorem d_write_31 : decode cb_write 31 = .ok (.invokevirtual 242, 3) := by decide +kernel
theorem d_write_34 : decode cb_write 34 = .ok (.aload_n 0, 1) := by decide +kernel
theorem d_write_35 : decode cb_write 35 = .ok (.iload_n 1, 1) := by decide +kernel
theorem d_write_36 : decode cb_write 36 = .ok (.invokevirtual 245, 3) := by decide +kernel
theorem d_write_39 : decode cb_write 39 = .ok (.aload_n 0, 1) := by decide +kernel
theorem d_write_40 : decode cb_write 40 = .ok (.bipush 10, 2) := by decide +kernel
theorem d_write_42 : decode cb_write 42 = .ok (.invokevirtual 222, 3) := by decide +kernel
theorem d_write_45 : decode cb_write 45 = .ok (.aload_n 0, 1) := by decide +kernel
theorem d_write_46 : decode cb_write 46 = .ok (.getfield 31, 3) := by decide +kernel
theorem d_write_49 : decode cb_write 49 = .ok (.iload_n 1, 1) := by decide +kernel
theorem d_write_50 : decode cb_write 50 = .ok (.iaload, 1) := by decide +kernel
theorem d_write_51 : decode cb_write 51 = .ok (.istore_n 1, 1) := by decide +kernel
theorem d_write_52 : decode cb_write 52 = .ok (.goto (-28), 3) := by decide +kernel
theorem d_write_55 : decode cb_write 55 = .ok (.aload_n 0, 1) := by decide +kernel
theorem d_write_56 : decode cb_write 56 = .ok (.getfield 219, 3) := by decide +kernel
theorem d_write_59 : decode cb_write 59 = .ok (.ireturn, 1) := by decide +kernel
theorem d_written_0 : decode cb_written 0 = .ok (.aload_n 0, 1) := by decide +kernel
theorem d_written_1 : decode cb_written 1 = .ok (.iload_n 1, 1) := by decide +kernel
theorem d_written_2 : decode cb_written 2 = .ok (.ifCond .lt 18, 3) := by decide +kernel
theorem d_written_5 : decode cb_written 5 = .ok (.iload_n 1, 1) := by decide +kernel
theorem d_written_6 : decode cb_written 6 = .ok (.aload_n 0, 1) := by decide +kernel
theorem d_written_7 : decode cb_written 7 = .ok (.getfield 219, 3) := by decide +kernel
theorem d_written_10 : decode cb_written 10 = .ok (.if_icmp .ge 10, 3) := by decide +kernel
theorem d_written_13 : decode cb_written 13 = .ok (.iload_n 1, 1) := by decide +kernel
theorem d_written_14 : decode cb_written 14 = .ok (.sipush 600, 3) := by decide +kernel
theorem d_written_17 : decode cb_written 17 = .ok (.if_icmp .lt 7, 3) := by decide +kernel
theorem d_written_20 : decode cb_written 20 = .ok (.iconst 1, 1) := by decide +kernel
theorem d_written_21 : decode cb_written 21 = .ok (.goto 4, 3) := by decide +kernel
theorem d_written_24 : decode cb_written 24 = .ok (.iconst 0, 1) := by decide +kernel
theorem d_written_25 : decode cb_written 25 = .ok (.putfield 67, 3) := by decide +kernel
theorem d_written_28 : decode cb_written 28 = .ok (.aload_n 0, 1) := by decide +kernel
theorem d_written_29 : decode cb_written 29 = .ok (.getfield 67, 3) := by decide +kernel
theorem d_written_32 : decode cb_written 32 = .ok (.ifCond .ne 12, 3) := by decide +kernel
theorem d_written_35 : decode cb_written 35 = .ok (.aload_n 0, 1) := by decide +kernel
theorem d_written_36 : decode cb_written 36 = .ok (.getfield 64, 3) := by decide +kernel
theorem d_written_39 : decode cb_written 39 = .ok (.iload_n 1, 1) := by decide +kernel
theorem d_written_40 : decode cb_written 40 = .ok (.iaload, 1) := by decide +kernel
theorem d_written_41 : decode cb_written 41 = .ok (.goto 4, 3) := by decide +kernel
theorem d_written_44 : decode cb_written 44 = .ok (.iconst 0, 1) := by decide +kernel
theorem d_written_45 : decode cb_written 45 = .ok (.ireturn, 1) := by decide +kernel
theorem d_top_0 : decode cb_top 0 = .ok (.aload_n 0, 1) := by decide +kernel
theorem d_top_1 : decode cb_top 1 = .ok (.iconst 0, 1) := by decide +kernel
theorem d_top_2 : decode cb_top 2 = .ok (.putfield 67, 3) := by decide +kernel
theorem d_top_5 : decode cb_top 5 = .ok (.aload_n 0, 1) := by decide +kernel
theorem d_top_6 : decode cb_top 6 = .ok (.sipush 260, 3) := by decide +kernel
theorem d_top_9 : decode cb_top 9 = .ok (.aload_n 0, 1) := by decide +kernel
theorem d_top_10 : decode cb_top 10 = .ok (.getfield 210, 3) := by decide +kernel
theorem d_top_13 : decode cb_top 13 = .ok (.imul, 1) := by decide +kernel
theorem d_top_14 : decode cb_top 14 = .ok (.putfield 216, 3) := by decide +kernel
theorem d_top_17 : decode cb_top 17 = .ok (.aload_n 0, 1) := by decide +kernel
theorem d_top_18 : decode cb_top 18 = .ok (.getfield 34, 3) := by decide +kernel
theorem d_top_21 : decode cb_top 21 = .ok (.aload_n 0, 1) := by decide +kernel
theorem d_top_22 : decode cb_top 22 = .ok (.getfield 216, 3) := by decide +kernel
theorem d_top_25 : decode cb_top 25 = .ok (.iaload, 1) := by decide +kernel
theorem d_top_26 : decode cb_top 26 = .ok (.ireturn, 1) := by decide +kernel
theorem d_down_0 : decode cb_down 0 = .ok (.aload_n 0, 1) := by decide +kernel
theorem d_down_1 : decode cb_down 1 = .ok (.aload_n 0, 1) := by decide +kernel
theorem d_down_2 : decode cb_down 2 = .ok (.aload_n 0, 1) := by decide +kernel
theorem d_down_3 : decode cb_down 3 = .ok (.getfield 216, 3) := by decide +kernel
theorem d_down_6 : decode cb_down 6 = .ok (.invokevirtual 236, 3) := by decide +kernel
theorem d_down_9 : decode cb_down 9 = .ok (.ifCond .eq 20, 3) := by decide +kernel
theorem d_down_12 : decode cb_down 12 = .ok (.iload_n 1, 1) := by decide +kernel
theorem d_down_13 : decode cb_down 13 = .ok (.ifCond .lt 16, 3) := by decide +kernel
theorem d_down_16 : decode cb_down 16 = .ok (.iload_n 1, 1) := by decide +kernel
theorem d_down_17 : decode cb_down 17 = .ok (.aload_n 0, 1) := by decide +kernel
theorem d_down_18 : decode cb_down 18 = .ok (.getfield 34, 3) := by decide +kernel
theorem d_down_21 : decode cb_down 21 = .ok (.aload_n 0, 1) := by decide +kernel
theorem d_down_22 : decode cb_down 22 = .ok (.getfield 216, 3) := by decide +kernel
theorem d_down_25 : decode cb_down 25 = .ok (.iaload, 1) := by decide +kernel
theorem d_down_26 : decode cb_down 26 = .ok (.if_icmp .lt 7, 3) := by decide +kernel
theorem d_down_29 : decode cb_down 29 = .ok (.iconst 1, 1) := by decide +kernel
theorem d_down_30 : decode cb_down 30 = .ok (.goto 4, 3) := by decide +kernel
theorem d_down_33 : decode cb_down 33 = .ok (.iconst 0, 1) := by decide +kernel
theorem d_down_34 : decode cb_down 34 = .ok (.putfield 67, 3) := by decide +kernel
theorem d_down_37 : decode cb_down 37 = .ok (.aload_n 0, 1) := by decide +kernel
theorem d_down_38 : decode cb_down 38 = .ok (.getfield 67, 3) := by decide +kernel
theorem d_down_41 : decode cb_down 41 = .ok (.ifCond .eq 5, 3) := by decide +kernel
theorem d_down_44 : decode cb_down 44 = .ok (.iconst 0, 1) := by decide +kernel
theorem d_down_45 : decode cb_down 45 = .ok (.ireturn, 1) := by decide +kernel
theorem d_down_46 : decode cb_down 46 = .ok (.aload_n 0, 1) := by decide +kernel
theorem d_down_47 : decode cb_down 47 = .ok (.getfield 25, 3) := by decide +kernel
theorem d_down_50 : decode cb_down 50 = .ok (.aload_n 0, 1) := by decide +kernel
theorem d_down_51 : decode cb_down 51 = .ok (.getfield 216, 3) := by decide +kernel
theorem d_down_54 : decode cb_down 54 = .ok (.iaload, 1) := by decide +kernel
theorem d_down_55 : decode cb_down 55 = .ok (.istore_n 2, 1) := by decide +kernel
theorem d_down_56 : decode cb_down 56 = .ok (.iconst 0, 1) := by decide +kernel
theorem d_down_57 : decode cb_down 57 = .ok (.istore_n 3, 1) := by decide +kernel
theorem d_down_58 : decode cb_down 58 = .ok (.iload_n 3, 1) := by decide +kernel
theorem d_down_59 : decode cb_down 59 = .ok (.iload_n 1, 1) := by decide +kernel
theorem d_down_60 : decode cb_down 60 = .ok (.if_icmp .ge 16, 3) := by decide +kernel
theorem d_down_63 : decode cb_down 63 = .ok (.aload_n 0, 1) := by decide +kernel
theorem d_down_64 : decode cb_down 64 = .ok (.getfield 31, 3) := by decide +kernel
theorem d_down_67 : decode cb_down 67 = .ok (.iload_n 2, 1) := by decide +kernel
theorem d_down_68 : decode cb_down 68 = .ok (.iaload, 1) := by decide +kernel
theorem d_down_69 : decode cb_down 69 = .ok (.istore_n 2, 1) := by decide +kernel
theorem d_down_70 : decode cb_down 70 = .ok (.iinc 3 1, 3) := by decide +kernel
theorem d_down_73 : decode cb_down 73 = .ok (.goto (-15), 3) := by decide +kernel
theorem d_down_76 : decode cb_down 76 = .ok (.aload_n 0, 1) := by decide +kernel
theorem d_down_77 : decode cb_down 77 = .ok (.iload_n 2, 1) := by decide +kernel
theorem d_down_78 : decode cb_down 78 = .ok (.putfield 216, 3) := by decide +kernel
theorem d_down_81 : decode cb_down 81 = .ok (.aload_n 0, 1) := by decide +kernel
theorem d_down_82 : decode cb_down 82 = .ok (.getfield 16, 3) := by decide +kernel
theorem d_down_85 : decode cb_down 85 = .ok (.iload_n 2, 1) := by decide +kernel
theorem d_down_86 : decode cb_down 86 = .ok (.iaload, 1) := by decide +kernel
theorem d_down_87 : decode cb_down 87 = .ok (.ireturn, 1) := by decide +kernel
theorem d_up_0 : decode cb_up 0 = .ok (.aload_n 0, 1) := by decide +kernel
theorem d_up_1 : decode cb_up 1 = .ok (.aload_n 0, 1) := by decide +kernel
theorem d_up_2 : decode cb_up 2 = .ok (.getfield 22, 3) := by decide +kernel
theorem d_up_5 : decode cb_up 5 = .ok (.aload_n 0, 1) := by decide +kernel
theorem d_up_6 : decode cb_up 6 = .ok (.getfield 216, 3) := by decide +kernel
theorem d_up_9 : decode cb_up 9 = .ok (.iaload, 1) := by decide +kernel
theorem d_up_10 : decode cb_up 10 = .ok (.iconst (-1), 1) := by decide +kernel
theorem d_up_11 : decode cb_up 11 = .ok (.if_icmp .ne 7, 3) := by decide +kernel
theorem d_up_14 : decode cb_up 14 = .ok (.iconst 1, 1) := by decide +kernel
theorem d_up_15 : decode cb_up 15 = .ok (.goto 4, 3) := by decide +kernel
theorem d_up_18 : decode cb_up 18 = .ok (.iconst 0, 1) := by decide +kernel
theorem d_up_19 : decode cb_up 19 = .ok (.putfield 67, 3) := by decide +kernel
theorem d_up_22 : decode cb_up 22 = .ok (.aload_n 0, 1) := by decide +kernel
theorem d_up_23 : decode cb_up 23 = .ok (.getfield 67, 3) := by decide +kernel
theorem d_up_26 : decode cb_up 26 = .ok (.ifCond .eq 5, 3) := by decide +kernel
theorem d_up_29 : decode cb_up 29 = .ok (.iconst 0, 1) := by decide +kernel
theorem d_up_30 : decode cb_up 30 = .ok (.ireturn, 1) := by decide +kernel
theorem d_up_31 : decode cb_up 31 = .ok (.aload_n 0, 1) := by decide +kernel
theorem d_up_32 : decode cb_up 32 = .ok (.aload_n 0, 1) := by decide +kernel
theorem d_up_33 : decode cb_up 33 = .ok (.getfield 22, 3) := by decide +kernel
theorem d_up_36 : decode cb_up 36 = .ok (.aload_n 0, 1) := by decide +kernel
theorem d_up_37 : decode cb_up 37 = .ok (.getfield 216, 3) := by decide +kernel
theorem d_up_40 : decode cb_up 40 = .ok (.iaload, 1) := by decide +kernel
theorem d_up_41 : decode cb_up 41 = .ok (.putfield 216, 3) := by decide +kernel
theorem d_up_44 : decode cb_up 44 = .ok (.aload_n 0, 1) := by decide +kernel
theorem d_up_45 : decode cb_up 45 = .ok (.getfield 16, 3) := by decide +kernel
theorem d_up_48 : decode cb_up 48 = .ok (.aload_n 0, 1) := by decide +kernel
theorem d_up_49 : decode cb_up 49 = .ok (.getfield 216, 3) := by decide +kernel
theorem d_up_52 : decode cb_up 52 = .ok (.iaload, 1) := by decide +kernel
theorem d_up_53 : decode cb_up 53 = .ok (.ireturn, 1) := by decide +kernel
theorem d_kind_0 : decode cb_kind 0 = .ok (.aload_n 0, 1) := by decide +kernel
theorem d_kind_1 : decode cb_kind 1 = .ok (.iconst 0, 1) := by decide +kernel
theorem d_kind_2 : decode cb_kind 2 = .ok (.putfield 67, 3) := by decide +kernel
theorem d_kind_5 : decode cb_kind 5 = .ok (.aload_n 0, 1) := by decide +kernel
theorem d_kind_6 : decode cb_kind 6 = .ok (.getfield 16, 3) := by decide +kernel
theorem d_kind_9 : decode cb_kind 9 = .ok (.aload_n 0, 1) := by decide +kernel
theorem d_kind_10 : decode cb_kind 10 = .ok (.getfield 216, 3) := by decide +kernel
theorem d_kind_13 : decode cb_kind 13 = .ok (.iaload, 1) := by decide +kernel
theorem d_kind_14 : decode cb_kind 14 = .ok (.ireturn, 1) := by decide +kernel
theorem d_value_0 : decode cb_value 0 = .ok (.aload_n 0, 1) := by decide +kernel
theorem d_value_1 : decode cb_value 1 = .ok (.iconst 0, 1) := by decide +kernel
theorem d_value_2 : decode cb_value 2 = .ok (.putfield 67, 3) := by decide +kernel
theorem d_value_5 : decode cb_value 5 = .ok (.aload_n 0, 1) := by decide +kernel
theorem d_value_6 : decode cb_value 6 = .ok (.getfield 16, 3) := by decide +kernel
theorem d_value_9 : decode cb_value 9 = .ok (.aload_n 0, 1) := by decide +kernel
theorem d_value_10 : decode cb_value 10 = .ok (.getfield 216, 3) := by decide +kernel
theorem d_value_13 : decode cb_value 13 = .ok (.iaload, 1) := by decide +kernel
theorem d_value_14 : decode cb_value 14 = .ok (.iconst 3, 1) := by decide +kernel
theorem d_value_15 : decode cb_value 15 = .ok (.if_icmp .eq 14, 3) := by decide +kernel
theorem d_value_18 : decode cb_value 18 = .ok (.aload_n 0, 1) := by decide +kernel
theorem d_value_19 : decode cb_value 19 = .ok (.aload_n 0, 1) := by decide +kernel
theorem d_value_20 : decode cb_value 20 = .ok (.getfield 216, 3) := by decide +kernel
theorem d_value_23 : decode cb_value 23 = .ok (.invokevirtual 236, 3) := by decide +kernel
theorem d_value_26 : decode cb_value 26 = .ok (.ifCond .eq 15, 3) := by decide +kernel
theorem d_value_29 : decode cb_value 29 = .ok (.aload_n 0, 1) := by decide +kernel
theorem d_value_30 : decode cb_value 30 = .ok (.getfield 34, 3) := by decide +kernel
theorem d_value_33 : decode cb_value 33 = .ok (.aload_n 0, 1) := by decide +kernel
theorem d_value_34 : decode cb_value 34 = .ok (.getfield 216, 3) := by decide +kernel
theorem d_value_37 : decode cb_value 37 = .ok (.iaload, 1) := by decide +kernel
theorem d_value_38 : decode cb_value 38 = .ok (.goto 12, 3) := by decide +kernel
theorem d_value_41 : decode cb_value 41 = .ok (.aload_n 0, 1) := by decide +kernel
theorem d_value_42 : decode cb_value 42 = .ok (.getfield 19, 3) := by decide +kernel
theorem d_value_45 : decode cb_value 45 = .ok (.aload_n 0, 1) := by decide +kernel
theorem d_value_46 : decode cb_value 46 = .ok (.getfield 216, 3) := by decide +kernel
theorem d_value_49 : decode cb_value 49 = .ok (.iaload, 1) := by decide +kernel
theorem d_value_50 : decode cb_value 50 = .ok (.ireturn, 1) := by decide +kernel
theorem d_letter_0 : decode cb_letter 0 = .ok (.aload_n 0, 1) := by decide +kernel
theorem d_letter_1 : decode cb_letter 1 = .ok (.aload_n 0, 1) := by decide +kernel
theorem d_letter_2 : decode cb_letter 2 = .ok (.getfield 16, 3) := by decide +kernel
theorem d_letter_5 : decode cb_letter 5 = .ok (.aload_n 0, 1) := by decide +kernel
theorem d_letter_6 : decode cb_letter 6 = .ok (.getfield 216, 3) := by decide +kernel
theorem d_letter_9 : decode cb_letter 9 = .ok (.iaload, 1) := by decide +kernel
theorem d_letter_10 : decode cb_letter 10 = .ok (.iconst 3, 1) := by decide +kernel
theorem d_letter_11 : decode cb_letter 11 = .ok (.if_icmp .eq 7, 3) := by decide +kernel
theorem d_letter_14 : decode cb_letter 14 = .ok (.iconst 1, 1) := by decide +kernel
theorem d_letter_15 : decode cb_letter 15 = .ok (.goto 25, 3) := by decide +kernel
theorem d_letter_18 : decode cb_letter 18 = .ok (.iload_n 1, 1) := by decide +kernel
theorem d_letter_19 : decode cb_letter 19 = .ok (.ifCond .lt 16, 3) := by decide +kernel
theorem d_letter_22 : decode cb_letter 22 = .ok (.iload_n 1, 1) := by decide +kernel
theorem d_letter_23 : decode cb_letter 23 = .ok (.aload_n 0, 1) := by decide +kernel
theorem d_letter_24 : decode cb_letter 24 = .ok (.getfield 34, 3) := by decide +kernel
theorem d_letter_27 : decode cb_letter 27 = .ok (.aload_n 0, 1) := by decide +kernel
theorem d_letter_28 : decode cb_letter 28 = .ok (.getfield 216, 3) := by decide +kernel
theorem d_letter_31 : decode cb_letter 31 = .ok (.iaload, 1) := by decide +kernel
theorem d_letter_32 : decode cb_letter 32 = .ok (.if_icmp .lt 7, 3) := by decide +kernel
theorem d_letter_35 : decode cb_letter 35 = .ok (.iconst 2, 1) := by decide +kernel
theorem d_letter_36 : decode cb_letter 36 = .ok (.goto 4, 3) := by decide +kernel
theorem d_letter_39 : decode cb_letter 39 = .ok (.iconst 0, 1) := by decide +kernel
theorem d_letter_40 : decode cb_letter 40 = .ok (.putfield 67, 3) := by decide +kernel
theorem d_letter_43 : decode cb_letter 43 = .ok (.aload_n 0, 1) := by decide +kernel
theorem d_letter_44 : decode cb_letter 44 = .ok (.getfield 67, 3) := by decide +kernel
theorem d_letter_47 : decode cb_letter 47 = .ok (.ifCond .ne 22, 3) := by decide +kernel
theorem d_letter_50 : decode cb_letter 50 = .ok (.aload_n 0, 1) := by decide +kernel
theorem d_letter_51 : decode cb_letter 51 = .ok (.getfield 46, 3) := by decide +kernel
theorem d_letter_54 : decode cb_letter 54 = .ok (.aload_n 0, 1) := by decide +kernel
theorem d_letter_55 : decode cb_letter 55 = .ok (.getfield 19, 3) := by decide +kernel
theorem d_letter_58 : decode cb_letter 58 = .ok (.aload_n 0, 1) := by decide +kernel
theorem d_letter_59 : decode cb_letter 59 = .ok (.getfield 216, 3) := by decide +kernel
theorem d_letter_62 : decode cb_letter 62 = .ok (.iaload, 1) := by decide +kernel
theorem d_letter_63 : decode cb_letter 63 = .ok (.iload_n 1, 1) := by decide +kernel
theorem d_letter_64 : decode cb_letter 64 = .ok (.iadd, 1) := by decide +kernel
theorem d_letter_65 : decode cb_letter 65 = .ok (.iaload, 1) := by decide +kernel
theorem d_letter_66 : decode cb_letter 66 = .ok (.goto 4, 3) := by decide +kernel
theorem d_letter_69 : decode cb_letter 69 = .ok (.iconst 0, 1) := by decide +kernel
theorem d_letter_70 : decode cb_letter 70 = .ok (.ireturn, 1) := by decide +kernel
theorem d_key_0 : decode cb_key 0 = .ok (.aload_n 0, 1) := by decide +kernel
theorem d_key_1 : decode cb_key 1 = .ok (.getfield 22, 3) := by decide +kernel
theorem d_key_4 : decode cb_key 4 = .ok (.aload_n 0, 1) := by decide +kernel
theorem d_key_5 : decode cb_key 5 = .ok (.getfield 216, 3) := by decide +kernel
theorem d_key_8 : decode cb_key 8 = .ok (.iaload, 1) := by decide +kernel
theorem d_key_9 : decode cb_key 9 = .ok (.istore_n 2, 1) := by decide +kernel
theorem d_key_10 : decode cb_key 10 = .ok (.aload_n 0, 1) := by decide +kernel
theorem d_key_11 : decode cb_key 11 = .ok (.iload_n 2, 1) := by decide +kernel
theorem d_key_12 : decode cb_key 12 = .ok (.iconst (-1), 1) := by decide +kernel
theorem d_key_13 : decode cb_key 13 = .ok (.if_icmp .ne 7, 3) := by decide +kernel
theorem d_key_16 : decode cb_key 16 = .ok (.iconst 1, 1) := by decide +kernel
theorem d_key_17 : decode cb_key 17 = .ok (.goto 16, 3) := by decide +kernel
theorem d_key_20 : decode cb_key 20 = .ok (.aload_n 0, 1) := by decide +kernel
theorem d_key_21 : decode cb_key 21 = .ok (.iload_n 2, 1) := by decide +kernel
theorem d_key_22 : decode cb_key 22 = .ok (.invokevirtual 142, 3) := by decide +kernel
theorem d_key_25 : decode cb_key 25 = .ok (.ifCond .eq 7, 3) := by decide +kernel
theorem d_key_28 : decode cb_key 28 = .ok (.iconst 0, 1) := by decide +kernel
theorem d_key_29 : decode cb_key 29 = .ok (.goto 4, 3) := by decide +kernel
theorem d_key_32 : decode cb_key 32 = .ok (.iconst 1, 1) := by decide +kernel
theorem d_key_33 : decode cb_key 33 = .ok (.putfield 67, 3) := by decide +kernel
theorem d_key_36 : decode cb_key 36 = .ok (.aload_n 0, 1) := by decide +kernel
theorem d_key_37 : decode cb_key 37 = .ok (.getfield 67, 3) := by decide +kernel
theorem d_key_40 : decode cb_key 40 = .ok (.ifCond .eq 5, 3) := by decide +kernel
theorem d_key_43 : decode cb_key 43 = .ok (.iconst 0, 1) := by decide +kernel
theorem d_key_44 : decode cb_key 44 = .ok (.ireturn, 1) := by decide +kernel
theorem d_key_45 : decode cb_key 45 = .ok (.iload_n 1, 1) := by decide +kernel
theorem d_key_46 : decode cb_key 46 = .ok (.ifCond .lt 16, 3) := by decide +kernel
theorem d_key_49 : decode cb_key 49 = .ok (.iload_n 1, 1) := by decide +kernel
theorem d_key_50 : decode cb_key 50 = .ok (.aload_n 0, 1) := by decide +kernel
theorem d_key_51 : decode cb_key 51 = .ok (.getfield 40, 3) := by decide +kernel
theorem d_key_54 : decode cb_key 54 = .ok (.aload_n 0, 1) := by decide +kernel
theorem d_key_55 : decode cb_key 55 = .ok (.getfield 216, 3) := by decide +kernel
theorem d_key_58 : decode cb_key 58 = .ok (.iaload, 1) := by decide +kernel
theorem d_key_59 : decode cb_key 59 = .ok (.if_icmp .lt 7, 3) := by decide +kernel
theorem d_key_62 : decode cb_key 62 = .ok (.iconst (-1), 1) := by decide +kernel
theorem d_key_63 : decode cb_key 63 = .ok (.goto 19, 3) := by decide +kernel
theorem d_key_66 : decode cb_key 66 = .ok (.aload_n 0, 1) := by decide +kernel
theorem d_key_67 : decode cb_key 67 = .ok (.getfield 46, 3) := by decide +kernel
theorem d_key_70 : decode cb_key 70 = .ok (.aload_n 0, 1) := by decide +kernel
theorem d_key_71 : decode cb_key 71 = .ok (.getfield 37, 3) := by decide +kernel
theorem d_key_74 : decode cb_key 74 = .ok (.aload_n 0, 1) := by decide +kernel
theorem d_key_75 : decode cb_key 75 = .ok (.getfield 216, 3) := by decide +kernel
theorem d_key_78 : decode cb_key 78 = .ok (.iaload, 1) := by decide +kernel
theorem d_key_79 : decode cb_key 79 = .ok (.iload_n 1, 1) := by decide +kernel
theorem d_key_80 : decode cb_key 80 = .ok (.iadd, 1) := by decide +kernel
theorem d_key_81 : decode cb_key 81 = .ok (.iaload, 1) := by decide +kernel
theorem d_key_82 : decode cb_key 82 = .ok (.ireturn, 1) := by decide +kernel
