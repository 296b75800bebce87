theorem d_thrown_0 : decode cb_thrown 0 = .ok (.aload_n 0, 1) := by decide +kernel
theorem d_thrown_1 : decode cb_thrown 1 = .ok (.getfield 67, 3) := by decide +kernel
theorem d_thrown_4 : decode cb_thrown 4 = .ok (.ireturn, 1) := by decide +kernel
theorem d_type_0 : decode cb_type 0 = .ok (.iload_n 3, 1) := by decide +kernel
theorem d_type_1 : decode cb_type 1 = .ok (.iconst 1, 1) := by decide +kernel
theorem d_type_2 : decode cb_type 2 = .ok (.if_icmp .lt 9, 3) := by decide +kernel
theorem d_type_5 : decode cb_type 5 = .ok (.iload_n 3, 1) := by decide +kernel
theorem d_type_6 : decode cb_type 6 = .ok (.bipush 8, 2) := by decide +kernel
theorem d_type_8 : decode cb_type 8 = .ok (.if_icmp .le 7, 3) := by decide +kernel
theorem d_type_11 : decode cb_type 11 = .ok (.iconst 1, 1) := by decide +kernel
theorem d_type_12 : decode cb_type 12 = .ok (.goto 4, 3) := by decide +kernel
theorem d_type_15 : decode cb_type 15 = .ok (.iconst 0, 1) := by decide +kernel
theorem d_type_16 : decode cb_type 16 = .ok (.istore 4, 2) := by decide +kernel
theorem d_type_18 : decode cb_type 18 = .ok (.iconst 0, 1) := by decide +kernel
theorem d_type_19 : decode cb_type 19 = .ok (.istore 5, 2) := by decide +kernel
theorem d_type_21 : decode cb_type 21 = .ok (.iload 5, 2) := by decide +kernel
theorem d_type_23 : decode cb_type 23 = .ok (.iload_n 3, 1) := by decide +kernel
theorem d_type_24 : decode cb_type 24 = .ok (.if_icmp .ge 56, 3) := by decide +kernel
theorem d_type_27 : decode cb_type 27 = .ok (.iload 4, 2) := by decide +kernel
theorem d_type_29 : decode cb_type 29 = .ok (.ifCond .ne 51, 3) := by decide +kernel
theorem d_type_32 : decode cb_type 32 = .ok (.lload_n 1, 1) := by decide +kernel
theorem d_type_33 : decode cb_type 33 = .ok (.bipush 8, 2) := by decide +kernel
theorem d_type_35 : decode cb_type 35 = .ok (.iload 5, 2) := by decide +kernel
theorem d_type_37 : decode cb_type 37 = .ok (.imul, 1) := by decide +kernel
theorem d_type_38 : decode cb_type 38 = .ok (.lshr, 1) := by decide +kernel
theorem d_type_39 : decode cb_type 39 = .ok (.ldc2_w 71, 3) := by decide +kernel
theorem d_type_42 : decode cb_type 42 = .ok (.land, 1) := by decide +kernel
theorem d_type_43 : decode cb_type 43 = .ok (.l2i, 1) := by decide +kernel
theorem d_type_44 : decode cb_type 44 = .ok (.istore 6, 2) := by decide +kernel
theorem d_type_46 : decode cb_type 46 = .ok (.iload 6, 2) := by decide +kernel
theorem d_type_48 : decode cb_type 48 = .ok (.bipush 10, 2) := by decide +kernel
theorem d_type_50 : decode cb_type 50 = .ok (.if_icmp .eq 21, 3) := by decide +kernel
theorem d_type_53 : decode cb_type 53 = .ok (.iload 6, 2) := by decide +kernel
theorem d_type_55 : decode cb_type 55 = .ok (.bipush 32, 2) := by decide +kernel
theorem d_type_57 : decode cb_type 57 = .ok (.if_icmp .lt 10, 3) := by decide +kernel
theorem d_type_60 : decode cb_type 60 = .ok (.iload 6, 2) := by decide +kernel
theorem d_type_62 : decode cb_type 62 = .ok (.bipush 126, 2) := by decide +kernel
theorem d_type_64 : decode cb_type 64 = .ok (.if_icmp .le 7, 3) := by decide +kernel
theorem d_type_67 : decode cb_type 67 = .ok (.iconst 1, 1) := by decide +kernel
theorem d_type_68 : decode cb_type 68 = .ok (.goto 4, 3) := by decide +kernel
theorem d_type_71 : decode cb_type 71 = .ok (.iconst 0, 1) := by decide +kernel
theorem d_type_72 : decode cb_type 72 = .ok (.istore 4, 2) := by decide +kernel
theorem d_type_74 : decode cb_type 74 = .ok (.iinc 5 1, 3) := by decide +kernel
theorem d_type_77 : decode cb_type 77 = .ok (.goto (-56), 3) := by decide +kernel
theorem d_type_80 : decode cb_type 80 = .ok (.aload_n 0, 1) := by decide +kernel
theorem d_type_81 : decode cb_type 81 = .ok (.iload 4, 2) := by decide +kernel
theorem d_type_83 : decode cb_type 83 = .ok (.ifCond .eq 7, 3) := by decide +kernel
theorem d_type_86 : decode cb_type 86 = .ok (.iconst 1, 1) := by decide +kernel
theorem d_type_87 : decode cb_type 87 = .ok (.goto 20, 3) := by decide +kernel
theorem d_type_90 : decode cb_type 90 = .ok (.aload_n 0, 1) := by decide +kernel
theorem d_type_91 : decode cb_type 91 = .ok (.getfield 73, 3) := by decide +kernel
theorem d_type_94 : decode cb_type 94 = .ok (.iload_n 3, 1) := by decide +kernel
theorem d_type_95 : decode cb_type 95 = .ok (.iadd, 1) := by decide +kernel
theorem d_type_96 : decode cb_type 96 = .ok (.sipush 240, 3) := by decide +kernel
theorem d_type_99 : decode cb_type 99 = .ok (.if_icmp .le 7, 3) := by decide +kernel
theorem d_type_102 : decode cb_type 102 = .ok (.iconst 2, 1) := by decide +kernel
theorem d_type_103 : decode cb_type 103 = .ok (.goto 4, 3) := by decide +kernel
theorem d_type_106 : decode cb_type 106 = .ok (.iconst 0, 1) := by decide +kernel
theorem d_type_107 : decode cb_type 107 = .ok (.putfield 67, 3) := by decide +kernel
theorem d_type_110 : decode cb_type 110 = .ok (.aload_n 0, 1) := by decide +kernel
theorem d_type_111 : decode cb_type 111 = .ok (.getfield 67, 3) := by decide +kernel
theorem d_type_114 : decode cb_type 114 = .ok (.ifCond .eq 5, 3) := by decide +kernel
theorem d_type_117 : decode cb_type 117 = .ok (.iconst 0, 1) := by decide +kernel
theorem d_type_118 : decode cb_type 118 = .ok (.ireturn, 1) := by decide +kernel
theorem d_type_119 : decode cb_type 119 = .ok (.iload_n 3, 1) := by decide +kernel
theorem d_type_120 : decode cb_type 120 = .ok (.iconst 1, 1) := by decide +kernel
theorem d_type_121 : decode cb_type 121 = .ok (.isub, 1) := by decide +kernel
theorem d_type_122 : decode cb_type 122 = .ok (.istore 5, 2) := by decide +kernel
theorem d_type_124 : decode cb_type 124 = .ok (.iload 5, 2) := by decide +kernel
theorem d_type_126 : decode cb_type 126 = .ok (.ifCond .lt 40, 3) := by decide +kernel
theorem d_type_129 : decode cb_type 129 = .ok (.aload_n 0, 1) := by decide +kernel
theorem d_type_130 : decode cb_type 130 = .ok (.getfield 7, 3) := by decide +kernel
theorem d_type_133 : decode cb_type 133 = .ok (.aload_n 0, 1) := by decide +kernel
theorem d_type_134 : decode cb_type 134 = .ok (.getfield 73, 3) := by decide +kernel
theorem d_type_137 : decode cb_type 137 = .ok (.lload_n 1, 1) := by decide +kernel
theorem d_type_138 : decode cb_type 138 = .ok (.bipush 8, 2) := by decide +kernel
theorem d_type_140 : decode cb_type 140 = .ok (.iload 5, 2) := by decide +kernel
theorem d_type_142 : decode cb_type 142 = .ok (.imul, 1) := by decide +kernel
theorem d_type_143 : decode cb_type 143 = .ok (.lshr, 1) := by decide +kernel
theorem d_type_144 : decode cb_type 144 = .ok (.ldc2_w 71, 3) := by decide +kernel
theorem d_type_147 : decode cb_type 147 = .ok (.land, 1) := by decide +kernel
theorem d_type_148 : decode cb_type 148 = .ok (.l2i, 1) := by decide +kernel
theorem d_type_149 : decode cb_type 149 = .ok (.iastore, 1) := by decide +kernel
theorem d_type_150 : decode cb_type 150 = .ok (.aload_n 0, 1) := by decide +kernel
theorem d_type_151 : decode cb_type 151 = .ok (.dup, 1) := by decide +kernel
theorem d_type_152 : decode cb_type 152 = .ok (.getfield 73, 3) := by decide +kernel
theorem d_type_155 : decode cb_type 155 = .ok (.iconst 1, 1) := by decide +kernel
theorem d_type_156 : decode cb_type 156 = .ok (.iadd, 1) := by decide +kernel
theorem d_type_157 : decode cb_type 157 = .ok (.putfield 73, 3) := by decide +kernel
theorem d_type_160 : decode cb_type 160 = .ok (.iinc 5 (-1), 3) := by decide +kernel
theorem d_type_163 : decode cb_type 163 = .ok (.goto (-39), 3) := by decide +kernel
theorem d_type_166 : decode cb_type 166 = .ok (.aload_n 0, 1) := by decide +kernel
theorem d_type_167 : decode cb_type 167 = .ok (.getfield 73, 3) := by decide +kernel
theorem d_type_170 : decode cb_type 170 = .ok (.ireturn, 1) := by decide +kernel
theorem d_here_0 : decode cb_here 0 = .ok (.aload_n 0, 1) := by decide +kernel
theorem d_here_1 : decode cb_here 1 = .ok (.getfield 76, 3) := by decide +kernel
theorem d_here_4 : decode cb_here 4 = .ok (.aload_n 0, 1) := by decide +kernel
theorem d_here_5 : decode cb_here 5 = .ok (.getfield 73, 3) := by decide +kernel
theorem d_here_8 : decode cb_here 8 = .ok (.if_icmp .ge 15, 3) := by decide +kernel
theorem d_here_11 : decode cb_here 11 = .ok (.aload_n 0, 1) := by decide +kernel
theorem d_here_12 : decode cb_here 12 = .ok (.getfield 7, 3) := by decide +kernel
theorem d_here_15 : decode cb_here 15 = .ok (.aload_n 0, 1) := by decide +kernel
theorem d_here_16 : decode cb_here 16 = .ok (.getfield 76, 3) := by decide +kernel
theorem d_here_19 : decode cb_here 19 = .ok (.iaload, 1) := by decide +kernel
theorem d_here_20 : decode cb_here 20 = .ok (.goto 4, 3) := by decide +kernel
theorem d_here_23 : decode cb_here 23 = .ok (.iconst 0, 1) := by decide +kernel
theorem d_here_24 : decode cb_here 24 = .ok (.ireturn, 1) := by decide +kernel
theorem d_fail_0 : decode cb_fail 0 = .ok (.aload_n 0, 1) := by decide +kernel
theorem d_fail_1 : decode cb_fail 1 = .ok (.iload_n 1, 1) := by decide +kernel
theorem d_fail_2 : decode cb_fail 2 = .ok (.putfield 79, 3) := by decide +kernel
theorem d_fail_5 : decode cb_fail 5 = .ok (.iconst 0, 1) := by decide +kernel
theorem d_fail_6 : decode cb_fail 6 = .ok (.ireturn, 1) := by decide +kernel
theorem d_blanks_0 : decode cb_blanks 0 = .ok (.aload_n 0, 1) := by decide +kernel
theorem d_blanks_1 : decode cb_blanks 1 = .ok (.invokevirtual 82, 3) := by decide +kernel
theorem d_blanks_4 : decode cb_blanks 4 = .ok (.bipush 32, 2) := by decide +kernel
theorem d_blanks_6 : decode cb_blanks 6 = .ok (.if_icmp .ne 16, 3) := by decide +kernel
theorem d_blanks_9 : decode cb_blanks 9 = .ok (.aload_n 0, 1) := by decide +kernel
theorem d_blanks_10 : decode cb_blanks 10 = .ok (.dup, 1) := by decide +kernel
theorem d_blanks_11 : decode cb_blanks 11 = .ok (.getfield 76, 3) := by decide +kernel
theorem d_blanks_14 : decode cb_blanks 14 = .ok (.iconst 1, 1) := by decide +kernel
theorem d_blanks_15 : decode cb_blanks 15 = .ok (.iadd, 1) := by decide +kernel
theorem d_blanks_16 : decode cb_blanks 16 = .ok (.putfield 76, 3) := by decide +kernel
theorem d_blanks_19 : decode cb_blanks 19 = .ok (.goto (-19), 3) := by decide +kernel
theorem d_blanks_22 : decode cb_blanks 22 = .ok (.return_, 1) := by decide +kernel
theorem d_comment_0 : decode cb_comment 0 = .ok (.aload_n 0, 1) := by decide +kernel
theorem d_comment_1 : decode cb_comment 1 = .ok (.invokevirtual 82, 3) := by decide +kernel
theorem d_comment_4 : decode cb_comment 4 = .ok (.bipush 10, 2) := by decide +kernel
theorem d_comment_6 : decode cb_comment 6 = .ok (.if_icmp .eq 27, 3) := by decide +kernel
theorem d_comment_9 : decode cb_comment 9 = .ok (.aload_n 0, 1) := by decide +kernel
theorem d_comment_10 : decode cb_comment 10 = .ok (.getfield 76, 3) := by decide +kernel
theorem d_comment_13 : decode cb_comment 13 = .ok (.aload_n 0, 1) := by decide +kernel
theorem d_comment_14 : decode cb_comment 14 = .ok (.getfield 73, 3) := by decide +kernel
theorem d_comment_17 : decode cb_comment 17 = .ok (.if_icmp .ge 16, 3) := by decide +kernel
theorem d_comment_20 : decode cb_comment 20 = .ok (.aload_n 0, 1) := by decide +kernel
theorem d_comment_21 : decode cb_comment 21 = .ok (.dup, 1) := by decide +kernel
theorem d_comment_22 : decode cb_comment 22 = .ok (.getfield 76, 3) := by decide +kernel
theorem d_comment_25 : decode cb_comment 25 = .ok (.iconst 1, 1) := by decide +kernel
theorem d_comment_26 : decode cb_comment 26 = .ok (.iadd, 1) := by decide +kernel
theorem d_comment_27 : decode cb_comment 27 = .ok (.putfield 76, 3) := by decide +kernel
theorem d_comment_30 : decode cb_comment 30 = .ok (.goto (-30), 3) := by decide +kernel
theorem d_comment_33 : decode cb_comment 33 = .ok (.return_, 1) := by decide +kernel
theorem d_room_0 : decode cb_room 0 = .ok (.aload_n 0, 1) := by decide +kernel
theorem d_room_1 : decode cb_room 1 = .ok (.invokevirtual 82, 3) := by decide +kernel
theorem d_room_4 : decode cb_room 4 = .ok (.bipush 32, 2) := by decide +kernel
theorem d_room_6 : decode cb_room 6 = .ok (.if_icmp .eq 21, 3) := by decide +kernel
theorem d_room_9 : decode cb_room 9 = .ok (.aload_n 0, 1) := by decide +kernel
theorem d_room_10 : decode cb_room 10 = .ok (.invokevirtual 82, 3) := by decide +kernel
theorem d_room_13 : decode cb_room 13 = .ok (.bipush 10, 2) := by decide +kernel
theorem d_room_15 : decode cb_room 15 = .ok (.if_icmp .eq 12, 3) := by decide +kernel
theorem d_room_18 : decode cb_room 18 = .ok (.aload_n 0, 1) := by decide +kernel
theorem d_room_19 : decode cb_room 19 = .ok (.invokevirtual 82, 3) := by decide +kernel
theorem d_room_22 : decode cb_room 22 = .ok (.bipush 35, 2) := by decide +kernel
theorem d_room_24 : decode cb_room 24 = .ok (.if_icmp .ne 32, 3) := by decide +kernel
theorem d_room_27 : decode cb_room 27 = .ok (.aload_n 0, 1) := by decide +kernel
theorem d_room_28 : decode cb_room 28 = .ok (.invokevirtual 82, 3) := by decide +kernel
theorem d_room_31 : decode cb_room 31 = .ok (.bipush 35, 2) := by decide +kernel
theorem d_room_33 : decode cb_room 33 = .ok (.if_icmp .ne 10, 3) := by decide +kernel
theorem d_room_36 : decode cb_room 36 = .ok (.aload_n 0, 1) := by decide +kernel
theorem d_room_37 : decode cb_room 37 = .ok (.invokevirtual 86, 3) := by decide +kernel
theorem d_room_40 : decode cb_room 40 = .ok (.goto (-40), 3) := by decide +kernel
theorem d_room_43 : decode cb_room 43 = .ok (.aload_n 0, 1) := by decide +kernel
theorem d_room_44 : decode cb_room 44 = .ok (.dup, 1) := by decide +kernel
theorem d_room_45 : decode cb_room 45 = .ok (.getfield 76, 3) := by decide +kernel
theorem d_room_48 : decode cb_room 48 = .ok (.iconst 1, 1) := by decide +kernel
theorem d_room_49 : decode cb_room 49 = .ok (.iadd, 1) := by decide +kernel
theorem d_room_50 : decode cb_room 50 = .ok (.putfield 76, 3) := by decide +kernel
theorem d_room_53 : decode cb_room 53 = .ok (.goto (-53), 3) := by decide +kernel
theorem d_room_56 : decode cb_room 56 = .ok (.return_, 1) := by decide +kernel
theorem d_isDigit_0 : decode cb_isDigit 0 = .ok (.iload_n 1, 1) := by decide +kernel
theorem d_isDigit_1 : decode cb_isDigit 1 = .ok (.bipush 48, 2) := by decide +kernel
theorem d_isDigit_3 : decode cb_isDigit 3 = .ok (.if_icmp .lt 13, 3) := by decide +kernel
theorem d_isDigit_6 : decode cb_isDigit 6 = .ok (.iload_n 1, 1) := by decide +kernel
theorem d_isDigit_7 : decode cb_isDigit 7 = .ok (.bipush 57, 2) := by decide +kernel
theorem d_isDigit_9 : decode cb_isDigit 9 = .ok (.if_icmp .gt 7, 3) := by decide +kernel
theorem d_isDigit_12 : decode cb_isDigit 12 = .ok (.iconst 1, 1) := by decide +kernel
theorem d_isDigit_13 : decode cb_isDigit 13 = .ok (.goto 4, 3) := by decide +kernel
theorem d_isDigit_16 : decode cb_isDigit 16 = .ok (.iconst 0, 1) := by decide +kernel
theorem d_isDigit_17 : decode cb_isDigit 17 = .ok (.ireturn, 1) := by decide +kernel
theorem d_isBare_0 : decode cb_isBare 0 = .ok (.iload_n 1, 1) := by decide +kernel
theorem d_isBare_1 : decode cb_isBare 1 = .ok (.bipush 97, 2) := by decide +kernel
theorem d_isBare_3 : decode cb_isBare 3 = .ok (.if_icmp .lt 9, 3) := by decide +kernel
theorem d_isBare_6 : decode cb_isBare 6 = .ok (.iload_n 1, 1) := by decide +kernel
theorem d_isBare_7 : decode cb_isBare 7 = .ok (.bipush 122, 2) := by decide +kernel
theorem d_isBare_9 : decode cb_isBare 9 = .ok (.if_icmp .le 35, 3) := by decide +kernel
theorem d_isBare_12 : decode cb_isBare 12 = .ok (.iload_n 1, 1) := by decide +kernel
theorem d_isBare_13 : decode cb_isBare 13 = .ok (.bipush 65, 2) := by decide +kernel
theorem d_isBare_15 : decode cb_isBare 15 = .ok (.if_icmp .lt 9, 3) := by decide +kernel
theorem d_isBare_18 : decode cb_isBare 18 = .ok (.iload_n 1, 1) := by decide +kernel
theorem d_isBare_19 : decode cb_isBare 19 = .ok (.bipush 90, 2) := by decide +kernel
theorem d_isBare_21 : decode cb_isBare 21 = .ok (.if_icmp .le 23, 3) := by decide +kernel
theorem d_isBare_24 : decode cb_isBare 24 = .ok (.aload_n 0, 1) := by decide +kernel
theorem d_isBare_25 : decode cb_isBare 25 = .ok (.iload_n 1, 1) := by decide +kernel
theorem d_isBare_26 : decode cb_isBare 26 = .ok (.invokevirtual 89, 3) := by decide +kernel
theorem d_isBare_29 : decode cb_isBare 29 = .ok (.ifCond .ne 15, 3) := by decide +kernel
theorem d_isBare_32 : decode cb_isBare 32 = .ok (.iload_n 1, 1) := by decide +kernel
theorem d_isBare_33 : decode cb_isBare 33 = .ok (.bipush 95, 2) := by decide +kernel
theorem d_isBare_35 : decode cb_isBare 35 = .ok (.if_icmp .eq 9, 3) := by decide +kernel
theorem d_isBare_38 : decode cb_isBare 38 = .ok (.iload_n 1, 1) := by decide +kernel
theorem d_isBare_39 : decode cb_isBare 39 = .ok (.bipush 45, 2) := by decide +kernel
theorem d_isBare_41 : decode cb_isBare 41 = .ok (.if_icmp .ne 7, 3) := by decide +kernel
theorem d_isBare_44 : decode cb_isBare 44 = .ok (.iconst 1, 1) := by decide +kernel
theorem d_isBare_45 : decode cb_isBare 45 = .ok (.goto 4, 3) := by decide +kernel
theorem d_isBare_48 : decode cb_isBare 48 = .ok (.iconst 0, 1) := by decide +kernel
theorem d_isBare_49 : decode cb_isBare 49 = .ok (.ireturn, 1) := by decide +kernel
theorem d_begin_0 : decode cb_begin 0 = .ok (.aload_n 0, 1) := by decide +kernel
theorem d_begin_1 : decode cb_begin 1 = .ok (.sipush 300, 3) := by decide +kernel
theorem d_begin_4 : decode cb_begin 4 = .ok (.aload_n 0, 1) := by decide +kernel
theorem d_begin_5 : decode cb_begin 5 = .ok (.getfield 93, 3) := by decide +kernel
theorem d_begin_8 : decode cb_begin 8 = .ok (.imul, 1) := by decide +kernel
theorem d_begin_9 : decode cb_begin 9 = .ok (.aload_n 0, 1) := by decide +kernel
theorem d_begin_10 : decode cb_begin 10 = .ok (.getfield 43, 3) := by decide +kernel
theorem d_begin_13 : decode cb_begin 13 = .ok (.aload_n 0, 1) := by decide +kernel
theorem d_begin_14 : decode cb_begin 14 = .ok (.getfield 93, 3) := by decide +kernel
theorem d_begin_17 : decode cb_begin 17 = .ok (.iaload, 1) := by decide +kernel
theorem d_begin_18 : decode cb_begin 18 = .ok (.iadd, 1) := by decide +kernel
theorem d_begin_19 : decode cb_begin 19 = .ok (.putfield 96, 3) := by decide +kernel
theorem d_begin_22 : decode cb_begin 22 = .ok (.aload_n 0, 1) := by decide +kernel
theorem d_begin_23 : decode cb_begin 23 = .ok (.iconst 0, 1) := by decide +kernel
theorem d_begin_24 : decode cb_begin 24 = .ok (.putfield 99, 3) := by decide +kernel
theorem d_begin_27 : decode cb_begin 27 = .ok (.return_, 1) := by decide +kernel
theorem d_add_0 : decode cb_add 0 = .ok (.aload_n 0, 1) := by decide +kernel
theorem d_add_1 : decode cb_add 1 = .ok (.getfield 99, 3) := by decide +kernel
theorem d_add_4 : decode cb_add 4 = .ok (.bipush 30, 2) := by decide +kernel
theorem d_add_6 : decode cb_add 6 = .ok (.if_icmp .ne 9, 3) := by decide +kernel
theorem d_add_9 : decode cb_add 9 = .ok (.aload_n 0, 1) := by decide +kernel
theorem d_add_10 : decode cb_add 10 = .ok (.iload_n 2, 1) := by decide +kernel
theorem d_add_11 : decode cb_add 11 = .ok (.invokevirtual 102, 3) := by decide +kernel
theorem d_add_14 : decode cb_add 14 = .ok (.ireturn, 1) := by decide +kernel
theorem d_add_15 : decode cb_add 15 = .ok (.aload_n 0, 1) := by decide +kernel
theorem d_add_16 : decode cb_add 16 = .ok (.getfield 46, 3) := by decide +kernel
theorem d_add_19 : decode cb_add 19 = .ok (.aload_n 0, 1) := by decide +kernel
theorem d_add_20 : decode cb_add 20 = .ok (.getfield 96, 3) := by decide +kernel
theorem d_add_23 : decode cb_add 23 = .ok (.aload_n 0, 1) := by decide +kernel
theorem d_add_24 : decode cb_add 24 = .ok (.getfield 99, 3) := by decide +kernel
theorem d_add_27 : decode cb_add 27 = .ok (.iadd, 1) := by decide +kernel
theorem d_add_28 : decode cb_add 28 = .ok (.iload_n 1, 1) := by decide +kernel
theorem d_add_29 : decode cb_add 29 = .ok (.iastore, 1) := by decide +kernel
theorem d_add_30 : decode cb_add 30 = .ok (.aload_n 0, 1) := by decide +kernel
theorem d_add_31 : decode cb_add 31 = .ok (.dup, 1) := by decide +kernel
theorem d_add_32 : decode cb_add 32 = .ok (.getfield 99, 3) := by decide +kernel
theorem d_add_35 : decode cb_add 35 = .ok (.iconst 1, 1) := by decide +kernel
theorem d_add_36 : decode cb_add 36 = .ok (.iadd, 1) := by decide +kernel
theorem d_add_37 : decode cb_add 37 = .ok (.putfield 99, 3) := by decide +kernel
theorem d_add_40 : decode cb_add 40 = .ok (.aload_n 0, 1) := by decide +kernel
theorem d_add_41 : decode cb_add 41 = .ok (.getfield 43, 3) := by decide +kernel
theorem d_add_44 : decode cb_add 44 = .ok (.aload_n 0, 1) := by decide +kernel
theorem d_add_45 : decode cb_add 45 = .ok (.getfield 93, 3) := by decide +kernel
theorem d_add_48 : decode cb_add 48 = .ok (.dup2, 1) := by decide +kernel
theorem d_add_49 : decode cb_add 49 = .ok (.iaload, 1) := by decide +kernel
theorem d_add_50 : decode cb_add 50 = .ok (.iconst 1, 1) := by decide +kernel
theorem d_add_51 : decode cb_add 51 = .ok (.iadd, 1) := by decide +kernel
theorem d_add_52 : decode cb_add 52 = .ok (.iastore, 1) := by decide +kernel
theorem d_add_53 : decode cb_add 53 = .ok (.iconst 1, 1) := by decide +kernel
theorem d_add_54 : decode cb_add 54 = .ok (.ireturn, 1) := by decide +kernel
theorem d_behindBar_0 : decode cb_behindBar 0 = .ok (.iload_n 1, 1) := by decide +kernel
theorem d_behindBar_1 : decode cb_behindBar 1 = .ok (.bipush 34, 2) := by decide +kernel
theorem d_behindBar_3 : decode cb_behindBar 3 = .ok (.if_icmp .eq 9, 3) := by decide +kernel
theorem d_behindBar_6 : decode cb_behindBar 6 = .ok (.iload_n 1, 1) := by decide +kernel
theorem d_behindBar_7 : decode cb_behindBar 7 = .ok (.bipush 92, 2) := by decide +kernel
theorem d_behindBar_9 : decode cb_behindBar 9 = .ok (.if_icmp .ne 7, 3) := by decide +kernel
theorem d_behindBar_12 : decode cb_behindBar 12 = .ok (.iload_n 1, 1) := by decide +kernel
theorem d_behindBar_13 : decode cb_behindBar 13 = .ok (.goto 26, 3) := by decide +kernel
theorem d_behindBar_16 : decode cb_behindBar 16 = .ok (.iload_n 1, 1) := by decide +kernel
theorem d_behindBar_17 : decode cb_behindBar 17 = .ok (.bipush 110, 2) := by decide +kernel
theorem d_behindBar_19 : decode cb_behindBar 19 = .ok (.if_icmp .ne 8, 3) := by decide +kernel
theorem d_behindBar_22 : decode cb_behindBar 22 = .ok (.bipush 10, 2) := by decide +kernel
theorem d_behindBar_24 : decode cb_behindBar 24 = .ok (.goto 15, 3) := by decide +kernel
theorem d_behindBar_27 : decode cb_behindBar 27 = .ok (.iload_n 1, 1) := by decide +kernel
theorem d_behindBar_28 : decode cb_behindBar 28 = .ok (.bipush 116, 2) := by decide +kernel
theorem d_behindBar_30 : decode cb_behindBar 30 = .ok (.if_icmp .ne 8, 3) := by decide +kernel
theorem d_behindBar_33 : decode cb_behindBar 33 = .ok (.bipush 9, 2) := by decide +kernel
theorem d_behindBar_35 : decode cb_behindBar 35 = .ok (.goto 4, 3) := by decide +kernel
theorem d_behindBar_38 : decode cb_behindBar 38 = .ok (.iconst 0, 1) := by decide +kernel
theorem d_behindBar_39 : decode cb_behindBar 39 = .ok (.ireturn, 1) := by decide +kernel
theorem d_string_0 : decode cb_string 0 = .ok (.aload_n 0, 1) := by decide +kernel
theorem d_string_1 : decode cb_string 1 = .ok (.invokevirtual 82, 3) := by decide +kernel
theorem d_string_4 : decode cb_string 4 = .ok (.istore_n 1, 1) := by decide +kernel
theorem d_string_5 : decode cb_string 5 = .ok (.aload_n 0, 1) := by decide +kernel
theorem d_string_6 : decode cb_string 6 = .ok (.invokevirtual 105, 3) := by decide +kernel
theorem d_string_9 : decode cb_string 9 = .ok (.aload_n 0, 1) := by decide +kernel
theorem d_string_10 : decode cb_string 10 = .ok (.dup, 1) := by decide +kernel
theorem d_string_11 : decode cb_string 11 = .ok (.getfield 76, 3) := by decide +kernel
theorem d_string_14 : decode cb_string 14 = .ok (.iconst 1, 1) := by decide +kernel
theorem d_string_15 : decode cb_string 15 = .ok (.iadd, 1) := by decide +kernel
theorem d_string_16 : decode cb_string 16 = .ok (.putfield 76, 3) := by decide +kernel
theorem d_string_19 : decode cb_string 19 = .ok (.aload_n 0, 1) := by decide +kernel
theorem d_string_20 : decode cb_string 20 = .ok (.invokevirtual 82, 3) := by decide +kernel
theorem d_string_23 : decode cb_string 23 = .ok (.iload_n 1, 1) := by decide +kernel
theorem d_string_24 : decode cb_string 24 = .ok (.if_icmp .eq 125, 3) := by decide +kernel
theorem d_string_27 : decode cb_string 27 = .ok (.aload_n 0, 1) := by decide +kernel
theorem d_string_28 : decode cb_string 28 = .ok (.invokevirtual 82, 3) := by decide +kernel
theorem d_string_31 : decode cb_string 31 = .ok (.istore_n 2, 1) := by decide +kernel
theorem d_string_32 : decode cb_string 32 = .ok (.aload_n 0, 1) := by decide +kernel
theorem d_string_33 : decode cb_string 33 = .ok (.getfield 76, 3) := by decide +kernel
theorem d_string_36 : decode cb_string 36 = .ok (.istore_n 3, 1) := by decide +kernel
theorem d_string_37 : decode cb_string 37 = .ok (.aload_n 0, 1) := by decide +kernel
theorem d_string_38 : decode cb_string 38 = .ok (.getfield 76, 3) := by decide +kernel
theorem d_string_41 : decode cb_string 41 = .ok (.aload_n 0, 1) := by decide +kernel
theorem d_string_42 : decode cb_string 42 = .ok (.getfield 73, 3) := by decide +kernel
theorem d_string_45 : decode cb_string 45 = .ok (.if_icmp .ge 9, 3) := by decide +kernel
theorem d_string_48 : decode cb_string 48 = .ok (.iload_n 2, 1) := by decide +kernel
theorem d_string_49 : decode cb_string 49 = .ok (.bipush 10, 2) := by decide +kernel
theorem d_string_51 : decode cb_string 51 = .ok (.if_icmp .ne 12, 3) := by decide +kernel
theorem d_string_54 : decode cb_string 54 = .ok (.aload_n 0, 1) := by decide +kernel
theorem d_string_55 : decode cb_string 55 = .ok (.aload_n 0, 1) := by decide +kernel
theorem d_string_56 : decode cb_string 56 = .ok (.getfield 76, 3) := by decide +kernel
theorem d_string_59 : decode cb_string 59 = .ok (.invokevirtual 102, 3) := by decide +kernel
theorem d_string_62 : decode cb_string 62 = .ok (.ireturn, 1) := by decide +kernel
theorem d_string_63 : decode cb_string 63 = .ok (.aload_n 0, 1) := by decide +kernel
theorem d_string_64 : decode cb_string 64 = .ok (.getfield 99, 3) := by decide +kernel
theorem d_string_67 : decode cb_string 67 = .ok (.bipush 30, 2) := by decide +kernel
theorem d_string_69 : decode cb_string 69 = .ok (.if_icmp .ne 12, 3) := by decide +kernel
theorem d_string_72 : decode cb_string 72 = .ok (.aload_n 0, 1) := by decide +kernel
theorem d_string_73 : decode cb_string 73 = .ok (.aload_n 0, 1) := by decide +kernel
theorem d_string_74 : decode cb_string 74 = .ok (.getfield 76, 3) := by decide +kernel
theorem d_string_77 : decode cb_string 77 = .ok (.invokevirtual 102, 3) := by decide +kernel
theorem d_string_80 : decode cb_string 80 = .ok (.ireturn, 1) := by decide +kernel
theorem d_string_81 : decode cb_string 81 = .ok (.iload_n 1, 1) := by decide +kernel
theorem d_string_82 : decode cb_string 82 = .ok (.bipush 34, 2) := by decide +kernel
theorem d_string_84 : decode cb_string 84 = .ok (.if_icmp .ne 41, 3) := by decide +kernel
theorem d_string_87 : decode cb_string 87 = .ok (.iload_n 2, 1) := by decide +kernel
theorem d_string_88 : decode cb_string 88 = .ok (.bipush 92, 2) := by decide +kernel
theorem d_string_90 : decode cb_string 90 = .ok (.if_icmp .ne 35, 3) := by decide +kernel
theorem d_string_93 : decode cb_string 93 = .ok (.aload_n 0, 1) := by decide +kernel
theorem d_string_94 : decode cb_string 94 = .ok (.dup, 1) := by decide +kernel
theorem d_string_95 : decode cb_string 95 = .ok (.getfield 76, 3) := by decide +kernel
theorem d_string_98 : decode cb_string 98 = .ok (.iconst 1, 1) := by decide +kernel
theorem d_string_99 : decode cb_string 99 = .ok (.iadd, 1) := by decide +kernel
theorem d_string_100 : decode cb_string 100 = .ok (.putfield 76, 3) := by decide +kernel
theorem d_string_103 : decode cb_string 103 = .ok (.aload_n 0, 1) := by decide +kernel
theorem d_string_104 : decode cb_string 104 = .ok (.aload_n 0, 1) := by decide +kernel
theorem d_string_105 : decode cb_string 105 = .ok (.invokevirtual 82, 3) := by decide +kernel
theorem d_string_108 : decode cb_string 108 = .ok (.invokevirtual 108, 3) := by decide +kernel
theorem d_string_111 : decode cb_string 111 = .ok (.istore_n 2, 1) := by decide +kernel
theorem d_string_112 : decode cb_string 112 = .ok (.iload_n 2, 1) := by decide +kernel
theorem d_string_113 : decode cb_string 113 = .ok (.ifCond .ne 12, 3) := by decide +kernel
theorem d_string_116 : decode cb_string 116 = .ok (.aload_n 0, 1) := by decide +kernel
theorem d_string_117 : decode cb_string 117 = .ok (.aload_n 0, 1) := by decide +kernel
theorem d_string_118 : decode cb_string 118 = .ok (.getfield 76, 3) := by decide +kernel
theorem d_string_121 : decode cb_string 121 = .ok (.invokevirtual 102, 3) := by decide +kernel
theorem d_string_124 : decode cb_string 124 = .ok (.ireturn, 1) := by decide +kernel
theorem d_string_125 : decode cb_string 125 = .ok (.aload_n 0, 1) := by decide +kernel
theorem d_string_126 : decode cb_string 126 = .ok (.iload_n 2, 1) := by decide +kernel
theorem d_string_127 : decode cb_string 127 = .ok (.iload_n 3, 1) := by decide +kernel
theorem d_string_128 : decode cb_string 128 = .ok (.invokevirtual 112, 3) := by decide +kernel
theorem d_string_131 : decode cb_string 131 = .ok (.ifCond .ne 5, 3) := by decide +kernel
theorem d_string_134 : decode cb_string 134 = .ok (.iconst 0, 1) := by decide +kernel
theorem d_string_135 : decode cb_string 135 = .ok (.ireturn, 1) := by decide +kernel
theorem d_string_136 : decode cb_string 136 = .ok (.aload_n 0, 1) := by decide +kernel
theorem d_string_137 : decode cb_string 137 = .ok (.dup, 1) := by decide +kernel
theorem d_string_138 : decode cb_string 138 = .ok (.getfield 76, 3) := by decide +kernel
theorem d_string_141 : decode cb_string 141 = .ok (.iconst 1, 1) := by decide +kernel
theorem d_string_142 : decode cb_string 142 = .ok (.iadd, 1) := by decide +kernel
theorem d_string_143 : decode cb_string 143 = .ok (.putfield 76, 3) := by decide +kernel
theorem d_string_146 : decode cb_string 146 = .ok (.goto (-127), 3) := by decide +kernel
theorem d_string_149 : decode cb_string 149 = .ok (.aload_n 0, 1) := by decide +kernel
theorem d_string_150 : decode cb_string 150 = .ok (.dup, 1) := by decide +kernel
theorem d_string_151 : decode cb_string 151 = .ok (.getfield 76, 3) := by decide +kernel
theorem d_string_154 : decode cb_string 154 = .ok (.iconst 1, 1) := by decide +kernel
theorem d_string_155 : decode cb_string 155 = .ok (.iadd, 1) := by decide +kernel
theorem d_string_156 : decode cb_string 156 = .ok (.putfield 76, 3) := by decide +kernel
theorem d_string_159 : decode cb_string 159 = .ok (.iconst 1, 1) := by decide +kernel
theorem d_string_160 : decode cb_string 160 = .ok (.ireturn, 1) := by decide +kernel
theorem d_bare_0 : decode cb_bare 0 = .ok (.aload_n 0, 1) := by decide +kernel
theorem d_bare_1 : decode cb_bare 1 = .ok (.invokevirtual 105, 3) := by decide +kernel
theorem d_bare_4 : decode cb_bare 4 = .ok (.aload_n 0, 1) := by decide +kernel
theorem d_bare_5 : decode cb_bare 5 = .ok (.aload_n 0, 1) := by decide +kernel
theorem d_bare_6 : decode cb_bare 6 = .ok (.invokevirtual 82, 3) := by decide +kernel
theorem d_bare_9 : decode cb_bare 9 = .ok (.invokevirtual 116, 3) := by decide +kernel
theorem d_bare_12 : decode cb_bare 12 = .ok (.ifCond .eq 33, 3) := by decide +kernel
theorem d_bare_15 : decode cb_bare 15 = .ok (.aload_n 0, 1) := by decide +kernel
theorem d_bare_16 : decode cb_bare 16 = .ok (.aload_n 0, 1) := by decide +kernel
theorem d_bare_17 : decode cb_bare 17 = .ok (.invokevirtual 82, 3) := by decide +kernel
theorem d_bare_20 : decode cb_bare 20 = .ok (.aload_n 0, 1) := by decide +kernel
theorem d_bare_21 : decode cb_bare 21 = .ok (.getfield 76, 3) := by decide +kernel
theorem d_bare_24 : decode cb_bare 24 = .ok (.invokevirtual 112, 3) := by decide +kernel
theorem d_bare_27 : decode cb_bare 27 = .ok (.ifCond .ne 5, 3) := by decide +kernel
theorem d_bare_30 : decode cb_bare 30 = .ok (.iconst 0, 1) := by decide +kernel
theorem d_bare_31 : decode cb_bare 31 = .ok (.ireturn, 1) := by decide +kernel
theorem d_bare_32 : decode cb_bare 32 = .ok (.aload_n 0, 1) := by decide +kernel
theorem d_bare_33 : decode cb_bare 33 = .ok (.dup, 1) := by decide +kernel
theorem d_bare_34 : decode cb_bare 34 = .ok (.getfield 76, 3) := by decide +kernel
theorem d_bare_37 : decode cb_bare 37 = .ok (.iconst 1, 1) := by decide +kernel
theorem d_bare_38 : decode cb_bare 38 = .ok (.iadd, 1) := by decide +kernel
theorem d_bare_39 : decode cb_bare 39 = .ok (.putfield 76, 3) := by decide +kernel
theorem d_bare_42 : decode cb_bare 42 = .ok (.goto (-38), 3) := by decide +kernel
theorem d_bare_45 : decode cb_bare 45 = .ok (.aload_n 0, 1) := by decide +kernel
theorem d_bare_46 : decode cb_bare 46 = .ok (.getfield 99, 3) := by decide +kernel
theorem d_bare_49 : decode cb_bare 49 = .ok (.ifCond .gt 14, 3) := by decide +kernel
theorem d_bare_52 : decode cb_bare 52 = .ok (.aload_n 0, 1) := by decide +kernel
theorem d_bare_53 : decode cb_bare 53 = .ok (.aload_n 0, 1) := by decide +kernel
theorem d_bare_54 : decode cb_bare 54 = .ok (.getfield 76, 3) := by decide +kernel
theorem d_bare_57 : decode cb_bare 57 = .ok (.invokevirtual 102, 3) := by decide +kernel
theorem d_bare_60 : decode cb_bare 60 = .ok (.ifCond .eq 7, 3) := by decide +kernel
theorem d_bare_63 : decode cb_bare 63 = .ok (.iconst 1, 1) := by decide +kernel
theorem d_bare_64 : decode cb_bare 64 = .ok (.goto 4, 3) := by decide +kernel
theorem d_bare_67 : decode cb_bare 67 = .ok (.iconst 0, 1) := by decide +kernel
theorem d_bare_68 : decode cb_bare 68 = .ok (.ireturn, 1) := by decide +kernel
theorem d_path_0 : decode cb_path 0 = .ok (.aload_n 0, 1) := by decide +kernel
theorem d_path_1 : decode cb_path 1 = .ok (.iconst 0, 1) := by decide +kernel
theorem d_path_2 : decode cb_path 2 = .ok (.putfield 119, 3) := by decide +kernel
theorem d_path_5 : decode cb_path 5 = .ok (.iconst 1, 1) := by decide +kernel
theorem d_path_6 : decode cb_path 6 = .ok (.istore_n 1, 1) := by decide +kernel
theorem d_path_7 : decode cb_path 7 = .ok (.iload_n 1, 1) := by decide +kernel
theorem d_path_8 : decode cb_path 8 = .ok (.ifCond .eq 120, 3) := by decide +kernel
theorem d_path_11 : decode cb_path 11 = .ok (.aload_n 0, 1) := by decide +kernel
theorem d_path_12 : decode cb_path 12 = .ok (.getfield 49, 3) := by decide +kernel
theorem d_path_15 : decode cb_path 15 = .ok (.aload_n 0, 1) := by decide +kernel
theorem d_path_16 : decode cb_path 16 = .ok (.getfield 119, 3) := by decide +kernel
theorem d_path_19 : decode cb_path 19 = .ok (.aload_n 0, 1) := by decide +kernel
theorem d_path_20 : decode cb_path 20 = .ok (.getfield 76, 3) := by decide +kernel
theorem d_path_23 : decode cb_path 23 = .ok (.iastore, 1) := by decide +kernel
theorem d_path_24 : decode cb_path 24 = .ok (.aload_n 0, 1) := by decide +kernel
theorem d_path_25 : decode cb_path 25 = .ok (.invokevirtual 82, 3) := by decide +kernel
theorem d_path_28 : decode cb_path 28 = .ok (.bipush 34, 2) := by decide +kernel
theorem d_path_30 : decode cb_path 30 = .ok (.if_icmp .ne 13, 3) := by decide +kernel
theorem d_path_33 : decode cb_path 33 = .ok (.aload_n 0, 1) := by decide +kernel
theorem d_path_34 : decode cb_path 34 = .ok (.invokevirtual 122, 3) := by decide +kernel
theorem d_path_37 : decode cb_path 37 = .ok (.ifCond .eq 13, 3) := by decide +kernel
theorem d_path_40 : decode cb_path 40 = .ok (.goto 12, 3) := by decide +kernel
theorem d_path_43 : decode cb_path 43 = .ok (.aload_n 0, 1) := by decide +kernel
theorem d_path_44 : decode cb_path 44 = .ok (.invokevirtual 126, 3) := by decide +kernel
theorem d_path_47 : decode cb_path 47 = .ok (.ifCond .ne 5, 3) := by decide +kernel
theorem d_path_50 : decode cb_path 50 = .ok (.iconst 0, 1) := by decide +kernel
theorem d_path_51 : decode cb_path 51 = .ok (.ireturn, 1) := by decide +kernel
theorem d_path_52 : decode cb_path 52 = .ok (.aload_n 0, 1) := by decide +kernel
theorem d_path_53 : decode cb_path 53 = .ok (.getfield 52, 3) := by decide +kernel
theorem d_path_56 : decode cb_path 56 = .ok (.aload_n 0, 1) := by decide +kernel
theorem d_path_57 : decode cb_path 57 = .ok (.getfield 119, 3) := by decide +kernel
theorem d_path_60 : decode cb_path 60 = .ok (.aload_n 0, 1) := by decide +kernel
theorem d_path_61 : decode cb_path 61 = .ok (.getfield 96, 3) := by decide +kernel
theorem d_path_64 : decode cb_path 64 = .ok (.iastore, 1) := by decide +kernel
theorem d_path_65 : decode cb_path 65 = .ok (.aload_n 0, 1) := by decide +kernel
theorem d_path_66 : decode cb_path 66 = .ok (.getfield 55, 3) := by decide +kernel
theorem d_path_69 : decode cb_path 69 = .ok (.aload_n 0, 1) := by decide +kernel
theorem d_path_70 : decode cb_path 70 = .ok (.getfield 119, 3) := by decide +kernel
theorem d_path_73 : decode cb_path 73 = .ok (.aload_n 0, 1) := by decide +kernel
theorem d_path_74 : decode cb_path 74 = .ok (.getfield 99, 3) := by decide +kernel
theorem d_path_77 : decode cb_path 77 = .ok (.iastore, 1) := by decide +kernel
theorem d_path_78 : decode cb_path 78 = .ok (.aload_n 0, 1) := by decide +kernel
theorem d_path_79 : decode cb_path 79 = .ok (.dup, 1) := by decide +kernel
theorem d_path_80 : decode cb_path 80 = .ok (.getfield 119, 3) := by decide +kernel
theorem d_path_83 : decode cb_path 83 = .ok (.iconst 1, 1) := by decide +kernel
theorem d_path_84 : decode cb_path 84 = .ok (.iadd, 1) := by decide +kernel
theorem d_path_85 : decode cb_path 85 = .ok (.putfield 119, 3) := by decide +kernel
theorem d_path_88 : decode cb_path 88 = .ok (.aload_n 0, 1) := by decide +kernel
theorem d_path_89 : decode cb_path 89 = .ok (.invokevirtual 129, 3) := by decide +kernel
theorem d_path_92 : decode cb_path 92 = .ok (.aload_n 0, 1) := by decide +kernel
theorem d_path_93 : decode cb_path 93 = .ok (.invokevirtual 82, 3) := by decide +kernel
theorem d_path_96 : decode cb_path 96 = .ok (.bipush 46, 2) := by decide +kernel
theorem d_path_98 : decode cb_path 98 = .ok (.if_icmp .ne 7, 3) := by decide +kernel
theorem d_path_101 : decode cb_path 101 = .ok (.iconst 1, 1) := by decide +kernel
theorem d_path_102 : decode cb_path 102 = .ok (.goto 4, 3) := by decide +kernel
theorem d_path_105 : decode cb_path 105 = .ok (.iconst 0, 1) := by decide +kernel
theorem d_path_106 : decode cb_path 106 = .ok (.istore_n 1, 1) := by decide +kernel
theorem d_path_107 : decode cb_path 107 = .ok (.iload_n 1, 1) := by decide +kernel
theorem d_path_108 : decode cb_path 108 = .ok (.ifCond .eq (-101), 3) := by decide +kernel
theorem d_path_111 : decode cb_path 111 = .ok (.aload_n 0, 1) := by decide +kernel
theorem d_path_112 : decode cb_path 112 = .ok (.dup, 1) := by decide +kernel
theorem d_path_113 : decode cb_path 113 = .ok (.getfield 76, 3) := by decide +kernel
theorem d_path_116 : decode cb_path 116 = .ok (.iconst 1, 1) := by decide +kernel
theorem d_path_117 : decode cb_path 117 = .ok (.iadd, 1) := by decide +kernel
theorem d_path_118 : decode cb_path 118 = .ok (.putfield 76, 3) := by decide +kernel
theorem d_path_121 : decode cb_path 121 = .ok (.aload_n 0, 1) := by decide +kernel
theorem d_path_122 : decode cb_path 122 = .ok (.invokevirtual 129, 3) := by decide +kernel
theorem d_path_125 : decode cb_path 125 = .ok (.goto (-118), 3) := by decide +kernel
theorem d_path_128 : decode cb_path 128 = .ok (.iconst 1, 1) := by decide +kernel
theorem d_path_129 : decode cb_path 129 = .ok (.ireturn, 1) := by decide +kernel
theorem d_isTable_0 : decode cb_isTable 0 = .ok (.aload_n 0, 1) := by decide +kernel
theorem d_isTable_1 : decode cb_isTable 1 = .ok (.getfield 16, 3) := by decide +kernel
theorem d_isTable_4 : decode cb_isTable 4 = .ok (.iload_n 1, 1) := by decide +kernel
theorem d_isTable_5 : decode cb_isTable 5 = .ok (.iaload, 1) := by decide +kernel
theorem d_isTable_6 : decode cb_isTable 6 = .ok (.bipush 6, 2) := by decide +kernel
theorem d_isTable_8 : decode cb_isTable 8 = .ok (.if_icmp .le 7, 3) := by decide +kernel
theorem d_isTable_11 : decode cb_isTable 11 = .ok (.iconst 1, 1) := by decide +kernel
theorem d_isTable_12 : decode cb_isTable 12 = .ok (.goto 4, 3) := by decide +kernel
theorem d_isTable_15 : decode cb_isTable 15 = .ok (.iconst 0, 1) := by decide +kernel
theorem d_isTable_16 : decode cb_isTable 16 = .ok (.ireturn, 1) := by decide +kernel
theorem d_make_0 : decode cb_make 0 = .ok (.sipush 260, 3) := by decide +kernel
theorem d_make_3 : decode cb_make 3 = .ok (.aload_n 0, 1) := by decide +kernel
theorem d_make_4 : decode cb_make 4 = .ok (.getfield 93, 3) := by decide +kernel
theorem d_make_7 : decode cb_make 7 = .ok (.imul, 1) := by decide +kernel
theorem d_make_8 : decode cb_make 8 = .ok (.aload_n 0, 1) := by decide +kernel
theorem d_make_9 : decode cb_make 9 = .ok (.getfield 13, 3) := by decide +kernel
theorem d_make_12 : decode cb_make 12 = .ok (.aload_n 0, 1) := by decide +kernel
theorem d_make_13 : decode cb_make 13 = .ok (.getfield 93, 3) := by decide +kernel
theorem d_make_16 : decode cb_make 16 = .ok (.iaload, 1) := by decide +kernel
theorem d_make_17 : decode cb_make 17 = .ok (.iadd, 1) := by decide +kernel
theorem d_make_18 : decode cb_make 18 = .ok (.istore_n 3, 1) := by decide +kernel
theorem d_make_19 : decode cb_make 19 = .ok (.aload_n 0, 1) := by decide +kernel
theorem d_make_20 : decode cb_make 20 = .ok (.getfield 13, 3) := by decide +kernel
theorem d_make_23 : decode cb_make 23 = .ok (.aload_n 0, 1) := by decide +kernel
theorem d_make_24 : decode cb_make 24 = .ok (.getfield 93, 3) := by decide +kernel
theorem d_make_27 : decode cb_make 27 = .ok (.dup2, 1) := by decide +kernel
theorem d_make_28 : decode cb_make 28 = .ok (.iaload, 1) := by decide +kernel
theorem d_make_29 : decode cb_make 29 = .ok (.iconst 1, 1) := by decide +kernel
theorem d_make_30 : decode cb_make 30 = .ok (.iadd, 1) := by decide +kernel
theorem d_make_31 : decode cb_make 31 = .ok (.iastore, 1) := by decide +kernel
theorem d_make_32 : decode cb_make 32 = .ok (.aload_n 0, 1) := by decide +kernel
theorem d_make_33 : decode cb_make 33 = .ok (.getfield 16, 3) := by decide +kernel
theorem d_make_36 : decode cb_make 36 = .ok (.iload_n 3, 1) := by decide +kernel
theorem d_make_37 : decode cb_make 37 = .ok (.iload_n 1, 1) := by decide +kernel
theorem d_make_38 : decode cb_make 38 = .ok (.iastore, 1) := by decide +kernel
theorem d_make_39 : decode cb_make 39 = .ok (.aload_n 0, 1) := by decide +kernel
theorem d_make_40 : decode cb_make 40 = .ok (.getfield 22, 3) := by decide +kernel
theorem d_make_43 : decode cb_make 43 = .ok (.iload_n 3, 1) := by decide +kernel
theorem d_make_44 : decode cb_make 44 = .ok (.iload_n 2, 1) := by decide +kernel
theorem d_make_45 : decode cb_make 45 = .ok (.iastore, 1) := by decide +kernel
theorem d_make_46 : decode cb_make 46 = .ok (.aload_n 0, 1) := by decide +kernel
theorem d_make_47 : decode cb_make 47 = .ok (.getfield 25, 3) := by decide +kernel
theorem d_make_50 : decode cb_make 50 = .ok (.iload_n 3, 1) := by decide +kernel
theorem d_make_51 : decode cb_make 51 = .ok (.iconst (-1), 1) := by decide +kernel
theorem d_make_52 : decode cb_make 52 = .ok (.iastore, 1) := by decide +kernel
theorem d_make_53 : decode cb_make 53 = .ok (.aload_n 0, 1) := by decide +kernel
theorem d_make_54 : decode cb_make 54 = .ok (.getfield 31, 3) := by decide +kernel
theorem d_make_57 : decode cb_make 57 = .ok (.iload_n 3, 1) := by decide +kernel
theorem d_make_58 : decode cb_make 58 = .ok (.iconst (-1), 1) := by decide +kernel
theorem d_make_59 : decode cb_make 59 = .ok (.iastore, 1) := by decide +kernel
theorem d_make_60 : decode cb_make 60 = .ok (.aload_n 0, 1) := by decide +kernel
theorem d_make_61 : decode cb_make 61 = .ok (.getfield 34, 3) := by decide +kernel
theorem d_make_64 : decode cb_make 64 = .ok (.iload_n 3, 1) := by decide +kernel
theorem d_make_65 : decode cb_make 65 = .ok (.iconst 0, 1) := by decide +kernel
theorem d_make_66 : decode cb_make 66 = .ok (.iastore, 1) := by decide +kernel
theorem d_make_67 : decode cb_make 67 = .ok (.aload_n 0, 1) := by decide +kernel
theorem d_make_68 : decode cb_make 68 = .ok (.getfield 19, 3) := by decide +kernel
theorem d_make_71 : decode cb_make 71 = .ok (.iload_n 3, 1) := by decide +kernel
theorem d_make_72 : decode cb_make 72 = .ok (.iconst 0, 1) := by decide +kernel
theorem d_make_73 : decode cb_make 73 = .ok (.iastore, 1) := by decide +kernel
theorem d_make_74 : decode cb_make 74 = .ok (.iload_n 2, 1) := by decide +kernel
theorem d_make_75 : decode cb_make 75 = .ok (.iconst (-1), 1) := by decide +kernel
theorem d_make_76 : decode cb_make 76 = .ok (.if_icmp .eq 52, 3) := by decide +kernel
theorem d_make_79 : decode cb_make 79 = .ok (.aload_n 0, 1) := by decide +kernel
theorem d_make_80 : decode cb_make 80 = .ok (.getfield 25, 3) := by decide +kernel
theorem d_make_83 : decode cb_make 83 = .ok (.iload_n 2, 1) := by decide +kernel
theorem d_make_84 : decode cb_make 84 = .ok (.iaload, 1) := by decide +kernel
theorem d_make_85 : decode cb_make 85 = .ok (.iconst (-1), 1) := by decide +kernel
theorem d_make_86 : decode cb_make 86 = .ok (.if_icmp .ne 13, 3) := by decide +kernel
theorem d_make_89 : decode cb_make 89 = .ok (.aload_n 0, 1) := by decide +kernel
theorem d_make_90 : decode cb_make 90 = .ok (.getfield 25, 3) := by decide +kernel
theorem d_make_93 : decode cb_make 93 = .ok (.iload_n 2, 1) := by decide +kernel
theorem d_make_94 : decode cb_make 94 = .ok (.iload_n 3, 1) := by decide +kernel
theorem d_make_95 : decode cb_make 95 = .ok (.iastore, 1) := by decide +kernel
theorem d_make_96 : decode cb_make 96 = .ok (.goto 15, 3) := by decide +kernel
theorem d_make_99 : decode cb_make 99 = .ok (.aload_n 0, 1) := by decide +kernel
theorem d_make_100 : decode cb_make 100 = .ok (.getfield 31, 3) := by decide +kernel
theorem d_make_103 : decode cb_make 103 = .ok (.aload_n 0, 1) := by decide +kernel
theorem d_make_104 : decode cb_make 104 = .ok (.getfield 28, 3) := by decide +kernel
theorem d_make_107 : decode cb_make 107 = .ok (.iload_n 2, 1) := by decide +kernel
theorem d_make_108 : decode cb_make 108 = .ok (.iaload, 1) := by decide +kernel
theorem d_make_109 : decode cb_make 109 = .ok (.iload_n 3, 1) := by decide +kernel
