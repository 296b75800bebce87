theorem d_make_110 : decode cb_make 110 = .ok (.iastore, 1) := by decide +kernel
theorem d_make_111 : decode cb_make 111 = .ok (.aload_n 0, 1) := by decide +kernel
theorem d_make_112 : decode cb_make 112 = .ok (.getfield 28, 3) := by decide +kernel
theorem d_make_115 : decode cb_make 115 = .ok (.iload_n 2, 1) := by decide +kernel
theorem d_make_116 : decode cb_make 116 = .ok (.iload_n 3, 1) := by decide +kernel
theorem d_make_117 : decode cb_make 117 = .ok (.iastore, 1) := by decide +kernel
theorem d_make_118 : decode cb_make 118 = .ok (.aload_n 0, 1) := by decide +kernel
theorem d_make_119 : decode cb_make 119 = .ok (.getfield 34, 3) := by decide +kernel
theorem d_make_122 : decode cb_make 122 = .ok (.iload_n 2, 1) := by decide +kernel
theorem d_make_123 : decode cb_make 123 = .ok (.dup2, 1) := by decide +kernel
theorem d_make_124 : decode cb_make 124 = .ok (.iaload, 1) := by decide +kernel
theorem d_make_125 : decode cb_make 125 = .ok (.iconst 1, 1) := by decide +kernel
theorem d_make_126 : decode cb_make 126 = .ok (.iadd, 1) := by decide +kernel
theorem d_make_127 : decode cb_make 127 = .ok (.iastore, 1) := by decide +kernel
theorem d_make_128 : decode cb_make 128 = .ok (.iload_n 3, 1) := by decide +kernel
theorem d_make_129 : decode cb_make 129 = .ok (.ireturn, 1) := by decide +kernel
theorem d_named_0 : decode cb_named 0 = .ok (.aload_n 0, 1) := by decide +kernel
theorem d_named_1 : decode cb_named 1 = .ok (.getfield 37, 3) := by decide +kernel
theorem d_named_4 : decode cb_named 4 = .ok (.iload_n 1, 1) := by decide +kernel
theorem d_named_5 : decode cb_named 5 = .ok (.aload_n 0, 1) := by decide +kernel
theorem d_named_6 : decode cb_named 6 = .ok (.getfield 52, 3) := by decide +kernel
theorem d_named_9 : decode cb_named 9 = .ok (.iload_n 2, 1) := by decide +kernel
theorem d_named_10 : decode cb_named 10 = .ok (.iaload, 1) := by decide +kernel
theorem d_named_11 : decode cb_named 11 = .ok (.iastore, 1) := by decide +kernel
theorem d_named_12 : decode cb_named 12 = .ok (.aload_n 0, 1) := by decide +kernel
theorem d_named_13 : decode cb_named 13 = .ok (.getfield 40, 3) := by decide +kernel
theorem d_named_16 : decode cb_named 16 = .ok (.iload_n 1, 1) := by decide +kernel
theorem d_named_17 : decode cb_named 17 = .ok (.aload_n 0, 1) := by decide +kernel
theorem d_named_18 : decode cb_named 18 = .ok (.getfield 55, 3) := by decide +kernel
theorem d_named_21 : decode cb_named 21 = .ok (.iload_n 2, 1) := by decide +kernel
theorem d_named_22 : decode cb_named 22 = .ok (.iaload, 1) := by decide +kernel
theorem d_named_23 : decode cb_named 23 = .ok (.iastore, 1) := by decide +kernel
theorem d_named_24 : decode cb_named 24 = .ok (.iload_n 1, 1) := by decide +kernel
theorem d_named_25 : decode cb_named 25 = .ok (.ireturn, 1) := by decide +kernel
theorem d_entryOf_0 : decode cb_entryOf 0 = .ok (.aload_n 0, 1) := by decide +kernel
theorem d_entryOf_1 : decode cb_entryOf 1 = .ok (.getfield 25, 3) := by decide +kernel
theorem d_entryOf_4 : decode cb_entryOf 4 = .ok (.iload_n 1, 1) := by decide +kernel
theorem d_entryOf_5 : decode cb_entryOf 5 = .ok (.iaload, 1) := by decide +kernel
theorem d_entryOf_6 : decode cb_entryOf 6 = .ok (.istore_n 3, 1) := by decide +kernel
theorem d_entryOf_7 : decode cb_entryOf 7 = .ok (.iload_n 3, 1) := by decide +kernel
theorem d_entryOf_8 : decode cb_entryOf 8 = .ok (.iconst (-1), 1) := by decide +kernel
theorem d_entryOf_9 : decode cb_entryOf 9 = .ok (.if_icmp .eq 105, 3) := by decide +kernel
theorem d_entryOf_12 : decode cb_entryOf 12 = .ok (.aload_n 0, 1) := by decide +kernel
theorem d_entryOf_13 : decode cb_entryOf 13 = .ok (.getfield 40, 3) := by decide +kernel
theorem d_entryOf_16 : decode cb_entryOf 16 = .ok (.iload_n 3, 1) := by decide +kernel
theorem d_entryOf_17 : decode cb_entryOf 17 = .ok (.iaload, 1) := by decide +kernel
theorem d_entryOf_18 : decode cb_entryOf 18 = .ok (.aload_n 0, 1) := by decide +kernel
theorem d_entryOf_19 : decode cb_entryOf 19 = .ok (.getfield 55, 3) := by decide +kernel
theorem d_entryOf_22 : decode cb_entryOf 22 = .ok (.iload_n 2, 1) := by decide +kernel
theorem d_entryOf_23 : decode cb_entryOf 23 = .ok (.iaload, 1) := by decide +kernel
theorem d_entryOf_24 : decode cb_entryOf 24 = .ok (.if_icmp .ne 7, 3) := by decide +kernel
theorem d_entryOf_27 : decode cb_entryOf 27 = .ok (.iconst 1, 1) := by decide +kernel
theorem d_entryOf_28 : decode cb_entryOf 28 = .ok (.goto 4, 3) := by decide +kernel
theorem d_entryOf_31 : decode cb_entryOf 31 = .ok (.iconst 0, 1) := by decide +kernel
theorem d_entryOf_32 : decode cb_entryOf 32 = .ok (.istore 4, 2) := by decide +kernel
theorem d_entryOf_34 : decode cb_entryOf 34 = .ok (.iconst 0, 1) := by decide +kernel
theorem d_entryOf_35 : decode cb_entryOf 35 = .ok (.istore 5, 2) := by decide +kernel
theorem d_entryOf_37 : decode cb_entryOf 37 = .ok (.iload 5, 2) := by decide +kernel
theorem d_entryOf_39 : decode cb_entryOf 39 = .ok (.aload_n 0, 1) := by decide +kernel
theorem d_entryOf_40 : decode cb_entryOf 40 = .ok (.getfield 55, 3) := by decide +kernel
theorem d_entryOf_43 : decode cb_entryOf 43 = .ok (.iload_n 2, 1) := by decide +kernel
theorem d_entryOf_44 : decode cb_entryOf 44 = .ok (.iaload, 1) := by decide +kernel
theorem d_entryOf_45 : decode cb_entryOf 45 = .ok (.if_icmp .ge 52, 3) := by decide +kernel
theorem d_entryOf_48 : decode cb_entryOf 48 = .ok (.iload 4, 2) := by decide +kernel
theorem d_entryOf_50 : decode cb_entryOf 50 = .ok (.ifCond .eq 47, 3) := by decide +kernel
theorem d_entryOf_53 : decode cb_entryOf 53 = .ok (.aload_n 0, 1) := by decide +kernel
theorem d_entryOf_54 : decode cb_entryOf 54 = .ok (.getfield 46, 3) := by decide +kernel
theorem d_entryOf_57 : decode cb_entryOf 57 = .ok (.aload_n 0, 1) := by decide +kernel
theorem d_entryOf_58 : decode cb_entryOf 58 = .ok (.getfield 37, 3) := by decide +kernel
theorem d_entryOf_61 : decode cb_entryOf 61 = .ok (.iload_n 3, 1) := by decide +kernel
theorem d_entryOf_62 : decode cb_entryOf 62 = .ok (.iaload, 1) := by decide +kernel
theorem d_entryOf_63 : decode cb_entryOf 63 = .ok (.iload 5, 2) := by decide +kernel
theorem d_entryOf_65 : decode cb_entryOf 65 = .ok (.iadd, 1) := by decide +kernel
theorem d_entryOf_66 : decode cb_entryOf 66 = .ok (.iaload, 1) := by decide +kernel
theorem d_entryOf_67 : decode cb_entryOf 67 = .ok (.aload_n 0, 1) := by decide +kernel
theorem d_entryOf_68 : decode cb_entryOf 68 = .ok (.getfield 46, 3) := by decide +kernel
theorem d_entryOf_71 : decode cb_entryOf 71 = .ok (.aload_n 0, 1) := by decide +kernel
theorem d_entryOf_72 : decode cb_entryOf 72 = .ok (.getfield 52, 3) := by decide +kernel
theorem d_entryOf_75 : decode cb_entryOf 75 = .ok (.iload_n 2, 1) := by decide +kernel
theorem d_entryOf_76 : decode cb_entryOf 76 = .ok (.iaload, 1) := by decide +kernel
theorem d_entryOf_77 : decode cb_entryOf 77 = .ok (.iload 5, 2) := by decide +kernel
theorem d_entryOf_79 : decode cb_entryOf 79 = .ok (.iadd, 1) := by decide +kernel
theorem d_entryOf_80 : decode cb_entryOf 80 = .ok (.iaload, 1) := by decide +kernel
theorem d_entryOf_81 : decode cb_entryOf 81 = .ok (.if_icmp .ne 7, 3) := by decide +kernel
theorem d_entryOf_84 : decode cb_entryOf 84 = .ok (.iconst 1, 1) := by decide +kernel
theorem d_entryOf_85 : decode cb_entryOf 85 = .ok (.goto 4, 3) := by decide +kernel
theorem d_entryOf_88 : decode cb_entryOf 88 = .ok (.iconst 0, 1) := by decide +kernel
theorem d_entryOf_89 : decode cb_entryOf 89 = .ok (.istore 4, 2) := by decide +kernel
theorem d_entryOf_91 : decode cb_entryOf 91 = .ok (.iinc 5 1, 3) := by decide +kernel
theorem d_entryOf_94 : decode cb_entryOf 94 = .ok (.goto (-57), 3) := by decide +kernel
theorem d_entryOf_97 : decode cb_entryOf 97 = .ok (.iload 4, 2) := by decide +kernel
theorem d_entryOf_99 : decode cb_entryOf 99 = .ok (.ifCond .eq 5, 3) := by decide +kernel
theorem d_entryOf_102 : decode cb_entryOf 102 = .ok (.iload_n 3, 1) := by decide +kernel
theorem d_entryOf_103 : decode cb_entryOf 103 = .ok (.ireturn, 1) := by decide +kernel
theorem d_entryOf_104 : decode cb_entryOf 104 = .ok (.aload_n 0, 1) := by decide +kernel
theorem d_entryOf_105 : decode cb_entryOf 105 = .ok (.getfield 31, 3) := by decide +kernel
theorem d_entryOf_108 : decode cb_entryOf 108 = .ok (.iload_n 3, 1) := by decide +kernel
theorem d_entryOf_109 : decode cb_entryOf 109 = .ok (.iaload, 1) := by decide +kernel
theorem d_entryOf_110 : decode cb_entryOf 110 = .ok (.istore_n 3, 1) := by decide +kernel
theorem d_entryOf_111 : decode cb_entryOf 111 = .ok (.goto (-104), 3) := by decide +kernel
theorem d_entryOf_114 : decode cb_entryOf 114 = .ok (.iconst (-1), 1) := by decide +kernel
theorem d_entryOf_115 : decode cb_entryOf 115 = .ok (.ireturn, 1) := by decide +kernel
theorem d_leadEntry_0 : decode cb_leadEntry 0 = .ok (.iload_n 1, 1) := by decide +kernel
theorem d_leadEntry_1 : decode cb_leadEntry 1 = .ok (.istore_n 2, 1) := by decide +kernel
theorem d_leadEntry_2 : decode cb_leadEntry 2 = .ok (.iconst 0, 1) := by decide +kernel
theorem d_leadEntry_3 : decode cb_leadEntry 3 = .ok (.istore_n 3, 1) := by decide +kernel
theorem d_leadEntry_4 : decode cb_leadEntry 4 = .ok (.iload_n 3, 1) := by decide +kernel
theorem d_leadEntry_5 : decode cb_leadEntry 5 = .ok (.aload_n 0, 1) := by decide +kernel
theorem d_leadEntry_6 : decode cb_leadEntry 6 = .ok (.getfield 119, 3) := by decide +kernel
theorem d_leadEntry_9 : decode cb_leadEntry 9 = .ok (.iconst 1, 1) := by decide +kernel
theorem d_leadEntry_10 : decode cb_leadEntry 10 = .ok (.isub, 1) := by decide +kernel
theorem d_leadEntry_11 : decode cb_leadEntry 11 = .ok (.if_icmp .ge 71, 3) := by decide +kernel
theorem d_leadEntry_14 : decode cb_leadEntry 14 = .ok (.aload_n 0, 1) := by decide +kernel
theorem d_leadEntry_15 : decode cb_leadEntry 15 = .ok (.iload_n 2, 1) := by decide +kernel
theorem d_leadEntry_16 : decode cb_leadEntry 16 = .ok (.iload_n 3, 1) := by decide +kernel
theorem d_leadEntry_17 : decode cb_leadEntry 17 = .ok (.invokevirtual 132, 3) := by decide +kernel
theorem d_leadEntry_20 : decode cb_leadEntry 20 = .ok (.istore 4, 2) := by decide +kernel
theorem d_leadEntry_22 : decode cb_leadEntry 22 = .ok (.iload 4, 2) := by decide +kernel
theorem d_leadEntry_24 : decode cb_leadEntry 24 = .ok (.iconst (-1), 1) := by decide +kernel
theorem d_leadEntry_25 : decode cb_leadEntry 25 = .ok (.if_icmp .eq 27, 3) := by decide +kernel
theorem d_leadEntry_28 : decode cb_leadEntry 28 = .ok (.aload_n 0, 1) := by decide +kernel
theorem d_leadEntry_29 : decode cb_leadEntry 29 = .ok (.getfield 16, 3) := by decide +kernel
theorem d_leadEntry_32 : decode cb_leadEntry 32 = .ok (.iload 4, 2) := by decide +kernel
theorem d_leadEntry_34 : decode cb_leadEntry 34 = .ok (.iaload, 1) := by decide +kernel
theorem d_leadEntry_35 : decode cb_leadEntry 35 = .ok (.bipush 9, 2) := by decide +kernel
theorem d_leadEntry_37 : decode cb_leadEntry 37 = .ok (.if_icmp .eq 15, 3) := by decide +kernel
theorem d_leadEntry_40 : decode cb_leadEntry 40 = .ok (.aload_n 0, 1) := by decide +kernel
theorem d_leadEntry_41 : decode cb_leadEntry 41 = .ok (.aload_n 0, 1) := by decide +kernel
theorem d_leadEntry_42 : decode cb_leadEntry 42 = .ok (.getfield 49, 3) := by decide +kernel
theorem d_leadEntry_45 : decode cb_leadEntry 45 = .ok (.iload_n 3, 1) := by decide +kernel
theorem d_leadEntry_46 : decode cb_leadEntry 46 = .ok (.iaload, 1) := by decide +kernel
theorem d_leadEntry_47 : decode cb_leadEntry 47 = .ok (.putfield 79, 3) := by decide +kernel
theorem d_leadEntry_50 : decode cb_leadEntry 50 = .ok (.iconst (-1), 1) := by decide +kernel
theorem d_leadEntry_51 : decode cb_leadEntry 51 = .ok (.ireturn, 1) := by decide +kernel
theorem d_leadEntry_52 : decode cb_leadEntry 52 = .ok (.iload 4, 2) := by decide +kernel
theorem d_leadEntry_54 : decode cb_leadEntry 54 = .ok (.iconst (-1), 1) := by decide +kernel
theorem d_leadEntry_55 : decode cb_leadEntry 55 = .ok (.if_icmp .ne 18, 3) := by decide +kernel
theorem d_leadEntry_58 : decode cb_leadEntry 58 = .ok (.aload_n 0, 1) := by decide +kernel
theorem d_leadEntry_59 : decode cb_leadEntry 59 = .ok (.aload_n 0, 1) := by decide +kernel
theorem d_leadEntry_60 : decode cb_leadEntry 60 = .ok (.bipush 9, 2) := by decide +kernel
theorem d_leadEntry_62 : decode cb_leadEntry 62 = .ok (.iload_n 2, 1) := by decide +kernel
theorem d_leadEntry_63 : decode cb_leadEntry 63 = .ok (.invokevirtual 136, 3) := by decide +kernel
theorem d_leadEntry_66 : decode cb_leadEntry 66 = .ok (.iload_n 3, 1) := by decide +kernel
theorem d_leadEntry_67 : decode cb_leadEntry 67 = .ok (.invokevirtual 139, 3) := by decide +kernel
theorem d_leadEntry_70 : decode cb_leadEntry 70 = .ok (.goto 5, 3) := by decide +kernel
theorem d_leadEntry_73 : decode cb_leadEntry 73 = .ok (.iload 4, 2) := by decide +kernel
theorem d_leadEntry_75 : decode cb_leadEntry 75 = .ok (.istore_n 2, 1) := by decide +kernel
theorem d_leadEntry_76 : decode cb_leadEntry 76 = .ok (.iinc 3 1, 3) := by decide +kernel
theorem d_leadEntry_79 : decode cb_leadEntry 79 = .ok (.goto (-75), 3) := by decide +kernel
theorem d_leadEntry_82 : decode cb_leadEntry 82 = .ok (.aload_n 0, 1) := by decide +kernel
theorem d_leadEntry_83 : decode cb_leadEntry 83 = .ok (.iload_n 2, 1) := by decide +kernel
theorem d_leadEntry_84 : decode cb_leadEntry 84 = .ok (.aload_n 0, 1) := by decide +kernel
theorem d_leadEntry_85 : decode cb_leadEntry 85 = .ok (.getfield 119, 3) := by decide +kernel
theorem d_leadEntry_88 : decode cb_leadEntry 88 = .ok (.iconst 1, 1) := by decide +kernel
theorem d_leadEntry_89 : decode cb_leadEntry 89 = .ok (.isub, 1) := by decide +kernel
theorem d_leadEntry_90 : decode cb_leadEntry 90 = .ok (.invokevirtual 132, 3) := by decide +kernel
theorem d_leadEntry_93 : decode cb_leadEntry 93 = .ok (.iconst (-1), 1) := by decide +kernel
theorem d_leadEntry_94 : decode cb_leadEntry 94 = .ok (.if_icmp .eq 20, 3) := by decide +kernel
theorem d_leadEntry_97 : decode cb_leadEntry 97 = .ok (.aload_n 0, 1) := by decide +kernel
theorem d_leadEntry_98 : decode cb_leadEntry 98 = .ok (.aload_n 0, 1) := by decide +kernel
theorem d_leadEntry_99 : decode cb_leadEntry 99 = .ok (.getfield 49, 3) := by decide +kernel
theorem d_leadEntry_102 : decode cb_leadEntry 102 = .ok (.aload_n 0, 1) := by decide +kernel
theorem d_leadEntry_103 : decode cb_leadEntry 103 = .ok (.getfield 119, 3) := by decide +kernel
theorem d_leadEntry_106 : decode cb_leadEntry 106 = .ok (.iconst 1, 1) := by decide +kernel
theorem d_leadEntry_107 : decode cb_leadEntry 107 = .ok (.isub, 1) := by decide +kernel
theorem d_leadEntry_108 : decode cb_leadEntry 108 = .ok (.iaload, 1) := by decide +kernel
theorem d_leadEntry_109 : decode cb_leadEntry 109 = .ok (.putfield 79, 3) := by decide +kernel
theorem d_leadEntry_112 : decode cb_leadEntry 112 = .ok (.iconst (-1), 1) := by decide +kernel
theorem d_leadEntry_113 : decode cb_leadEntry 113 = .ok (.ireturn, 1) := by decide +kernel
theorem d_leadEntry_114 : decode cb_leadEntry 114 = .ok (.iload_n 2, 1) := by decide +kernel
theorem d_leadEntry_115 : decode cb_leadEntry 115 = .ok (.ireturn, 1) := by decide +kernel
theorem d_leadHeader_0 : decode cb_leadHeader 0 = .ok (.sipush 260, 3) := by decide +kernel
theorem d_leadHeader_3 : decode cb_leadHeader 3 = .ok (.aload_n 0, 1) := by decide +kernel
theorem d_leadHeader_4 : decode cb_leadHeader 4 = .ok (.getfield 93, 3) := by decide +kernel
theorem d_leadHeader_7 : decode cb_leadHeader 7 = .ok (.imul, 1) := by decide +kernel
theorem d_leadHeader_8 : decode cb_leadHeader 8 = .ok (.istore_n 1, 1) := by decide +kernel
theorem d_leadHeader_9 : decode cb_leadHeader 9 = .ok (.iconst 0, 1) := by decide +kernel
theorem d_leadHeader_10 : decode cb_leadHeader 10 = .ok (.istore_n 2, 1) := by decide +kernel
theorem d_leadHeader_11 : decode cb_leadHeader 11 = .ok (.iload_n 2, 1) := by decide +kernel
theorem d_leadHeader_12 : decode cb_leadHeader 12 = .ok (.aload_n 0, 1) := by decide +kernel
theorem d_leadHeader_13 : decode cb_leadHeader 13 = .ok (.getfield 119, 3) := by decide +kernel
theorem d_leadHeader_16 : decode cb_leadHeader 16 = .ok (.iconst 1, 1) := by decide +kernel
theorem d_leadHeader_17 : decode cb_leadHeader 17 = .ok (.isub, 1) := by decide +kernel
theorem d_leadHeader_18 : decode cb_leadHeader 18 = .ok (.if_icmp .ge 94, 3) := by decide +kernel
theorem d_leadHeader_21 : decode cb_leadHeader 21 = .ok (.aload_n 0, 1) := by decide +kernel
theorem d_leadHeader_22 : decode cb_leadHeader 22 = .ok (.iload_n 1, 1) := by decide +kernel
theorem d_leadHeader_23 : decode cb_leadHeader 23 = .ok (.iload_n 2, 1) := by decide +kernel
theorem d_leadHeader_24 : decode cb_leadHeader 24 = .ok (.invokevirtual 132, 3) := by decide +kernel
theorem d_leadHeader_27 : decode cb_leadHeader 27 = .ok (.istore_n 3, 1) := by decide +kernel
theorem d_leadHeader_28 : decode cb_leadHeader 28 = .ok (.iload_n 3, 1) := by decide +kernel
theorem d_leadHeader_29 : decode cb_leadHeader 29 = .ok (.iconst (-1), 1) := by decide +kernel
theorem d_leadHeader_30 : decode cb_leadHeader 30 = .ok (.if_icmp .ne 19, 3) := by decide +kernel
theorem d_leadHeader_33 : decode cb_leadHeader 33 = .ok (.aload_n 0, 1) := by decide +kernel
theorem d_leadHeader_34 : decode cb_leadHeader 34 = .ok (.aload_n 0, 1) := by decide +kernel
theorem d_leadHeader_35 : decode cb_leadHeader 35 = .ok (.bipush 8, 2) := by decide +kernel
theorem d_leadHeader_37 : decode cb_leadHeader 37 = .ok (.iload_n 1, 1) := by decide +kernel
theorem d_leadHeader_38 : decode cb_leadHeader 38 = .ok (.invokevirtual 136, 3) := by decide +kernel
theorem d_leadHeader_41 : decode cb_leadHeader 41 = .ok (.iload_n 2, 1) := by decide +kernel
theorem d_leadHeader_42 : decode cb_leadHeader 42 = .ok (.invokevirtual 139, 3) := by decide +kernel
theorem d_leadHeader_45 : decode cb_leadHeader 45 = .ok (.istore_n 1, 1) := by decide +kernel
theorem d_leadHeader_46 : decode cb_leadHeader 46 = .ok (.goto 60, 3) := by decide +kernel
theorem d_leadHeader_49 : decode cb_leadHeader 49 = .ok (.aload_n 0, 1) := by decide +kernel
theorem d_leadHeader_50 : decode cb_leadHeader 50 = .ok (.getfield 16, 3) := by decide +kernel
theorem d_leadHeader_53 : decode cb_leadHeader 53 = .ok (.iload_n 3, 1) := by decide +kernel
theorem d_leadHeader_54 : decode cb_leadHeader 54 = .ok (.iaload, 1) := by decide +kernel
theorem d_leadHeader_55 : decode cb_leadHeader 55 = .ok (.bipush 6, 2) := by decide +kernel
theorem d_leadHeader_57 : decode cb_leadHeader 57 = .ok (.if_icmp .ne 13, 3) := by decide +kernel
theorem d_leadHeader_60 : decode cb_leadHeader 60 = .ok (.aload_n 0, 1) := by decide +kernel
theorem d_leadHeader_61 : decode cb_leadHeader 61 = .ok (.getfield 28, 3) := by decide +kernel
theorem d_leadHeader_64 : decode cb_leadHeader 64 = .ok (.iload_n 3, 1) := by decide +kernel
theorem d_leadHeader_65 : decode cb_leadHeader 65 = .ok (.iaload, 1) := by decide +kernel
theorem d_leadHeader_66 : decode cb_leadHeader 66 = .ok (.istore_n 1, 1) := by decide +kernel
theorem d_leadHeader_67 : decode cb_leadHeader 67 = .ok (.goto 39, 3) := by decide +kernel
theorem d_leadHeader_70 : decode cb_leadHeader 70 = .ok (.aload_n 0, 1) := by decide +kernel
theorem d_leadHeader_71 : decode cb_leadHeader 71 = .ok (.iload_n 3, 1) := by decide +kernel
theorem d_leadHeader_72 : decode cb_leadHeader 72 = .ok (.invokevirtual 142, 3) := by decide +kernel
theorem d_leadHeader_75 : decode cb_leadHeader 75 = .ok (.ifCond .eq 19, 3) := by decide +kernel
theorem d_leadHeader_78 : decode cb_leadHeader 78 = .ok (.aload_n 0, 1) := by decide +kernel
theorem d_leadHeader_79 : decode cb_leadHeader 79 = .ok (.getfield 16, 3) := by decide +kernel
theorem d_leadHeader_82 : decode cb_leadHeader 82 = .ok (.iload_n 3, 1) := by decide +kernel
theorem d_leadHeader_83 : decode cb_leadHeader 83 = .ok (.iaload, 1) := by decide +kernel
theorem d_leadHeader_84 : decode cb_leadHeader 84 = .ok (.bipush 10, 2) := by decide +kernel
theorem d_leadHeader_86 : decode cb_leadHeader 86 = .ok (.if_icmp .eq 8, 3) := by decide +kernel
theorem d_leadHeader_89 : decode cb_leadHeader 89 = .ok (.iload_n 3, 1) := by decide +kernel
theorem d_leadHeader_90 : decode cb_leadHeader 90 = .ok (.istore_n 1, 1) := by decide +kernel
theorem d_leadHeader_91 : decode cb_leadHeader 91 = .ok (.goto 15, 3) := by decide +kernel
theorem d_leadHeader_94 : decode cb_leadHeader 94 = .ok (.aload_n 0, 1) := by decide +kernel
theorem d_leadHeader_95 : decode cb_leadHeader 95 = .ok (.aload_n 0, 1) := by decide +kernel
theorem d_leadHeader_96 : decode cb_leadHeader 96 = .ok (.getfield 49, 3) := by decide +kernel
theorem d_leadHeader_99 : decode cb_leadHeader 99 = .ok (.iload_n 2, 1) := by decide +kernel
theorem d_leadHeader_100 : decode cb_leadHeader 100 = .ok (.iaload, 1) := by decide +kernel
theorem d_leadHeader_101 : decode cb_leadHeader 101 = .ok (.putfield 79, 3) := by decide +kernel
theorem d_leadHeader_104 : decode cb_leadHeader 104 = .ok (.iconst (-1), 1) := by decide +kernel
theorem d_leadHeader_105 : decode cb_leadHeader 105 = .ok (.ireturn, 1) := by decide +kernel
theorem d_leadHeader_106 : decode cb_leadHeader 106 = .ok (.iinc 2 1, 3) := by decide +kernel
theorem d_leadHeader_109 : decode cb_leadHeader 109 = .ok (.goto (-98), 3) := by decide +kernel
theorem d_leadHeader_112 : decode cb_leadHeader 112 = .ok (.iload_n 1, 1) := by decide +kernel
theorem d_leadHeader_113 : decode cb_leadHeader 113 = .ok (.ireturn, 1) := by decide +kernel
theorem d_opened_0 : decode cb_opened 0 = .ok (.aload_n 0, 1) := by decide +kernel
theorem d_opened_1 : decode cb_opened 1 = .ok (.invokevirtual 145, 3) := by decide +kernel
theorem d_opened_4 : decode cb_opened 4 = .ok (.istore_n 2, 1) := by decide +kernel
theorem d_opened_5 : decode cb_opened 5 = .ok (.iload_n 2, 1) := by decide +kernel
theorem d_opened_6 : decode cb_opened 6 = .ok (.iconst (-1), 1) := by decide +kernel
theorem d_opened_7 : decode cb_opened 7 = .ok (.if_icmp .ne 5, 3) := by decide +kernel
theorem d_opened_10 : decode cb_opened 10 = .ok (.iconst (-1), 1) := by decide +kernel
theorem d_opened_11 : decode cb_opened 11 = .ok (.ireturn, 1) := by decide +kernel
theorem d_opened_12 : decode cb_opened 12 = .ok (.aload_n 0, 1) := by decide +kernel
theorem d_opened_13 : decode cb_opened 13 = .ok (.getfield 119, 3) := by decide +kernel
theorem d_opened_16 : decode cb_opened 16 = .ok (.iconst 1, 1) := by decide +kernel
theorem d_opened_17 : decode cb_opened 17 = .ok (.isub, 1) := by decide +kernel
theorem d_opened_18 : decode cb_opened 18 = .ok (.istore_n 3, 1) := by decide +kernel
theorem d_opened_19 : decode cb_opened 19 = .ok (.aload_n 0, 1) := by decide +kernel
theorem d_opened_20 : decode cb_opened 20 = .ok (.iload_n 2, 1) := by decide +kernel
theorem d_opened_21 : decode cb_opened 21 = .ok (.iload_n 3, 1) := by decide +kernel
theorem d_opened_22 : decode cb_opened 22 = .ok (.invokevirtual 132, 3) := by decide +kernel
theorem d_opened_25 : decode cb_opened 25 = .ok (.istore 4, 2) := by decide +kernel
theorem d_opened_27 : decode cb_opened 27 = .ok (.iload_n 1, 1) := by decide +kernel
theorem d_opened_28 : decode cb_opened 28 = .ok (.ifCond .eq 63, 3) := by decide +kernel
theorem d_opened_31 : decode cb_opened 31 = .ok (.iload 4, 2) := by decide +kernel
theorem d_opened_33 : decode cb_opened 33 = .ok (.iconst (-1), 1) := by decide +kernel
theorem d_opened_34 : decode cb_opened 34 = .ok (.if_icmp .eq 27, 3) := by decide +kernel
theorem d_opened_37 : decode cb_opened 37 = .ok (.aload_n 0, 1) := by decide +kernel
theorem d_opened_38 : decode cb_opened 38 = .ok (.getfield 16, 3) := by decide +kernel
theorem d_opened_41 : decode cb_opened 41 = .ok (.iload 4, 2) := by decide +kernel
theorem d_opened_43 : decode cb_opened 43 = .ok (.iaload, 1) := by decide +kernel
theorem d_opened_44 : decode cb_opened 44 = .ok (.bipush 6, 2) := by decide +kernel
theorem d_opened_46 : decode cb_opened 46 = .ok (.if_icmp .eq 15, 3) := by decide +kernel
theorem d_opened_49 : decode cb_opened 49 = .ok (.aload_n 0, 1) := by decide +kernel
theorem d_opened_50 : decode cb_opened 50 = .ok (.aload_n 0, 1) := by decide +kernel
theorem d_opened_51 : decode cb_opened 51 = .ok (.getfield 49, 3) := by decide +kernel
theorem d_opened_54 : decode cb_opened 54 = .ok (.iload_n 3, 1) := by decide +kernel
theorem d_opened_55 : decode cb_opened 55 = .ok (.iaload, 1) := by decide +kernel
theorem d_opened_56 : decode cb_opened 56 = .ok (.putfield 79, 3) := by decide +kernel
theorem d_opened_59 : decode cb_opened 59 = .ok (.iconst (-1), 1) := by decide +kernel
theorem d_opened_60 : decode cb_opened 60 = .ok (.ireturn, 1) := by decide +kernel
theorem d_opened_61 : decode cb_opened 61 = .ok (.aload_n 0, 1) := by decide +kernel
theorem d_opened_62 : decode cb_opened 62 = .ok (.bipush 7, 2) := by decide +kernel
theorem d_opened_64 : decode cb_opened 64 = .ok (.iload 4, 2) := by decide +kernel
theorem d_opened_66 : decode cb_opened 66 = .ok (.iconst (-1), 1) := by decide +kernel
theorem d_opened_67 : decode cb_opened 67 = .ok (.if_icmp .ne 18, 3) := by decide +kernel
theorem d_opened_70 : decode cb_opened 70 = .ok (.aload_n 0, 1) := by decide +kernel
theorem d_opened_71 : decode cb_opened 71 = .ok (.aload_n 0, 1) := by decide +kernel
theorem d_opened_72 : decode cb_opened 72 = .ok (.bipush 6, 2) := by decide +kernel
theorem d_opened_74 : decode cb_opened 74 = .ok (.iload_n 2, 1) := by decide +kernel
theorem d_opened_75 : decode cb_opened 75 = .ok (.invokevirtual 136, 3) := by decide +kernel
theorem d_opened_78 : decode cb_opened 78 = .ok (.iload_n 3, 1) := by decide +kernel
theorem d_opened_79 : decode cb_opened 79 = .ok (.invokevirtual 139, 3) := by decide +kernel
theorem d_opened_82 : decode cb_opened 82 = .ok (.goto 5, 3) := by decide +kernel
theorem d_opened_85 : decode cb_opened 85 = .ok (.iload 4, 2) := by decide +kernel
theorem d_opened_87 : decode cb_opened 87 = .ok (.invokevirtual 136, 3) := by decide +kernel
theorem d_opened_90 : decode cb_opened 90 = .ok (.ireturn, 1) := by decide +kernel
theorem d_opened_91 : decode cb_opened 91 = .ok (.iload 4, 2) := by decide +kernel
theorem d_opened_93 : decode cb_opened 93 = .ok (.iconst (-1), 1) := by decide +kernel
theorem d_opened_94 : decode cb_opened 94 = .ok (.if_icmp .ne 16, 3) := by decide +kernel
theorem d_opened_97 : decode cb_opened 97 = .ok (.aload_n 0, 1) := by decide +kernel
theorem d_opened_98 : decode cb_opened 98 = .ok (.aload_n 0, 1) := by decide +kernel
theorem d_opened_99 : decode cb_opened 99 = .ok (.bipush 7, 2) := by decide +kernel
theorem d_opened_101 : decode cb_opened 101 = .ok (.iload_n 2, 1) := by decide +kernel
theorem d_opened_102 : decode cb_opened 102 = .ok (.invokevirtual 136, 3) := by decide +kernel
theorem d_opened_105 : decode cb_opened 105 = .ok (.iload_n 3, 1) := by decide +kernel
theorem d_opened_106 : decode cb_opened 106 = .ok (.invokevirtual 139, 3) := by decide +kernel
theorem d_opened_109 : decode cb_opened 109 = .ok (.ireturn, 1) := by decide +kernel
theorem d_opened_110 : decode cb_opened 110 = .ok (.aload_n 0, 1) := by decide +kernel
theorem d_opened_111 : decode cb_opened 111 = .ok (.getfield 16, 3) := by decide +kernel
theorem d_opened_114 : decode cb_opened 114 = .ok (.iload 4, 2) := by decide +kernel
theorem d_opened_116 : decode cb_opened 116 = .ok (.iaload, 1) := by decide +kernel
theorem d_opened_117 : decode cb_opened 117 = .ok (.bipush 8, 2) := by decide +kernel
theorem d_opened_119 : decode cb_opened 119 = .ok (.if_icmp .eq 15, 3) := by decide +kernel
theorem d_opened_122 : decode cb_opened 122 = .ok (.aload_n 0, 1) := by decide +kernel
theorem d_opened_123 : decode cb_opened 123 = .ok (.aload_n 0, 1) := by decide +kernel
theorem d_opened_124 : decode cb_opened 124 = .ok (.getfield 49, 3) := by decide +kernel
theorem d_opened_127 : decode cb_opened 127 = .ok (.iload_n 3, 1) := by decide +kernel
theorem d_opened_128 : decode cb_opened 128 = .ok (.iaload, 1) := by decide +kernel
theorem d_opened_129 : decode cb_opened 129 = .ok (.putfield 79, 3) := by decide +kernel
theorem d_opened_132 : decode cb_opened 132 = .ok (.iconst (-1), 1) := by decide +kernel
theorem d_opened_133 : decode cb_opened 133 = .ok (.ireturn, 1) := by decide +kernel
theorem d_opened_134 : decode cb_opened 134 = .ok (.aload_n 0, 1) := by decide +kernel
theorem d_opened_135 : decode cb_opened 135 = .ok (.getfield 16, 3) := by decide +kernel
theorem d_opened_138 : decode cb_opened 138 = .ok (.iload 4, 2) := by decide +kernel
theorem d_opened_140 : decode cb_opened 140 = .ok (.bipush 7, 2) := by decide +kernel
theorem d_opened_142 : decode cb_opened 142 = .ok (.iastore, 1) := by decide +kernel
theorem d_opened_143 : decode cb_opened 143 = .ok (.iload 4, 2) := by decide +kernel
theorem d_opened_145 : decode cb_opened 145 = .ok (.ireturn, 1) := by decide +kernel
theorem d_digitOf_0 : decode cb_digitOf 0 = .ok (.aload_n 0, 1) := by decide +kernel
theorem d_digitOf_1 : decode cb_digitOf 1 = .ok (.iload_n 1, 1) := by decide +kernel
theorem d_digitOf_2 : decode cb_digitOf 2 = .ok (.invokevirtual 89, 3) := by decide +kernel
theorem d_digitOf_5 : decode cb_digitOf 5 = .ok (.ifCond .eq 10, 3) := by decide +kernel
theorem d_digitOf_8 : decode cb_digitOf 8 = .ok (.iload_n 1, 1) := by decide +kernel
theorem d_digitOf_9 : decode cb_digitOf 9 = .ok (.bipush 48, 2) := by decide +kernel
theorem d_digitOf_11 : decode cb_digitOf 11 = .ok (.isub, 1) := by decide +kernel
theorem d_digitOf_12 : decode cb_digitOf 12 = .ok (.goto 23, 3) := by decide +kernel
theorem d_digitOf_15 : decode cb_digitOf 15 = .ok (.iload_n 1, 1) := by decide +kernel
theorem d_digitOf_16 : decode cb_digitOf 16 = .ok (.bipush 97, 2) := by decide +kernel
theorem d_digitOf_18 : decode cb_digitOf 18 = .ok (.if_icmp .lt 16, 3) := by decide +kernel
theorem d_digitOf_21 : decode cb_digitOf 21 = .ok (.iload_n 1, 1) := by decide +kernel
theorem d_digitOf_22 : decode cb_digitOf 22 = .ok (.bipush 102, 2) := by decide +kernel
theorem d_digitOf_24 : decode cb_digitOf 24 = .ok (.if_icmp .gt 10, 3) := by decide +kernel
theorem d_digitOf_27 : decode cb_digitOf 27 = .ok (.iload_n 1, 1) := by decide +kernel
theorem d_digitOf_28 : decode cb_digitOf 28 = .ok (.bipush 87, 2) := by decide +kernel
theorem d_digitOf_30 : decode cb_digitOf 30 = .ok (.isub, 1) := by decide +kernel
theorem d_digitOf_31 : decode cb_digitOf 31 = .ok (.goto 4, 3) := by decide +kernel
theorem d_digitOf_34 : decode cb_digitOf 34 = .ok (.iconst (-1), 1) := by decide +kernel
theorem d_digitOf_35 : decode cb_digitOf 35 = .ok (.ireturn, 1) := by decide +kernel
theorem d_digits_0 : decode cb_digits 0 = .ok (.iconst 0, 1) := by decide +kernel
theorem d_digits_1 : decode cb_digits 1 = .ok (.istore_n 3, 1) := by decide +kernel
theorem d_digits_2 : decode cb_digits 2 = .ok (.iconst 0, 1) := by decide +kernel
theorem d_digits_3 : decode cb_digits 3 = .ok (.istore 4, 2) := by decide +kernel
theorem d_digits_5 : decode cb_digits 5 = .ok (.iconst 1, 1) := by decide +kernel
theorem d_digits_6 : decode cb_digits 6 = .ok (.istore 5, 2) := by decide +kernel
theorem d_digits_8 : decode cb_digits 8 = .ok (.iload 5, 2) := by decide +kernel
theorem d_digits_10 : decode cb_digits 10 = .ok (.ifCond .eq 130, 3) := by decide +kernel
theorem d_digits_13 : decode cb_digits 13 = .ok (.aload_n 0, 1) := by decide +kernel
theorem d_digits_14 : decode cb_digits 14 = .ok (.aload_n 0, 1) := by decide +kernel
theorem d_digits_15 : decode cb_digits 15 = .ok (.invokevirtual 82, 3) := by decide +kernel
theorem d_digits_18 : decode cb_digits 18 = .ok (.invokevirtual 148, 3) := by decide +kernel
theorem d_digits_21 : decode cb_digits 21 = .ok (.istore 6, 2) := by decide +kernel
theorem d_digits_23 : decode cb_digits 23 = .ok (.iload 6, 2) := by decide +kernel
theorem d_digits_25 : decode cb_digits 25 = .ok (.iconst (-1), 1) := by decide +kernel
theorem d_digits_26 : decode cb_digits 26 = .ok (.if_icmp .eq 14, 3) := by decide +kernel
theorem d_digits_29 : decode cb_digits 29 = .ok (.iload 6, 2) := by decide +kernel
theorem d_digits_31 : decode cb_digits 31 = .ok (.iload_n 1, 1) := by decide +kernel
theorem d_digits_32 : decode cb_digits 32 = .ok (.if_icmp .ge 8, 3) := by decide +kernel
theorem d_digits_35 : decode cb_digits 35 = .ok (.iload_n 3, 1) := by decide +kernel
theorem d_digits_36 : decode cb_digits 36 = .ok (.iload_n 2, 1) := by decide +kernel
theorem d_digits_37 : decode cb_digits 37 = .ok (.if_icmp .ne 13, 3) := by decide +kernel
theorem d_digits_40 : decode cb_digits 40 = .ok (.aload_n 0, 1) := by decide +kernel
theorem d_digits_41 : decode cb_digits 41 = .ok (.aload_n 0, 1) := by decide +kernel
theorem d_digits_42 : decode cb_digits 42 = .ok (.getfield 76, 3) := by decide +kernel
theorem d_digits_45 : decode cb_digits 45 = .ok (.putfield 79, 3) := by decide +kernel
theorem d_digits_48 : decode cb_digits 48 = .ok (.iconst (-1), 1) := by decide +kernel
theorem d_digits_49 : decode cb_digits 49 = .ok (.ireturn, 1) := by decide +kernel
theorem d_digits_50 : decode cb_digits 50 = .ok (.iload_n 1, 1) := by decide +kernel
theorem d_digits_51 : decode cb_digits 51 = .ok (.iload 4, 2) := by decide +kernel
theorem d_digits_53 : decode cb_digits 53 = .ok (.imul, 1) := by decide +kernel
theorem d_digits_54 : decode cb_digits 54 = .ok (.iload 6, 2) := by decide +kernel
theorem d_digits_56 : decode cb_digits 56 = .ok (.iadd, 1) := by decide +kernel
theorem d_digits_57 : decode cb_digits 57 = .ok (.istore 4, 2) := by decide +kernel
theorem d_digits_59 : decode cb_digits 59 = .ok (.iinc 3 1, 3) := by decide +kernel
theorem d_digits_62 : decode cb_digits 62 = .ok (.aload_n 0, 1) := by decide +kernel
theorem d_digits_63 : decode cb_digits 63 = .ok (.dup, 1) := by decide +kernel
theorem d_digits_64 : decode cb_digits 64 = .ok (.getfield 76, 3) := by decide +kernel
theorem d_digits_67 : decode cb_digits 67 = .ok (.iconst 1, 1) := by decide +kernel
theorem d_digits_68 : decode cb_digits 68 = .ok (.iadd, 1) := by decide +kernel
theorem d_digits_69 : decode cb_digits 69 = .ok (.putfield 76, 3) := by decide +kernel
theorem d_digits_72 : decode cb_digits 72 = .ok (.aload_n 0, 1) := by decide +kernel
theorem d_digits_73 : decode cb_digits 73 = .ok (.invokevirtual 82, 3) := by decide +kernel
theorem d_digits_76 : decode cb_digits 76 = .ok (.bipush 95, 2) := by decide +kernel
theorem d_digits_78 : decode cb_digits 78 = .ok (.if_icmp .ne 7, 3) := by decide +kernel
theorem d_digits_81 : decode cb_digits 81 = .ok (.iconst 1, 1) := by decide +kernel
theorem d_digits_82 : decode cb_digits 82 = .ok (.goto 4, 3) := by decide +kernel
theorem d_digits_85 : decode cb_digits 85 = .ok (.iconst 0, 1) := by decide +kernel
theorem d_digits_86 : decode cb_digits 86 = .ok (.istore 7, 2) := by decide +kernel
theorem d_digits_88 : decode cb_digits 88 = .ok (.iload 7, 2) := by decide +kernel
theorem d_digits_90 : decode cb_digits 90 = .ok (.ifCond .eq 13, 3) := by decide +kernel
theorem d_digits_93 : decode cb_digits 93 = .ok (.aload_n 0, 1) := by decide +kernel
theorem d_digits_94 : decode cb_digits 94 = .ok (.dup, 1) := by decide +kernel
theorem d_digits_95 : decode cb_digits 95 = .ok (.getfield 76, 3) := by decide +kernel
theorem d_digits_98 : decode cb_digits 98 = .ok (.iconst 1, 1) := by decide +kernel
theorem d_digits_99 : decode cb_digits 99 = .ok (.iadd, 1) := by decide +kernel
theorem d_digits_100 : decode cb_digits 100 = .ok (.putfield 76, 3) := by decide +kernel
theorem d_digits_103 : decode cb_digits 103 = .ok (.aload_n 0, 1) := by decide +kernel
theorem d_digits_104 : decode cb_digits 104 = .ok (.aload_n 0, 1) := by decide +kernel
theorem d_digits_105 : decode cb_digits 105 = .ok (.invokevirtual 82, 3) := by decide +kernel
theorem d_digits_108 : decode cb_digits 108 = .ok (.invokevirtual 148, 3) := by decide +kernel
theorem d_digits_111 : decode cb_digits 111 = .ok (.istore 8, 2) := by decide +kernel
theorem d_digits_113 : decode cb_digits 113 = .ok (.iload 7, 2) := by decide +kernel
theorem d_digits_115 : decode cb_digits 115 = .ok (.ifCond .ne 15, 3) := by decide +kernel
theorem d_digits_118 : decode cb_digits 118 = .ok (.iload 8, 2) := by decide +kernel
theorem d_digits_120 : decode cb_digits 120 = .ok (.iconst (-1), 1) := by decide +kernel
theorem d_digits_121 : decode cb_digits 121 = .ok (.if_icmp .eq 13, 3) := by decide +kernel
theorem d_digits_124 : decode cb_digits 124 = .ok (.iload 8, 2) := by decide +kernel
theorem d_digits_126 : decode cb_digits 126 = .ok (.iload_n 1, 1) := by decide +kernel
theorem d_digits_127 : decode cb_digits 127 = .ok (.if_icmp .ge 7, 3) := by decide +kernel
theorem d_digits_130 : decode cb_digits 130 = .ok (.iconst 1, 1) := by decide +kernel
theorem d_digits_131 : decode cb_digits 131 = .ok (.goto 4, 3) := by decide +kernel
theorem d_digits_134 : decode cb_digits 134 = .ok (.iconst 0, 1) := by decide +kernel
theorem d_digits_135 : decode cb_digits 135 = .ok (.istore 5, 2) := by decide +kernel
theorem d_digits_137 : decode cb_digits 137 = .ok (.goto (-129), 3) := by decide +kernel
theorem d_digits_140 : decode cb_digits 140 = .ok (.iload 4, 2) := by decide +kernel
theorem d_digits_142 : decode cb_digits 142 = .ok (.ireturn, 1) := by decide +kernel
theorem d_number_0 : decode cb_number 0 = .ok (.aload_n 0, 1) := by decide +kernel
theorem d_number_1 : decode cb_number 1 = .ok (.invokevirtual 82, 3) := by decide +kernel
theorem d_number_4 : decode cb_number 4 = .ok (.istore_n 2, 1) := by decide +kernel
theorem d_number_5 : decode cb_number 5 = .ok (.iload_n 2, 1) := by decide +kernel
theorem d_number_6 : decode cb_number 6 = .ok (.bipush 43, 2) := by decide +kernel
theorem d_number_8 : decode cb_number 8 = .ok (.if_icmp .eq 9, 3) := by decide +kernel
theorem d_number_11 : decode cb_number 11 = .ok (.iload_n 2, 1) := by decide +kernel
theorem d_number_12 : decode cb_number 12 = .ok (.bipush 45, 2) := by decide +kernel
theorem d_number_14 : decode cb_number 14 = .ok (.if_icmp .ne 7, 3) := by decide +kernel
theorem d_number_17 : decode cb_number 17 = .ok (.iconst 1, 1) := by decide +kernel
theorem d_number_18 : decode cb_number 18 = .ok (.goto 4, 3) := by decide +kernel
theorem d_number_21 : decode cb_number 21 = .ok (.iconst 0, 1) := by decide +kernel
theorem d_number_22 : decode cb_number 22 = .ok (.istore_n 3, 1) := by decide +kernel
theorem d_number_23 : decode cb_number 23 = .ok (.iload_n 3, 1) := by decide +kernel
theorem d_number_24 : decode cb_number 24 = .ok (.ifCond .eq 13, 3) := by decide +kernel
theorem d_number_27 : decode cb_number 27 = .ok (.aload_n 0, 1) := by decide +kernel
theorem d_number_28 : decode cb_number 28 = .ok (.dup, 1) := by decide +kernel
theorem d_number_29 : decode cb_number 29 = .ok (.getfield 76, 3) := by decide +kernel
theorem d_number_32 : decode cb_number 32 = .ok (.iconst 1, 1) := by decide +kernel
theorem d_number_33 : decode cb_number 33 = .ok (.iadd, 1) := by decide +kernel
theorem d_number_34 : decode cb_number 34 = .ok (.putfield 76, 3) := by decide +kernel
theorem d_number_37 : decode cb_number 37 = .ok (.iconst 0, 1) := by decide +kernel
theorem d_number_38 : decode cb_number 38 = .ok (.istore 4, 2) := by decide +kernel
theorem d_number_40 : decode cb_number 40 = .ok (.aload_n 0, 1) := by decide +kernel
theorem d_number_41 : decode cb_number 41 = .ok (.invokevirtual 82, 3) := by decide +kernel
theorem d_number_44 : decode cb_number 44 = .ok (.bipush 48, 2) := by decide +kernel
theorem d_number_46 : decode cb_number 46 = .ok (.if_icmp .ne 93, 3) := by decide +kernel
theorem d_number_49 : decode cb_number 49 = .ok (.aload_n 0, 1) := by decide +kernel
theorem d_number_50 : decode cb_number 50 = .ok (.dup, 1) := by decide +kernel
theorem d_number_51 : decode cb_number 51 = .ok (.getfield 76, 3) := by decide +kernel
theorem d_number_54 : decode cb_number 54 = .ok (.iconst 1, 1) := by decide +kernel
theorem d_number_55 : decode cb_number 55 = .ok (.iadd, 1) := by decide +kernel
theorem d_number_56 : decode cb_number 56 = .ok (.putfield 76, 3) := by decide +kernel
theorem d_number_59 : decode cb_number 59 = .ok (.iload_n 3, 1) := by decide +kernel
theorem d_number_60 : decode cb_number 60 = .ok (.ifCond .ne 16, 3) := by decide +kernel
theorem d_number_63 : decode cb_number 63 = .ok (.aload_n 0, 1) := by decide +kernel
theorem d_number_64 : decode cb_number 64 = .ok (.invokevirtual 82, 3) := by decide +kernel
theorem d_number_67 : decode cb_number 67 = .ok (.bipush 120, 2) := by decide +kernel
theorem d_number_69 : decode cb_number 69 = .ok (.if_icmp .ne 7, 3) := by decide +kernel
theorem d_number_72 : decode cb_number 72 = .ok (.iconst 1, 1) := by decide +kernel
theorem d_number_73 : decode cb_number 73 = .ok (.goto 4, 3) := by decide +kernel
theorem d_number_76 : decode cb_number 76 = .ok (.iconst 0, 1) := by decide +kernel
theorem d_number_77 : decode cb_number 77 = .ok (.istore 5, 2) := by decide +kernel
theorem d_number_79 : decode cb_number 79 = .ok (.iload 5, 2) := by decide +kernel
theorem d_number_81 : decode cb_number 81 = .ok (.ifCond .eq 26, 3) := by decide +kernel
theorem d_number_84 : decode cb_number 84 = .ok (.aload_n 0, 1) := by decide +kernel
theorem d_number_85 : decode cb_number 85 = .ok (.dup, 1) := by decide +kernel
theorem d_number_86 : decode cb_number 86 = .ok (.getfield 76, 3) := by decide +kernel
theorem d_number_89 : decode cb_number 89 = .ok (.iconst 1, 1) := by decide +kernel
theorem d_number_90 : decode cb_number 90 = .ok (.iadd, 1) := by decide +kernel
theorem d_number_91 : decode cb_number 91 = .ok (.putfield 76, 3) := by decide +kernel
theorem d_number_94 : decode cb_number 94 = .ok (.aload_n 0, 1) := by decide +kernel
theorem d_number_95 : decode cb_number 95 = .ok (.bipush 16, 2) := by decide +kernel
theorem d_number_97 : decode cb_number 97 = .ok (.bipush 7, 2) := by decide +kernel
theorem d_number_99 : decode cb_number 99 = .ok (.invokevirtual 151, 3) := by decide +kernel
theorem d_number_102 : decode cb_number 102 = .ok (.istore 4, 2) := by decide +kernel
theorem d_number_104 : decode cb_number 104 = .ok (.goto 32, 3) := by decide +kernel
theorem d_number_107 : decode cb_number 107 = .ok (.aload_n 0, 1) := by decide +kernel
theorem d_number_108 : decode cb_number 108 = .ok (.aload_n 0, 1) := by decide +kernel
theorem d_number_109 : decode cb_number 109 = .ok (.invokevirtual 82, 3) := by decide +kernel
theorem d_number_112 : decode cb_number 112 = .ok (.invokevirtual 89, 3) := by decide +kernel
theorem d_number_115 : decode cb_number 115 = .ok (.ifCond .ne 12, 3) := by decide +kernel
theorem d_number_118 : decode cb_number 118 = .ok (.aload_n 0, 1) := by decide +kernel
theorem d_number_119 : decode cb_number 119 = .ok (.invokevirtual 82, 3) := by decide +kernel
theorem d_number_122 : decode cb_number 122 = .ok (.bipush 95, 2) := by decide +kernel
theorem d_number_124 : decode cb_number 124 = .ok (.if_icmp .ne 12, 3) := by decide +kernel
theorem d_number_127 : decode cb_number 127 = .ok (.aload_n 0, 1) := by decide +kernel
theorem d_number_128 : decode cb_number 128 = .ok (.aload_n 0, 1) := by decide +kernel
theorem d_number_129 : decode cb_number 129 = .ok (.getfield 76, 3) := by decide +kernel
theorem d_number_132 : decode cb_number 132 = .ok (.invokevirtual 102, 3) := by decide +kernel
theorem d_number_135 : decode cb_number 135 = .ok (.ireturn, 1) := by decide +kernel
theorem d_number_136 : decode cb_number 136 = .ok (.goto 13, 3) := by decide +kernel
theorem d_number_139 : decode cb_number 139 = .ok (.aload_n 0, 1) := by decide +kernel
theorem d_number_140 : decode cb_number 140 = .ok (.bipush 10, 2) := by decide +kernel
theorem d_number_142 : decode cb_number 142 = .ok (.bipush 9, 2) := by decide +kernel
theorem d_number_144 : decode cb_number 144 = .ok (.invokevirtual 151, 3) := by decide +kernel
theorem d_number_147 : decode cb_number 147 = .ok (.istore 4, 2) := by decide +kernel
theorem d_number_149 : decode cb_number 149 = .ok (.aload_n 0, 1) := by decide +kernel
theorem d_number_150 : decode cb_number 150 = .ok (.getfield 16, 3) := by decide +kernel
theorem d_number_153 : decode cb_number 153 = .ok (.iload_n 1, 1) := by decide +kernel
theorem d_number_154 : decode cb_number 154 = .ok (.iconst 1, 1) := by decide +kernel
theorem d_number_155 : decode cb_number 155 = .ok (.iastore, 1) := by decide +kernel
theorem d_number_156 : decode cb_number 156 = .ok (.aload_n 0, 1) := by decide +kernel
theorem d_number_157 : decode cb_number 157 = .ok (.getfield 19, 3) := by decide +kernel
theorem d_number_160 : decode cb_number 160 = .ok (.iload_n 1, 1) := by decide +kernel
theorem d_number_161 : decode cb_number 161 = .ok (.iload_n 2, 1) := by decide +kernel
theorem d_number_162 : decode cb_number 162 = .ok (.bipush 45, 2) := by decide +kernel
theorem d_number_164 : decode cb_number 164 = .ok (.if_icmp .ne 9, 3) := by decide +kernel
theorem d_number_167 : decode cb_number 167 = .ok (.iload 4, 2) := by decide +kernel
theorem d_number_169 : decode cb_number 169 = .ok (.ineg, 1) := by decide +kernel
theorem d_number_170 : decode cb_number 170 = .ok (.goto 5, 3) := by decide +kernel
theorem d_number_173 : decode cb_number 173 = .ok (.iload 4, 2) := by decide +kernel
theorem d_number_175 : decode cb_number 175 = .ok (.iastore, 1) := by decide +kernel
theorem d_number_176 : decode cb_number 176 = .ok (.aload_n 0, 1) := by decide +kernel
theorem d_number_177 : decode cb_number 177 = .ok (.getfield 79, 3) := by decide +kernel
theorem d_number_180 : decode cb_number 180 = .ok (.iconst (-1), 1) := by decide +kernel
theorem d_number_181 : decode cb_number 181 = .ok (.if_icmp .ne 7, 3) := by decide +kernel
theorem d_number_184 : decode cb_number 184 = .ok (.iconst 1, 1) := by decide +kernel
theorem d_number_185 : decode cb_number 185 = .ok (.goto 4, 3) := by decide +kernel
theorem d_number_188 : decode cb_number 188 = .ok (.iconst 0, 1) := by decide +kernel
theorem d_number_189 : decode cb_number 189 = .ok (.ireturn, 1) := by decide +kernel
theorem d_isDate_0 : decode cb_isDate 0 = .ok (.aload_n 0, 1) := by decide +kernel
theorem d_isDate_1 : decode cb_isDate 1 = .ok (.getfield 76, 3) := by decide +kernel
theorem d_isDate_4 : decode cb_isDate 4 = .ok (.iconst 4, 1) := by decide +kernel
theorem d_isDate_5 : decode cb_isDate 5 = .ok (.iadd, 1) := by decide +kernel
theorem d_isDate_6 : decode cb_isDate 6 = .ok (.aload_n 0, 1) := by decide +kernel
theorem d_isDate_7 : decode cb_isDate 7 = .ok (.getfield 73, 3) := by decide +kernel
theorem d_isDate_10 : decode cb_isDate 10 = .ok (.if_icmp .ge 7, 3) := by decide +kernel
theorem d_isDate_13 : decode cb_isDate 13 = .ok (.iconst 1, 1) := by decide +kernel
theorem d_isDate_14 : decode cb_isDate 14 = .ok (.goto 4, 3) := by decide +kernel
theorem d_isDate_17 : decode cb_isDate 17 = .ok (.iconst 0, 1) := by decide +kernel
theorem d_isDate_18 : decode cb_isDate 18 = .ok (.istore_n 1, 1) := by decide +kernel
theorem d_isDate_19 : decode cb_isDate 19 = .ok (.iconst 0, 1) := by decide +kernel
theorem d_isDate_20 : decode cb_isDate 20 = .ok (.istore_n 2, 1) := by decide +kernel
theorem d_isDate_21 : decode cb_isDate 21 = .ok (.iload_n 2, 1) := by decide +kernel
theorem d_isDate_22 : decode cb_isDate 22 = .ok (.iconst 4, 1) := by decide +kernel
theorem d_isDate_23 : decode cb_isDate 23 = .ok (.if_icmp .ge 29, 3) := by decide +kernel
theorem d_isDate_26 : decode cb_isDate 26 = .ok (.iload_n 1, 1) := by decide +kernel
theorem d_isDate_27 : decode cb_isDate 27 = .ok (.ifCond .eq 25, 3) := by decide +kernel
theorem d_isDate_30 : decode cb_isDate 30 = .ok (.aload_n 0, 1) := by decide +kernel
theorem d_isDate_31 : decode cb_isDate 31 = .ok (.aload_n 0, 1) := by decide +kernel
theorem d_isDate_32 : decode cb_isDate 32 = .ok (.getfield 7, 3) := by decide +kernel
theorem d_isDate_35 : decode cb_isDate 35 = .ok (.aload_n 0, 1) := by decide +kernel
theorem d_isDate_36 : decode cb_isDate 36 = .ok (.getfield 76, 3) := by decide +kernel
theorem d_isDate_39 : decode cb_isDate 39 = .ok (.iload_n 2, 1) := by decide +kernel
theorem d_isDate_40 : decode cb_isDate 40 = .ok (.iadd, 1) := by decide +kernel
theorem d_isDate_41 : decode cb_isDate 41 = .ok (.iaload, 1) := by decide +kernel
theorem d_isDate_42 : decode cb_isDate 42 = .ok (.invokevirtual 89, 3) := by decide +kernel
theorem d_isDate_45 : decode cb_isDate 45 = .ok (.istore_n 1, 1) := by decide +kernel
theorem d_isDate_46 : decode cb_isDate 46 = .ok (.iinc 2 1, 3) := by decide +kernel
