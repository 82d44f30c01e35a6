theorem dX0_init_0 : decode cX0_init 0 = .ok (.aload_n 0, 1) := by decide +kernel
theorem dX0_init_1 : decode cX0_init 1 = .ok (.invokespecial 3, 3) := by decide +kernel
theorem dX0_init_4 : decode cX0_init 4 = .ok (.aload_n 0, 1) := by decide +kernel
theorem dX0_init_5 : decode cX0_init 5 = .ok (.iconst 5, 1) := by decide +kernel
theorem dX0_init_6 : decode cX0_init 6 = .ok (.anewarray 9, 3) := by decide +kernel
theorem dX0_init_9 : decode cX0_init 9 = .ok (.putfield 11, 3) := by decide +kernel
theorem dX0_init_12 : decode cX0_init 12 = .ok (.iconst 0, 1) := by decide +kernel
theorem dX0_init_13 : decode cX0_init 13 = .ok (.istore_n 1, 1) := by decide +kernel
theorem dX0_init_14 : decode cX0_init 14 = .ok (.iload_n 1, 1) := by decide +kernel
theorem dX0_init_15 : decode cX0_init 15 = .ok (.iconst 5, 1) := by decide +kernel
theorem dX0_init_16 : decode cX0_init 16 = .ok (.if_icmp .ge 22, 3) := by decide +kernel
theorem dX0_init_19 : decode cX0_init 19 = .ok (.aload_n 0, 1) := by decide +kernel
theorem dX0_init_20 : decode cX0_init 20 = .ok (.getfield 11, 3) := by decide +kernel
theorem dX0_init_23 : decode cX0_init 23 = .ok (.iload_n 1, 1) := by decide +kernel
theorem dX0_init_24 : decode cX0_init 24 = .ok (.new 9, 3) := by decide +kernel
theorem dX0_init_27 : decode cX0_init 27 = .ok (.dup, 1) := by decide +kernel
theorem dX0_init_28 : decode cX0_init 28 = .ok (.invokespecial 17, 3) := by decide +kernel
theorem dX0_init_31 : decode cX0_init 31 = .ok (.aastore, 1) := by decide +kernel
theorem dX0_init_32 : decode cX0_init 32 = .ok (.iinc 1 1, 3) := by decide +kernel
theorem dX0_init_35 : decode cX0_init 35 = .ok (.goto (-21), 3) := by decide +kernel
theorem dX0_init_38 : decode cX0_init 38 = .ok (.return_, 1) := by decide +kernel
theorem dX0_isEmpty_0 : decode cX0_isEmpty 0 = .ok (.aload_n 0, 1) := by decide +kernel
theorem dX0_isEmpty_1 : decode cX0_isEmpty 1 = .ok (.getfield 18, 3) := by decide +kernel
theorem dX0_isEmpty_4 : decode cX0_isEmpty 4 = .ok (.ifCond .ne 7, 3) := by decide +kernel
theorem dX0_isEmpty_7 : decode cX0_isEmpty 7 = .ok (.iconst 1, 1) := by decide +kernel
theorem dX0_isEmpty_8 : decode cX0_isEmpty 8 = .ok (.goto 4, 3) := by decide +kernel
theorem dX0_isEmpty_11 : decode cX0_isEmpty 11 = .ok (.iconst 0, 1) := by decide +kernel
theorem dX0_isEmpty_12 : decode cX0_isEmpty 12 = .ok (.ireturn, 1) := by decide +kernel
theorem dX0_keep_0 : decode cX0_keep 0 = .ok (.aload_n 0, 1) := by decide +kernel
theorem dX0_keep_1 : decode cX0_keep 1 = .ok (.getfield 18, 3) := by decide +kernel
theorem dX0_keep_4 : decode cX0_keep 4 = .ok (.iconst 5, 1) := by decide +kernel
theorem dX0_keep_5 : decode cX0_keep 5 = .ok (.if_icmp .ne 25, 3) := by decide +kernel
theorem dX0_keep_8 : decode cX0_keep 8 = .ok (.aload_n 0, 1) := by decide +kernel
theorem dX0_keep_9 : decode cX0_keep 9 = .ok (.aload_n 0, 1) := by decide +kernel
theorem dX0_keep_10 : decode cX0_keep 10 = .ok (.getfield 22, 3) := by decide +kernel
theorem dX0_keep_13 : decode cX0_keep 13 = .ok (.iconst 1, 1) := by decide +kernel
theorem dX0_keep_14 : decode cX0_keep 14 = .ok (.iadd, 1) := by decide +kernel
theorem dX0_keep_15 : decode cX0_keep 15 = .ok (.iconst 5, 1) := by decide +kernel
theorem dX0_keep_16 : decode cX0_keep 16 = .ok (.irem, 1) := by decide +kernel
theorem dX0_keep_17 : decode cX0_keep 17 = .ok (.putfield 22, 3) := by decide +kernel
theorem dX0_keep_20 : decode cX0_keep 20 = .ok (.aload_n 0, 1) := by decide +kernel
theorem dX0_keep_21 : decode cX0_keep 21 = .ok (.dup, 1) := by decide +kernel
theorem dX0_keep_22 : decode cX0_keep 22 = .ok (.getfield 18, 3) := by decide +kernel
theorem dX0_keep_25 : decode cX0_keep 25 = .ok (.iconst 1, 1) := by decide +kernel
theorem dX0_keep_26 : decode cX0_keep 26 = .ok (.isub, 1) := by decide +kernel
theorem dX0_keep_27 : decode cX0_keep 27 = .ok (.putfield 18, 3) := by decide +kernel
theorem dX0_keep_30 : decode cX0_keep 30 = .ok (.aload_n 0, 1) := by decide +kernel
theorem dX0_keep_31 : decode cX0_keep 31 = .ok (.getfield 11, 3) := by decide +kernel
theorem dX0_keep_34 : decode cX0_keep 34 = .ok (.aload_n 0, 1) := by decide +kernel
theorem dX0_keep_35 : decode cX0_keep 35 = .ok (.getfield 22, 3) := by decide +kernel
theorem dX0_keep_38 : decode cX0_keep 38 = .ok (.aload_n 0, 1) := by decide +kernel
theorem dX0_keep_39 : decode cX0_keep 39 = .ok (.getfield 18, 3) := by decide +kernel
theorem dX0_keep_42 : decode cX0_keep 42 = .ok (.iadd, 1) := by decide +kernel
theorem dX0_keep_43 : decode cX0_keep 43 = .ok (.iconst 5, 1) := by decide +kernel
theorem dX0_keep_44 : decode cX0_keep 44 = .ok (.irem, 1) := by decide +kernel
theorem dX0_keep_45 : decode cX0_keep 45 = .ok (.aaload, 1) := by decide +kernel
theorem dX0_keep_46 : decode cX0_keep 46 = .ok (.aload_n 1, 1) := by decide +kernel
theorem dX0_keep_47 : decode cX0_keep 47 = .ok (.invokevirtual 25, 3) := by decide +kernel
theorem dX0_keep_50 : decode cX0_keep 50 = .ok (.aload_n 0, 1) := by decide +kernel
theorem dX0_keep_51 : decode cX0_keep 51 = .ok (.dup, 1) := by decide +kernel
theorem dX0_keep_52 : decode cX0_keep 52 = .ok (.getfield 18, 3) := by decide +kernel
theorem dX0_keep_55 : decode cX0_keep 55 = .ok (.iconst 1, 1) := by decide +kernel
theorem dX0_keep_56 : decode cX0_keep 56 = .ok (.iadd, 1) := by decide +kernel
theorem dX0_keep_57 : decode cX0_keep 57 = .ok (.putfield 18, 3) := by decide +kernel
theorem dX0_keep_60 : decode cX0_keep 60 = .ok (.return_, 1) := by decide +kernel
theorem dX0_restore_0 : decode cX0_restore 0 = .ok (.aload_n 0, 1) := by decide +kernel
theorem dX0_restore_1 : decode cX0_restore 1 = .ok (.dup, 1) := by decide +kernel
theorem dX0_restore_2 : decode cX0_restore 2 = .ok (.getfield 18, 3) := by decide +kernel
theorem dX0_restore_5 : decode cX0_restore 5 = .ok (.iconst 1, 1) := by decide +kernel
theorem dX0_restore_6 : decode cX0_restore 6 = .ok (.isub, 1) := by decide +kernel
theorem dX0_restore_7 : decode cX0_restore 7 = .ok (.putfield 18, 3) := by decide +kernel
theorem dX0_restore_10 : decode cX0_restore 10 = .ok (.aload_n 1, 1) := by decide +kernel
theorem dX0_restore_11 : decode cX0_restore 11 = .ok (.aload_n 0, 1) := by decide +kernel
theorem dX0_restore_12 : decode cX0_restore 12 = .ok (.getfield 11, 3) := by decide +kernel
theorem dX0_restore_15 : decode cX0_restore 15 = .ok (.aload_n 0, 1) := by decide +kernel
theorem dX0_restore_16 : decode cX0_restore 16 = .ok (.getfield 22, 3) := by decide +kernel
theorem dX0_restore_19 : decode cX0_restore 19 = .ok (.aload_n 0, 1) := by decide +kernel
theorem dX0_restore_20 : decode cX0_restore 20 = .ok (.getfield 18, 3) := by decide +kernel
theorem dX0_restore_23 : decode cX0_restore 23 = .ok (.iadd, 1) := by decide +kernel
theorem dX0_restore_24 : decode cX0_restore 24 = .ok (.iconst 5, 1) := by decide +kernel
theorem dX0_restore_25 : decode cX0_restore 25 = .ok (.irem, 1) := by decide +kernel
theorem dX0_restore_26 : decode cX0_restore 26 = .ok (.aaload, 1) := by decide +kernel
theorem dX0_restore_27 : decode cX0_restore 27 = .ok (.invokevirtual 25, 3) := by decide +kernel
theorem dX0_restore_30 : decode cX0_restore 30 = .ok (.aload_n 0, 1) := by decide +kernel
theorem dX0_restore_31 : decode cX0_restore 31 = .ok (.getfield 18, 3) := by decide +kernel
theorem dX0_restore_34 : decode cX0_restore 34 = .ok (.ireturn, 1) := by decide +kernel
theorem dX2_init_0 : decode cX2_init 0 = .ok (.aload_n 0, 1) := by decide +kernel
theorem dX2_init_1 : decode cX2_init 1 = .ok (.invokespecial 3, 3) := by decide +kernel
theorem dX2_init_4 : decode cX2_init 4 = .ok (.aload_n 0, 1) := by decide +kernel
theorem dX2_init_5 : decode cX2_init 5 = .ok (.bipush 100, 2) := by decide +kernel
theorem dX2_init_7 : decode cX2_init 7 = .ok (.newarray .int, 2) := by decide +kernel
theorem dX2_init_9 : decode cX2_init 9 = .ok (.putfield 9, 3) := by decide +kernel
theorem dX2_init_12 : decode cX2_init 12 = .ok (.aload_n 0, 1) := by decide +kernel
theorem dX2_init_13 : decode cX2_init 13 = .ok (.bipush 48, 2) := by decide +kernel
theorem dX2_init_15 : decode cX2_init 15 = .ok (.newarray .int, 2) := by decide +kernel
theorem dX2_init_17 : decode cX2_init 17 = .ok (.putfield 15, 3) := by decide +kernel
theorem dX2_init_20 : decode cX2_init 20 = .ok (.return_, 1) := by decide +kernel
theorem dX2_wordsFound_0 : decode cX2_wordsFound 0 = .ok (.aload_n 0, 1) := by decide +kernel
theorem dX2_wordsFound_1 : decode cX2_wordsFound 1 = .ok (.getfield 22, 3) := by decide +kernel
theorem dX2_wordsFound_4 : decode cX2_wordsFound 4 = .ok (.ireturn, 1) := by decide +kernel
theorem dX2_wordFound_0 : decode cX2_wordFound 0 = .ok (.aload_n 0, 1) := by decide +kernel
theorem dX2_wordFound_1 : decode cX2_wordFound 1 = .ok (.getfield 15, 3) := by decide +kernel
theorem dX2_wordFound_4 : decode cX2_wordFound 4 = .ok (.iload_n 1, 1) := by decide +kernel
theorem dX2_wordFound_5 : decode cX2_wordFound 5 = .ok (.iaload, 1) := by decide +kernel
theorem dX2_wordFound_6 : decode cX2_wordFound 6 = .ok (.ireturn, 1) := by decide +kernel
theorem dX2_scan_0 : decode cX2_scan 0 = .ok (.iconst 0, 1) := by decide +kernel
theorem dX2_scan_1 : decode cX2_scan 1 = .ok (.istore_n 3, 1) := by decide +kernel
theorem dX2_scan_2 : decode cX2_scan 2 = .ok (.iconst 0, 1) := by decide +kernel
theorem dX2_scan_3 : decode cX2_scan 3 = .ok (.istore 4, 2) := by decide +kernel
theorem dX2_scan_5 : decode cX2_scan 5 = .ok (.iconst 0, 1) := by decide +kernel
theorem dX2_scan_6 : decode cX2_scan 6 = .ok (.istore 5, 2) := by decide +kernel
theorem dX2_scan_8 : decode cX2_scan 8 = .ok (.aload_n 0, 1) := by decide +kernel
theorem dX2_scan_9 : decode cX2_scan 9 = .ok (.iconst 0, 1) := by decide +kernel
theorem dX2_scan_10 : decode cX2_scan 10 = .ok (.putfield 22, 3) := by decide +kernel
theorem dX2_scan_13 : decode cX2_scan 13 = .ok (.iconst 0, 1) := by decide +kernel
theorem dX2_scan_14 : decode cX2_scan 14 = .ok (.istore 6, 2) := by decide +kernel
theorem dX2_scan_16 : decode cX2_scan 16 = .ok (.iload 6, 2) := by decide +kernel
theorem dX2_scan_18 : decode cX2_scan 18 = .ok (.aload_n 0, 1) := by decide +kernel
theorem dX2_scan_19 : decode cX2_scan 19 = .ok (.getfield 18, 3) := by decide +kernel
theorem dX2_scan_22 : decode cX2_scan 22 = .ok (.if_icmp .ge 162, 3) := by decide +kernel
theorem dX2_scan_25 : decode cX2_scan 25 = .ok (.aload_n 0, 1) := by decide +kernel
theorem dX2_scan_26 : decode cX2_scan 26 = .ok (.getfield 9, 3) := by decide +kernel
theorem dX2_scan_29 : decode cX2_scan 29 = .ok (.iload 6, 2) := by decide +kernel
theorem dX2_scan_31 : decode cX2_scan 31 = .ok (.iaload, 1) := by decide +kernel
theorem dX2_scan_32 : decode cX2_scan 32 = .ok (.istore 7, 2) := by decide +kernel
theorem dX2_scan_34 : decode cX2_scan 34 = .ok (.iload 7, 2) := by decide +kernel
theorem dX2_scan_36 : decode cX2_scan 36 = .ok (.bipush 48, 2) := by decide +kernel
theorem dX2_scan_38 : decode cX2_scan 38 = .ok (.if_icmp .lt 100, 3) := by decide +kernel
theorem dX2_scan_41 : decode cX2_scan 41 = .ok (.iload 7, 2) := by decide +kernel
theorem dX2_scan_43 : decode cX2_scan 43 = .ok (.bipush 56, 2) := by decide +kernel
theorem dX2_scan_45 : decode cX2_scan 45 = .ok (.if_icmp .ge 93, 3) := by decide +kernel
theorem dX2_scan_48 : decode cX2_scan 48 = .ok (.iload_n 3, 1) := by decide +kernel
theorem dX2_scan_49 : decode cX2_scan 49 = .ok (.iconst 2, 1) := by decide +kernel
theorem dX2_scan_50 : decode cX2_scan 50 = .ok (.if_icmp .eq 15, 3) := by decide +kernel
theorem dX2_scan_53 : decode cX2_scan 53 = .ok (.iload_n 3, 1) := by decide +kernel
theorem dX2_scan_54 : decode cX2_scan 54 = .ok (.ifCond .ne 14, 3) := by decide +kernel
theorem dX2_scan_57 : decode cX2_scan 57 = .ok (.aload_n 0, 1) := by decide +kernel
theorem dX2_scan_58 : decode cX2_scan 58 = .ok (.getfield 22, 3) := by decide +kernel
theorem dX2_scan_61 : decode cX2_scan 61 = .ok (.iload_n 1, 1) := by decide +kernel
theorem dX2_scan_62 : decode cX2_scan 62 = .ok (.if_icmp .ne 6, 3) := by decide +kernel
theorem dX2_scan_65 : decode cX2_scan 65 = .ok (.iload 6, 2) := by decide +kernel
theorem dX2_scan_67 : decode cX2_scan 67 = .ok (.ireturn, 1) := by decide +kernel
theorem dX2_scan_68 : decode cX2_scan 68 = .ok (.iload_n 3, 1) := by decide +kernel
theorem dX2_scan_69 : decode cX2_scan 69 = .ok (.ifCond .ne 22, 3) := by decide +kernel
theorem dX2_scan_72 : decode cX2_scan 72 = .ok (.iconst 1, 1) := by decide +kernel
theorem dX2_scan_73 : decode cX2_scan 73 = .ok (.istore_n 3, 1) := by decide +kernel
theorem dX2_scan_74 : decode cX2_scan 74 = .ok (.iload 6, 2) := by decide +kernel
theorem dX2_scan_76 : decode cX2_scan 76 = .ok (.istore 4, 2) := by decide +kernel
theorem dX2_scan_78 : decode cX2_scan 78 = .ok (.iconst 0, 1) := by decide +kernel
theorem dX2_scan_79 : decode cX2_scan 79 = .ok (.istore 5, 2) := by decide +kernel
theorem dX2_scan_81 : decode cX2_scan 81 = .ok (.aload_n 0, 1) := by decide +kernel
theorem dX2_scan_82 : decode cX2_scan 82 = .ok (.dup, 1) := by decide +kernel
theorem dX2_scan_83 : decode cX2_scan 83 = .ok (.getfield 22, 3) := by decide +kernel
theorem dX2_scan_86 : decode cX2_scan 86 = .ok (.iconst 1, 1) := by decide +kernel
theorem dX2_scan_87 : decode cX2_scan 87 = .ok (.iadd, 1) := by decide +kernel
theorem dX2_scan_88 : decode cX2_scan 88 = .ok (.putfield 22, 3) := by decide +kernel
theorem dX2_scan_91 : decode cX2_scan 91 = .ok (.bipush 8, 2) := by decide +kernel
theorem dX2_scan_93 : decode cX2_scan 93 = .ok (.iload 5, 2) := by decide +kernel
theorem dX2_scan_95 : decode cX2_scan 95 = .ok (.imul, 1) := by decide +kernel
theorem dX2_scan_96 : decode cX2_scan 96 = .ok (.iload 7, 2) := by decide +kernel
theorem dX2_scan_98 : decode cX2_scan 98 = .ok (.iadd, 1) := by decide +kernel
theorem dX2_scan_99 : decode cX2_scan 99 = .ok (.bipush 48, 2) := by decide +kernel
theorem dX2_scan_101 : decode cX2_scan 101 = .ok (.isub, 1) := by decide +kernel
theorem dX2_scan_102 : decode cX2_scan 102 = .ok (.istore 5, 2) := by decide +kernel
theorem dX2_scan_104 : decode cX2_scan 104 = .ok (.iload 6, 2) := by decide +kernel
theorem dX2_scan_106 : decode cX2_scan 106 = .ok (.iload 4, 2) := by decide +kernel
theorem dX2_scan_108 : decode cX2_scan 108 = .ok (.isub, 1) := by decide +kernel
theorem dX2_scan_109 : decode cX2_scan 109 = .ok (.iconst 4, 1) := by decide +kernel
theorem dX2_scan_110 : decode cX2_scan 110 = .ok (.if_icmp .ge 9, 3) := by decide +kernel
theorem dX2_scan_113 : decode cX2_scan 113 = .ok (.iload 5, 2) := by decide +kernel
theorem dX2_scan_115 : decode cX2_scan 115 = .ok (.iload_n 2, 1) := by decide +kernel
theorem dX2_scan_116 : decode cX2_scan 116 = .ok (.if_icmp .le 6, 3) := by decide +kernel
theorem dX2_scan_119 : decode cX2_scan 119 = .ok (.iload 4, 2) := by decide +kernel
theorem dX2_scan_121 : decode cX2_scan 121 = .ok (.ireturn, 1) := by decide +kernel
theorem dX2_scan_122 : decode cX2_scan 122 = .ok (.aload_n 0, 1) := by decide +kernel
theorem dX2_scan_123 : decode cX2_scan 123 = .ok (.getfield 15, 3) := by decide +kernel
theorem dX2_scan_126 : decode cX2_scan 126 = .ok (.aload_n 0, 1) := by decide +kernel
theorem dX2_scan_127 : decode cX2_scan 127 = .ok (.getfield 22, 3) := by decide +kernel
theorem dX2_scan_130 : decode cX2_scan 130 = .ok (.iconst 1, 1) := by decide +kernel
theorem dX2_scan_131 : decode cX2_scan 131 = .ok (.isub, 1) := by decide +kernel
theorem dX2_scan_132 : decode cX2_scan 132 = .ok (.iload 5, 2) := by decide +kernel
theorem dX2_scan_134 : decode cX2_scan 134 = .ok (.iastore, 1) := by decide +kernel
theorem dX2_scan_135 : decode cX2_scan 135 = .ok (.goto 43, 3) := by decide +kernel
theorem dX2_scan_138 : decode cX2_scan 138 = .ok (.iload 7, 2) := by decide +kernel
theorem dX2_scan_140 : decode cX2_scan 140 = .ok (.bipush 44, 2) := by decide +kernel
theorem dX2_scan_142 : decode cX2_scan 142 = .ok (.if_icmp .ne 12, 3) := by decide +kernel
theorem dX2_scan_145 : decode cX2_scan 145 = .ok (.iload_n 3, 1) := by decide +kernel
theorem dX2_scan_146 : decode cX2_scan 146 = .ok (.ifCond .eq 8, 3) := by decide +kernel
theorem dX2_scan_149 : decode cX2_scan 149 = .ok (.iconst 0, 1) := by decide +kernel
theorem dX2_scan_150 : decode cX2_scan 150 = .ok (.istore_n 3, 1) := by decide +kernel
theorem dX2_scan_151 : decode cX2_scan 151 = .ok (.goto 27, 3) := by decide +kernel
theorem dX2_scan_154 : decode cX2_scan 154 = .ok (.iload 7, 2) := by decide +kernel
theorem dX2_scan_156 : decode cX2_scan 156 = .ok (.bipush 32, 2) := by decide +kernel
theorem dX2_scan_158 : decode cX2_scan 158 = .ok (.if_icmp .ne 17, 3) := by decide +kernel
theorem dX2_scan_161 : decode cX2_scan 161 = .ok (.iload_n 3, 1) := by decide +kernel
theorem dX2_scan_162 : decode cX2_scan 162 = .ok (.iconst 1, 1) := by decide +kernel
theorem dX2_scan_163 : decode cX2_scan 163 = .ok (.if_icmp .ne 7, 3) := by decide +kernel
theorem dX2_scan_166 : decode cX2_scan 166 = .ok (.iconst 2, 1) := by decide +kernel
theorem dX2_scan_167 : decode cX2_scan 167 = .ok (.goto 4, 3) := by decide +kernel
theorem dX2_scan_170 : decode cX2_scan 170 = .ok (.iload_n 3, 1) := by decide +kernel
theorem dX2_scan_171 : decode cX2_scan 171 = .ok (.istore_n 3, 1) := by decide +kernel
theorem dX2_scan_172 : decode cX2_scan 172 = .ok (.goto 6, 3) := by decide +kernel
theorem dX2_scan_175 : decode cX2_scan 175 = .ok (.iload 6, 2) := by decide +kernel
theorem dX2_scan_177 : decode cX2_scan 177 = .ok (.ireturn, 1) := by decide +kernel
theorem dX2_scan_178 : decode cX2_scan 178 = .ok (.iinc 6 1, 3) := by decide +kernel
theorem dX2_scan_181 : decode cX2_scan 181 = .ok (.goto (-165), 3) := by decide +kernel
theorem dX2_scan_184 : decode cX2_scan 184 = .ok (.iload_n 3, 1) := by decide +kernel
theorem dX2_scan_185 : decode cX2_scan 185 = .ok (.ifCond .ne 10, 3) := by decide +kernel
theorem dX2_scan_188 : decode cX2_scan 188 = .ok (.aload_n 0, 1) := by decide +kernel
theorem dX2_scan_189 : decode cX2_scan 189 = .ok (.getfield 18, 3) := by decide +kernel
theorem dX2_scan_192 : decode cX2_scan 192 = .ok (.goto 4, 3) := by decide +kernel
theorem dX2_scan_195 : decode cX2_scan 195 = .ok (.iconst (-1), 1) := by decide +kernel
theorem dX2_scan_196 : decode cX2_scan 196 = .ok (.ireturn, 1) := by decide +kernel
theorem dX3_init_0 : decode cX3_init 0 = .ok (.aload_n 0, 1) := by decide +kernel
theorem dX3_init_1 : decode cX3_init 1 = .ok (.invokespecial 3, 3) := by decide +kernel
theorem dX3_init_4 : decode cX3_init 4 = .ok (.aload_n 0, 1) := by decide +kernel
theorem dX3_init_5 : decode cX3_init 5 = .ok (.new 9, 3) := by decide +kernel
theorem dX3_init_8 : decode cX3_init 8 = .ok (.dup, 1) := by decide +kernel
theorem dX3_init_9 : decode cX3_init 9 = .ok (.invokespecial 11, 3) := by decide +kernel
theorem dX3_init_12 : decode cX3_init 12 = .ok (.putfield 12, 3) := by decide +kernel
theorem dX3_init_15 : decode cX3_init 15 = .ok (.aload_n 0, 1) := by decide +kernel
theorem dX3_init_16 : decode cX3_init 16 = .ok (.new 16, 3) := by decide +kernel
theorem dX3_init_19 : decode cX3_init 19 = .ok (.dup, 1) := by decide +kernel
theorem dX3_init_20 : decode cX3_init 20 = .ok (.invokespecial 18, 3) := by decide +kernel
theorem dX3_init_23 : decode cX3_init 23 = .ok (.putfield 19, 3) := by decide +kernel
theorem dX3_init_26 : decode cX3_init 26 = .ok (.aload_n 0, 1) := by decide +kernel
theorem dX3_init_27 : decode cX3_init 27 = .ok (.new 23, 3) := by decide +kernel
theorem dX3_init_30 : decode cX3_init 30 = .ok (.dup, 1) := by decide +kernel
theorem dX3_init_31 : decode cX3_init 31 = .ok (.invokespecial 25, 3) := by decide +kernel
theorem dX3_init_34 : decode cX3_init 34 = .ok (.putfield 26, 3) := by decide +kernel
theorem dX3_init_37 : decode cX3_init 37 = .ok (.return_, 1) := by decide +kernel
theorem dX3_begin_0 : decode cX3_begin 0 = .ok (.iload_n 1, 1) := by decide +kernel
theorem dX3_begin_1 : decode cX3_begin 1 = .ok (.iconst 2, 1) := by decide +kernel
theorem dX3_begin_2 : decode cX3_begin 2 = .ok (.if_icmp .lt 30, 3) := by decide +kernel
theorem dX3_begin_5 : decode cX3_begin 5 = .ok (.iload_n 1, 1) := by decide +kernel
theorem dX3_begin_6 : decode cX3_begin 6 = .ok (.bipush 16, 2) := by decide +kernel
theorem dX3_begin_8 : decode cX3_begin 8 = .ok (.if_icmp .gt 24, 3) := by decide +kernel
theorem dX3_begin_11 : decode cX3_begin 11 = .ok (.iload_n 2, 1) := by decide +kernel
theorem dX3_begin_12 : decode cX3_begin 12 = .ok (.iconst 1, 1) := by decide +kernel
theorem dX3_begin_13 : decode cX3_begin 13 = .ok (.if_icmp .lt 19, 3) := by decide +kernel
theorem dX3_begin_16 : decode cX3_begin 16 = .ok (.iload_n 2, 1) := by decide +kernel
theorem dX3_begin_17 : decode cX3_begin 17 = .ok (.bipush 10, 2) := by decide +kernel
theorem dX3_begin_19 : decode cX3_begin 19 = .ok (.if_icmp .gt 13, 3) := by decide +kernel
theorem dX3_begin_22 : decode cX3_begin 22 = .ok (.iload_n 3, 1) := by decide +kernel
theorem dX3_begin_23 : decode cX3_begin 23 = .ok (.iconst 1, 1) := by decide +kernel
theorem dX3_begin_24 : decode cX3_begin 24 = .ok (.if_icmp .lt 8, 3) := by decide +kernel
theorem dX3_begin_27 : decode cX3_begin 27 = .ok (.iload_n 3, 1) := by decide +kernel
theorem dX3_begin_28 : decode cX3_begin 28 = .ok (.iconst 3, 1) := by decide +kernel
theorem dX3_begin_29 : decode cX3_begin 29 = .ok (.if_icmp .le 6, 3) := by decide +kernel
theorem dX3_begin_32 : decode cX3_begin 32 = .ok (.bipush (-3), 2) := by decide +kernel
theorem dX3_begin_34 : decode cX3_begin 34 = .ok (.ireturn, 1) := by decide +kernel
theorem dX3_begin_35 : decode cX3_begin 35 = .ok (.aload_n 0, 1) := by decide +kernel
theorem dX3_begin_36 : decode cX3_begin 36 = .ok (.getfield 12, 3) := by decide +kernel
theorem dX3_begin_39 : decode cX3_begin 39 = .ok (.invokevirtual 30, 3) := by decide +kernel
theorem dX3_begin_42 : decode cX3_begin 42 = .ok (.istore 4, 2) := by decide +kernel
theorem dX3_begin_44 : decode cX3_begin 44 = .ok (.aload_n 0, 1) := by decide +kernel
theorem dX3_begin_45 : decode cX3_begin 45 = .ok (.getfield 19, 3) := by decide +kernel
theorem dX3_begin_48 : decode cX3_begin 48 = .ok (.aload_n 0, 1) := by decide +kernel
theorem dX3_begin_49 : decode cX3_begin 49 = .ok (.getfield 12, 3) := by decide +kernel
theorem dX3_begin_52 : decode cX3_begin 52 = .ok (.invokevirtual 34, 3) := by decide +kernel
theorem dX3_begin_55 : decode cX3_begin 55 = .ok (.aload_n 0, 1) := by decide +kernel
theorem dX3_begin_56 : decode cX3_begin 56 = .ok (.getfield 12, 3) := by decide +kernel
theorem dX3_begin_59 : decode cX3_begin 59 = .ok (.iload_n 1, 1) := by decide +kernel
theorem dX3_begin_60 : decode cX3_begin 60 = .ok (.iload_n 2, 1) := by decide +kernel
theorem dX3_begin_61 : decode cX3_begin 61 = .ok (.iload_n 3, 1) := by decide +kernel
theorem dX3_begin_62 : decode cX3_begin 62 = .ok (.invokevirtual 38, 3) := by decide +kernel
theorem dX3_begin_65 : decode cX3_begin 65 = .ok (.iload 4, 2) := by decide +kernel
theorem dX3_begin_67 : decode cX3_begin 67 = .ok (.ireturn, 1) := by decide +kernel
theorem dX3_count_0 : decode cX3_count 0 = .ok (.iload_n 1, 1) := by decide +kernel
theorem dX3_count_1 : decode cX3_count 1 = .ok (.ifCond .lt 9, 3) := by decide +kernel
theorem dX3_count_4 : decode cX3_count 4 = .ok (.iload_n 1, 1) := by decide +kernel
theorem dX3_count_5 : decode cX3_count 5 = .ok (.bipush 9, 2) := by decide +kernel
theorem dX3_count_7 : decode cX3_count 7 = .ok (.if_icmp .lt 8, 3) := by decide +kernel
theorem dX3_count_10 : decode cX3_count 10 = .ok (.bipush (-3), 2) := by decide +kernel
theorem dX3_count_12 : decode cX3_count 12 = .ok (.goto 11, 3) := by decide +kernel
theorem dX3_count_15 : decode cX3_count 15 = .ok (.aload_n 0, 1) := by decide +kernel
theorem dX3_count_16 : decode cX3_count 16 = .ok (.getfield 12, 3) := by decide +kernel
theorem dX3_count_19 : decode cX3_count 19 = .ok (.iload_n 1, 1) := by decide +kernel
theorem dX3_count_20 : decode cX3_count 20 = .ok (.invokevirtual 42, 3) := by decide +kernel
theorem dX3_count_23 : decode cX3_count 23 = .ok (.ireturn, 1) := by decide +kernel
theorem dX3_setCode_0 : decode cX3_setCode 0 = .ok (.aload_n 0, 1) := by decide +kernel
theorem dX3_setCode_1 : decode cX3_setCode 1 = .ok (.getfield 12, 3) := by decide +kernel
theorem dX3_setCode_4 : decode cX3_setCode 4 = .ok (.iload_n 1, 1) := by decide +kernel
theorem dX3_setCode_5 : decode cX3_setCode 5 = .ok (.invokevirtual 46, 3) := by decide +kernel
theorem dX3_setCode_8 : decode cX3_setCode 8 = .ok (.ifCond .ne 6, 3) := by decide +kernel
theorem dX3_setCode_11 : decode cX3_setCode 11 = .ok (.bipush (-2), 2) := by decide +kernel
theorem dX3_setCode_13 : decode cX3_setCode 13 = .ok (.ireturn, 1) := by decide +kernel
theorem dX3_setCode_14 : decode cX3_setCode 14 = .ok (.iload_n 2, 1) := by decide +kernel
theorem dX3_setCode_15 : decode cX3_setCode 15 = .ok (.ifCond .lt 9, 3) := by decide +kernel
theorem dX3_setCode_18 : decode cX3_setCode 18 = .ok (.iload_n 2, 1) := by decide +kernel
theorem dX3_setCode_19 : decode cX3_setCode 19 = .ok (.bipush 16, 2) := by decide +kernel
theorem dX3_setCode_21 : decode cX3_setCode 21 = .ok (.if_icmp .lt 6, 3) := by decide +kernel
theorem dX3_setCode_24 : decode cX3_setCode 24 = .ok (.bipush (-3), 2) := by decide +kernel
theorem dX3_setCode_26 : decode cX3_setCode 26 = .ok (.ireturn, 1) := by decide +kernel
theorem dX3_setCode_27 : decode cX3_setCode 27 = .ok (.aload_n 0, 1) := by decide +kernel
theorem dX3_setCode_28 : decode cX3_setCode 28 = .ok (.getfield 12, 3) := by decide +kernel
theorem dX3_setCode_31 : decode cX3_setCode 31 = .ok (.iload_n 2, 1) := by decide +kernel
theorem dX3_setCode_32 : decode cX3_setCode 32 = .ok (.invokevirtual 50, 3) := by decide +kernel
theorem dX3_setCode_35 : decode cX3_setCode 35 = .ok (.istore_n 3, 1) := by decide +kernel
theorem dX3_setCode_36 : decode cX3_setCode 36 = .ok (.iload_n 3, 1) := by decide +kernel
theorem dX3_setCode_37 : decode cX3_setCode 37 = .ok (.iconst (-1), 1) := by decide +kernel
theorem dX3_setCode_38 : decode cX3_setCode 38 = .ok (.if_icmp .eq 11, 3) := by decide +kernel
theorem dX3_setCode_41 : decode cX3_setCode 41 = .ok (.iload_n 3, 1) := by decide +kernel
theorem dX3_setCode_42 : decode cX3_setCode 42 = .ok (.iload_n 1, 1) := by decide +kernel
theorem dX3_setCode_43 : decode cX3_setCode 43 = .ok (.if_icmp .eq 6, 3) := by decide +kernel
theorem dX3_setCode_46 : decode cX3_setCode 46 = .ok (.bipush (-4), 2) := by decide +kernel
theorem dX3_setCode_48 : decode cX3_setCode 48 = .ok (.ireturn, 1) := by decide +kernel
theorem dX3_setCode_49 : decode cX3_setCode 49 = .ok (.aload_n 0, 1) := by decide +kernel
theorem dX3_setCode_50 : decode cX3_setCode 50 = .ok (.getfield 12, 3) := by decide +kernel
theorem dX3_setCode_53 : decode cX3_setCode 53 = .ok (.iload_n 1, 1) := by decide +kernel
theorem dX3_setCode_54 : decode cX3_setCode 54 = .ok (.invokevirtual 53, 3) := by decide +kernel
theorem dX3_setCode_57 : decode cX3_setCode 57 = .ok (.istore 4, 2) := by decide +kernel
theorem dX3_setCode_59 : decode cX3_setCode 59 = .ok (.aload_n 0, 1) := by decide +kernel
theorem dX3_setCode_60 : decode cX3_setCode 60 = .ok (.getfield 19, 3) := by decide +kernel
theorem dX3_setCode_63 : decode cX3_setCode 63 = .ok (.aload_n 0, 1) := by decide +kernel
theorem dX3_setCode_64 : decode cX3_setCode 64 = .ok (.getfield 12, 3) := by decide +kernel
theorem dX3_setCode_67 : decode cX3_setCode 67 = .ok (.invokevirtual 34, 3) := by decide +kernel
theorem dX3_setCode_70 : decode cX3_setCode 70 = .ok (.aload_n 0, 1) := by decide +kernel
theorem dX3_setCode_71 : decode cX3_setCode 71 = .ok (.getfield 12, 3) := by decide +kernel
theorem dX3_setCode_74 : decode cX3_setCode 74 = .ok (.iload_n 1, 1) := by decide +kernel
theorem dX3_setCode_75 : decode cX3_setCode 75 = .ok (.iload_n 2, 1) := by decide +kernel
theorem dX3_setCode_76 : decode cX3_setCode 76 = .ok (.invokevirtual 56, 3) := by decide +kernel
theorem dX3_setCode_79 : decode cX3_setCode 79 = .ok (.iload 4, 2) := by decide +kernel
theorem dX3_setCode_81 : decode cX3_setCode 81 = .ok (.ireturn, 1) := by decide +kernel
theorem dX3_code_0 : decode cX3_code 0 = .ok (.aload_n 0, 1) := by decide +kernel
theorem dX3_code_1 : decode cX3_code 1 = .ok (.getfield 12, 3) := by decide +kernel
theorem dX3_code_4 : decode cX3_code 4 = .ok (.iload_n 1, 1) := by decide +kernel
theorem dX3_code_5 : decode cX3_code 5 = .ok (.invokevirtual 46, 3) := by decide +kernel
theorem dX3_code_8 : decode cX3_code 8 = .ok (.ifCond .eq 14, 3) := by decide +kernel
theorem dX3_code_11 : decode cX3_code 11 = .ok (.aload_n 0, 1) := by decide +kernel
theorem dX3_code_12 : decode cX3_code 12 = .ok (.getfield 12, 3) := by decide +kernel
theorem dX3_code_15 : decode cX3_code 15 = .ok (.iload_n 1, 1) := by decide +kernel
theorem dX3_code_16 : decode cX3_code 16 = .ok (.invokevirtual 53, 3) := by decide +kernel
theorem dX3_code_19 : decode cX3_code 19 = .ok (.goto 5, 3) := by decide +kernel
theorem dX3_code_22 : decode cX3_code 22 = .ok (.bipush (-2), 2) := by decide +kernel
theorem dX3_code_24 : decode cX3_code 24 = .ok (.ireturn, 1) := by decide +kernel
theorem dX3_weave_0 : decode cX3_weave 0 = .ok (.aload_n 0, 1) := by decide +kernel
theorem dX3_weave_1 : decode cX3_weave 1 = .ok (.getfield 12, 3) := by decide +kernel
theorem dX3_weave_4 : decode cX3_weave 4 = .ok (.iload_n 1, 1) := by decide +kernel
theorem dX3_weave_5 : decode cX3_weave 5 = .ok (.invokevirtual 60, 3) := by decide +kernel
theorem dX3_weave_8 : decode cX3_weave 8 = .ok (.ifCond .ne 6, 3) := by decide +kernel
theorem dX3_weave_11 : decode cX3_weave 11 = .ok (.bipush (-2), 2) := by decide +kernel
theorem dX3_weave_13 : decode cX3_weave 13 = .ok (.ireturn, 1) := by decide +kernel
theorem dX3_weave_14 : decode cX3_weave 14 = .ok (.aload_n 0, 1) := by decide +kernel
theorem dX3_weave_15 : decode cX3_weave 15 = .ok (.getfield 12, 3) := by decide +kernel
theorem dX3_weave_18 : decode cX3_weave 18 = .ok (.iload_n 2, 1) := by decide +kernel
theorem dX3_weave_19 : decode cX3_weave 19 = .ok (.invokevirtual 63, 3) := by decide +kernel
theorem dX3_weave_22 : decode cX3_weave 22 = .ok (.ifCond .ne 6, 3) := by decide +kernel
theorem dX3_weave_25 : decode cX3_weave 25 = .ok (.bipush (-3), 2) := by decide +kernel
theorem dX3_weave_27 : decode cX3_weave 27 = .ok (.ireturn, 1) := by decide +kernel
theorem dX3_weave_28 : decode cX3_weave 28 = .ok (.aload_n 0, 1) := by decide +kernel
theorem dX3_weave_29 : decode cX3_weave 29 = .ok (.getfield 12, 3) := by decide +kernel
theorem dX3_weave_32 : decode cX3_weave 32 = .ok (.iload_n 1, 1) := by decide +kernel
theorem dX3_weave_33 : decode cX3_weave 33 = .ok (.invokevirtual 66, 3) := by decide +kernel
theorem dX3_weave_36 : decode cX3_weave 36 = .ok (.istore_n 3, 1) := by decide +kernel
theorem dX3_weave_37 : decode cX3_weave 37 = .ok (.aload_n 0, 1) := by decide +kernel
theorem dX3_weave_38 : decode cX3_weave 38 = .ok (.getfield 19, 3) := by decide +kernel
theorem dX3_weave_41 : decode cX3_weave 41 = .ok (.aload_n 0, 1) := by decide +kernel
theorem dX3_weave_42 : decode cX3_weave 42 = .ok (.getfield 12, 3) := by decide +kernel
theorem dX3_weave_45 : decode cX3_weave 45 = .ok (.invokevirtual 34, 3) := by decide +kernel
theorem dX3_weave_48 : decode cX3_weave 48 = .ok (.aload_n 0, 1) := by decide +kernel
theorem dX3_weave_49 : decode cX3_weave 49 = .ok (.getfield 12, 3) := by decide +kernel
theorem dX3_weave_52 : decode cX3_weave 52 = .ok (.iload_n 1, 1) := by decide +kernel
theorem dX3_weave_53 : decode cX3_weave 53 = .ok (.iload_n 2, 1) := by decide +kernel
theorem dX3_weave_54 : decode cX3_weave 54 = .ok (.invokevirtual 69, 3) := by decide +kernel
theorem dX3_weave_57 : decode cX3_weave 57 = .ok (.iload_n 3, 1) := by decide +kernel
theorem dX3_weave_58 : decode cX3_weave 58 = .ok (.ireturn, 1) := by decide +kernel
theorem dX3_word_0 : decode cX3_word 0 = .ok (.aload_n 0, 1) := by decide +kernel
theorem dX3_word_1 : decode cX3_word 1 = .ok (.getfield 12, 3) := by decide +kernel
theorem dX3_word_4 : decode cX3_word 4 = .ok (.iload_n 1, 1) := by decide +kernel
theorem dX3_word_5 : decode cX3_word 5 = .ok (.invokevirtual 60, 3) := by decide +kernel
theorem dX3_word_8 : decode cX3_word 8 = .ok (.ifCond .eq 14, 3) := by decide +kernel
theorem dX3_word_11 : decode cX3_word 11 = .ok (.aload_n 0, 1) := by decide +kernel
theorem dX3_word_12 : decode cX3_word 12 = .ok (.getfield 12, 3) := by decide +kernel
theorem dX3_word_15 : decode cX3_word 15 = .ok (.iload_n 1, 1) := by decide +kernel
theorem dX3_word_16 : decode cX3_word 16 = .ok (.invokevirtual 66, 3) := by decide +kernel
theorem dX3_word_19 : decode cX3_word 19 = .ok (.goto 5, 3) := by decide +kernel
theorem dX3_word_22 : decode cX3_word 22 = .ok (.bipush (-2), 2) := by decide +kernel
theorem dX3_word_24 : decode cX3_word 24 = .ok (.ireturn, 1) := by decide +kernel
theorem dX3_cross_0 : decode cX3_cross 0 = .ok (.aload_n 0, 1) := by decide +kernel
theorem dX3_cross_1 : decode cX3_cross 1 = .ok (.getfield 12, 3) := by decide +kernel
theorem dX3_cross_4 : decode cX3_cross 4 = .ok (.iload_n 1, 1) := by decide +kernel
theorem dX3_cross_5 : decode cX3_cross 5 = .ok (.invokevirtual 72, 3) := by decide +kernel
theorem dX3_cross_8 : decode cX3_cross 8 = .ok (.ifCond .ne 6, 3) := by decide +kernel
theorem dX3_cross_11 : decode cX3_cross 11 = .ok (.bipush (-2), 2) := by decide +kernel
theorem dX3_cross_13 : decode cX3_cross 13 = .ok (.ireturn, 1) := by decide +kernel
theorem dX3_cross_14 : decode cX3_cross 14 = .ok (.iload_n 1, 1) := by decide +kernel
theorem dX3_cross_15 : decode cX3_cross 15 = .ok (.bipush 8, 2) := by decide +kernel
theorem dX3_cross_17 : decode cX3_cross 17 = .ok (.if_icmp .ge 6, 3) := by decide +kernel
theorem dX3_cross_20 : decode cX3_cross 20 = .ok (.bipush (-4), 2) := by decide +kernel
theorem dX3_cross_22 : decode cX3_cross 22 = .ok (.ireturn, 1) := by decide +kernel
theorem dX3_cross_23 : decode cX3_cross 23 = .ok (.aload_n 0, 1) := by decide +kernel
theorem dX3_cross_24 : decode cX3_cross 24 = .ok (.getfield 19, 3) := by decide +kernel
theorem dX3_cross_27 : decode cX3_cross 27 = .ok (.aload_n 0, 1) := by decide +kernel
theorem dX3_cross_28 : decode cX3_cross 28 = .ok (.getfield 12, 3) := by decide +kernel
theorem dX3_cross_31 : decode cX3_cross 31 = .ok (.invokevirtual 34, 3) := by decide +kernel
theorem dX3_cross_34 : decode cX3_cross 34 = .ok (.aload_n 0, 1) := by decide +kernel
theorem dX3_cross_35 : decode cX3_cross 35 = .ok (.getfield 12, 3) := by decide +kernel
theorem dX3_cross_38 : decode cX3_cross 38 = .ok (.iload_n 1, 1) := by decide +kernel
theorem dX3_cross_39 : decode cX3_cross 39 = .ok (.invokevirtual 75, 3) := by decide +kernel
theorem dX3_cross_42 : decode cX3_cross 42 = .ok (.ireturn, 1) := by decide +kernel
theorem dX3_through_0 : decode cX3_through 0 = .ok (.aload_n 0, 1) := by decide +kernel
theorem dX3_through_1 : decode cX3_through 1 = .ok (.getfield 12, 3) := by decide +kernel
theorem dX3_through_4 : decode cX3_through 4 = .ok (.iload_n 1, 1) := by decide +kernel
theorem dX3_through_5 : decode cX3_through 5 = .ok (.invokevirtual 72, 3) := by decide +kernel
theorem dX3_through_8 : decode cX3_through 8 = .ok (.ifCond .eq 14, 3) := by decide +kernel
theorem dX3_through_11 : decode cX3_through 11 = .ok (.aload_n 0, 1) := by decide +kernel
theorem dX3_through_12 : decode cX3_through 12 = .ok (.getfield 12, 3) := by decide +kernel
theorem dX3_through_15 : decode cX3_through 15 = .ok (.iload_n 2, 1) := by decide +kernel
theorem dX3_through_16 : decode cX3_through 16 = .ok (.invokevirtual 46, 3) := by decide +kernel
theorem dX3_through_19 : decode cX3_through 19 = .ok (.ifCond .ne 6, 3) := by decide +kernel
theorem dX3_through_22 : decode cX3_through 22 = .ok (.bipush (-2), 2) := by decide +kernel
theorem dX3_through_24 : decode cX3_through 24 = .ok (.ireturn, 1) := by decide +kernel
theorem dX3_through_25 : decode cX3_through 25 = .ok (.aload_n 0, 1) := by decide +kernel
theorem dX3_through_26 : decode cX3_through 26 = .ok (.getfield 12, 3) := by decide +kernel
theorem dX3_through_29 : decode cX3_through 29 = .ok (.iload_n 1, 1) := by decide +kernel
theorem dX3_through_30 : decode cX3_through 30 = .ok (.iload_n 2, 1) := by decide +kernel
theorem dX3_through_31 : decode cX3_through 31 = .ok (.invokevirtual 78, 3) := by decide +kernel
theorem dX3_through_34 : decode cX3_through 34 = .ok (.ireturn, 1) := by decide +kernel
theorem dX3_cost_0 : decode cX3_cost 0 = .ok (.aload_n 0, 1) := by decide +kernel
theorem dX3_cost_1 : decode cX3_cost 1 = .ok (.getfield 12, 3) := by decide +kernel
theorem dX3_cost_4 : decode cX3_cost 4 = .ok (.iload_n 1, 1) := by decide +kernel
theorem dX3_cost_5 : decode cX3_cost 5 = .ok (.invokevirtual 72, 3) := by decide +kernel
theorem dX3_cost_8 : decode cX3_cost 8 = .ok (.ifCond .eq 14, 3) := by decide +kernel
theorem dX3_cost_11 : decode cX3_cost 11 = .ok (.aload_n 0, 1) := by decide +kernel
theorem dX3_cost_12 : decode cX3_cost 12 = .ok (.getfield 12, 3) := by decide +kernel
theorem dX3_cost_15 : decode cX3_cost 15 = .ok (.iload_n 1, 1) := by decide +kernel
theorem dX3_cost_16 : decode cX3_cost 16 = .ok (.invokevirtual 82, 3) := by decide +kernel
theorem dX3_cost_19 : decode cX3_cost 19 = .ok (.goto 5, 3) := by decide +kernel
theorem dX3_cost_22 : decode cX3_cost 22 = .ok (.bipush (-2), 2) := by decide +kernel
theorem dX3_cost_24 : decode cX3_cost 24 = .ok (.ireturn, 1) := by decide +kernel
theorem dX3_economize_0 : decode cX3_economize 0 = .ok (.aload_n 0, 1) := by decide +kernel
theorem dX3_economize_1 : decode cX3_economize 1 = .ok (.getfield 19, 3) := by decide +kernel
theorem dX3_economize_4 : decode cX3_economize 4 = .ok (.aload_n 0, 1) := by decide +kernel
theorem dX3_economize_5 : decode cX3_economize 5 = .ok (.getfield 12, 3) := by decide +kernel
theorem dX3_economize_8 : decode cX3_economize 8 = .ok (.invokevirtual 34, 3) := by decide +kernel
theorem dX3_economize_11 : decode cX3_economize 11 = .ok (.aload_n 0, 1) := by decide +kernel
theorem dX3_economize_12 : decode cX3_economize 12 = .ok (.getfield 12, 3) := by decide +kernel
theorem dX3_economize_15 : decode cX3_economize 15 = .ok (.invokevirtual 85, 3) := by decide +kernel
theorem dX3_economize_18 : decode cX3_economize 18 = .ok (.ireturn, 1) := by decide +kernel
theorem dX3_picked_0 : decode cX3_picked 0 = .ok (.iload_n 1, 1) := by decide +kernel
theorem dX3_picked_1 : decode cX3_picked 1 = .ok (.ifCond .lt 9, 3) := by decide +kernel
theorem dX3_picked_4 : decode cX3_picked 4 = .ok (.iload_n 1, 1) := by decide +kernel
theorem dX3_picked_5 : decode cX3_picked 5 = .ok (.bipush 16, 2) := by decide +kernel
theorem dX3_picked_7 : decode cX3_picked 7 = .ok (.if_icmp .lt 8, 3) := by decide +kernel
theorem dX3_picked_10 : decode cX3_picked 10 = .ok (.bipush (-3), 2) := by decide +kernel
theorem dX3_picked_12 : decode cX3_picked 12 = .ok (.goto 11, 3) := by decide +kernel
theorem dX3_picked_15 : decode cX3_picked 15 = .ok (.aload_n 0, 1) := by decide +kernel
theorem dX3_picked_16 : decode cX3_picked 16 = .ok (.getfield 12, 3) := by decide +kernel
theorem dX3_picked_19 : decode cX3_picked 19 = .ok (.iload_n 1, 1) := by decide +kernel
theorem dX3_picked_20 : decode cX3_picked 20 = .ok (.invokevirtual 88, 3) := by decide +kernel
theorem dX3_picked_23 : decode cX3_picked 23 = .ok (.ireturn, 1) := by decide +kernel
theorem dX3_read_0 : decode cX3_read 0 = .ok (.aload_n 0, 1) := by decide +kernel
theorem dX3_read_1 : decode cX3_read 1 = .ok (.getfield 12, 3) := by decide +kernel
theorem dX3_read_4 : decode cX3_read 4 = .ok (.iload_n 1, 1) := by decide +kernel
theorem dX3_read_5 : decode cX3_read 5 = .ok (.invokevirtual 60, 3) := by decide +kernel
theorem dX3_read_8 : decode cX3_read 8 = .ok (.ifCond .eq 14, 3) := by decide +kernel
theorem dX3_read_11 : decode cX3_read 11 = .ok (.aload_n 0, 1) := by decide +kernel
theorem dX3_read_12 : decode cX3_read 12 = .ok (.getfield 12, 3) := by decide +kernel
theorem dX3_read_15 : decode cX3_read 15 = .ok (.iload_n 1, 1) := by decide +kernel
theorem dX3_read_16 : decode cX3_read 16 = .ok (.invokevirtual 91, 3) := by decide +kernel
theorem dX3_read_19 : decode cX3_read 19 = .ok (.goto 5, 3) := by decide +kernel
theorem dX3_read_22 : decode cX3_read 22 = .ok (.bipush (-2), 2) := by decide +kernel
theorem dX3_read_24 : decode cX3_read 24 = .ok (.ireturn, 1) := by decide +kernel
theorem dX3_readRaw_0 : decode cX3_readRaw 0 = .ok (.aload_n 0, 1) := by decide +kernel
theorem dX3_readRaw_1 : decode cX3_readRaw 1 = .ok (.getfield 12, 3) := by decide +kernel
theorem dX3_readRaw_4 : decode cX3_readRaw 4 = .ok (.iload_n 1, 1) := by decide +kernel
theorem dX3_readRaw_5 : decode cX3_readRaw 5 = .ok (.invokevirtual 60, 3) := by decide +kernel
theorem dX3_readRaw_8 : decode cX3_readRaw 8 = .ok (.ifCond .eq 14, 3) := by decide +kernel
theorem dX3_readRaw_11 : decode cX3_readRaw 11 = .ok (.aload_n 0, 1) := by decide +kernel
theorem dX3_readRaw_12 : decode cX3_readRaw 12 = .ok (.getfield 12, 3) := by decide +kernel
theorem dX3_readRaw_15 : decode cX3_readRaw 15 = .ok (.iload_n 1, 1) := by decide +kernel
theorem dX3_readRaw_16 : decode cX3_readRaw 16 = .ok (.invokevirtual 94, 3) := by decide +kernel
theorem dX3_readRaw_19 : decode cX3_readRaw 19 = .ok (.goto 5, 3) := by decide +kernel
theorem dX3_readRaw_22 : decode cX3_readRaw 22 = .ok (.bipush (-2), 2) := by decide +kernel
theorem dX3_readRaw_24 : decode cX3_readRaw 24 = .ok (.ireturn, 1) := by decide +kernel
theorem dX3_parity_0 : decode cX3_parity 0 = .ok (.aload_n 0, 1) := by decide +kernel
theorem dX3_parity_1 : decode cX3_parity 1 = .ok (.getfield 12, 3) := by decide +kernel
theorem dX3_parity_4 : decode cX3_parity 4 = .ok (.iload_n 1, 1) := by decide +kernel
theorem dX3_parity_5 : decode cX3_parity 5 = .ok (.invokevirtual 60, 3) := by decide +kernel
theorem dX3_parity_8 : decode cX3_parity 8 = .ok (.ifCond .ne 6, 3) := by decide +kernel
theorem dX3_parity_11 : decode cX3_parity 11 = .ok (.bipush (-2), 2) := by decide +kernel
theorem dX3_parity_13 : decode cX3_parity 13 = .ok (.ireturn, 1) := by decide +kernel
theorem dX3_parity_14 : decode cX3_parity 14 = .ok (.aload_n 0, 1) := by decide +kernel
theorem dX3_parity_15 : decode cX3_parity 15 = .ok (.getfield 12, 3) := by decide +kernel
theorem dX3_parity_18 : decode cX3_parity 18 = .ok (.iload_n 1, 1) := by decide +kernel
theorem dX3_parity_19 : decode cX3_parity 19 = .ok (.invokevirtual 97, 3) := by decide +kernel
theorem dX3_parity_22 : decode cX3_parity 22 = .ok (.ifCond .eq 7, 3) := by decide +kernel
theorem dX3_parity_25 : decode cX3_parity 25 = .ok (.iconst 1, 1) := by decide +kernel
theorem dX3_parity_26 : decode cX3_parity 26 = .ok (.goto 4, 3) := by decide +kernel
theorem dX3_parity_29 : decode cX3_parity 29 = .ok (.iconst 0, 1) := by decide +kernel
theorem dX3_parity_30 : decode cX3_parity 30 = .ok (.ireturn, 1) := by decide +kernel
theorem dX3_wrong_0 : decode cX3_wrong 0 = .ok (.iload_n 1, 1) := by decide +kernel
theorem dX3_wrong_1 : decode cX3_wrong 1 = .ok (.ifCond .lt 8, 3) := by decide +kernel
theorem dX3_wrong_4 : decode cX3_wrong 4 = .ok (.iload_n 1, 1) := by decide +kernel
theorem dX3_wrong_5 : decode cX3_wrong 5 = .ok (.iconst 4, 1) := by decide +kernel
theorem dX3_wrong_6 : decode cX3_wrong 6 = .ok (.if_icmp .lt 8, 3) := by decide +kernel
theorem dX3_wrong_9 : decode cX3_wrong 9 = .ok (.bipush (-3), 2) := by decide +kernel
theorem dX3_wrong_11 : decode cX3_wrong 11 = .ok (.goto 11, 3) := by decide +kernel
theorem dX3_wrong_14 : decode cX3_wrong 14 = .ok (.aload_n 0, 1) := by decide +kernel
theorem dX3_wrong_15 : decode cX3_wrong 15 = .ok (.getfield 12, 3) := by decide +kernel
theorem dX3_wrong_18 : decode cX3_wrong 18 = .ok (.iload_n 1, 1) := by decide +kernel
theorem dX3_wrong_19 : decode cX3_wrong 19 = .ok (.invokevirtual 100, 3) := by decide +kernel
theorem dX3_wrong_22 : decode cX3_wrong 22 = .ok (.ireturn, 1) := by decide +kernel
theorem dX3_spoil_0 : decode cX3_spoil 0 = .ok (.aload_n 0, 1) := by decide +kernel
theorem dX3_spoil_1 : decode cX3_spoil 1 = .ok (.getfield 12, 3) := by decide +kernel
theorem dX3_spoil_4 : decode cX3_spoil 4 = .ok (.iload_n 1, 1) := by decide +kernel
theorem dX3_spoil_5 : decode cX3_spoil 5 = .ok (.invokevirtual 72, 3) := by decide +kernel
theorem dX3_spoil_8 : decode cX3_spoil 8 = .ok (.ifCond .eq 14, 3) := by decide +kernel
theorem dX3_spoil_11 : decode cX3_spoil 11 = .ok (.aload_n 0, 1) := by decide +kernel
theorem dX3_spoil_12 : decode cX3_spoil 12 = .ok (.getfield 12, 3) := by decide +kernel
theorem dX3_spoil_15 : decode cX3_spoil 15 = .ok (.iload_n 2, 1) := by decide +kernel
theorem dX3_spoil_16 : decode cX3_spoil 16 = .ok (.invokevirtual 46, 3) := by decide +kernel
theorem dX3_spoil_19 : decode cX3_spoil 19 = .ok (.ifCond .ne 6, 3) := by decide +kernel
theorem dX3_spoil_22 : decode cX3_spoil 22 = .ok (.bipush (-2), 2) := by decide +kernel
theorem dX3_spoil_24 : decode cX3_spoil 24 = .ok (.ireturn, 1) := by decide +kernel
theorem dX3_spoil_25 : decode cX3_spoil 25 = .ok (.aload_n 0, 1) := by decide +kernel
theorem dX3_spoil_26 : decode cX3_spoil 26 = .ok (.getfield 19, 3) := by decide +kernel
theorem dX3_spoil_29 : decode cX3_spoil 29 = .ok (.aload_n 0, 1) := by decide +kernel
theorem dX3_spoil_30 : decode cX3_spoil 30 = .ok (.getfield 12, 3) := by decide +kernel
theorem dX3_spoil_33 : decode cX3_spoil 33 = .ok (.invokevirtual 34, 3) := by decide +kernel
theorem dX3_spoil_36 : decode cX3_spoil 36 = .ok (.aload_n 0, 1) := by decide +kernel
theorem dX3_spoil_37 : decode cX3_spoil 37 = .ok (.getfield 12, 3) := by decide +kernel
theorem dX3_spoil_40 : decode cX3_spoil 40 = .ok (.iload_n 1, 1) := by decide +kernel
theorem dX3_spoil_41 : decode cX3_spoil 41 = .ok (.iload_n 2, 1) := by decide +kernel
theorem dX3_spoil_42 : decode cX3_spoil 42 = .ok (.invokevirtual 103, 3) := by decide +kernel
theorem dX3_spoil_45 : decode cX3_spoil 45 = .ok (.ireturn, 1) := by decide +kernel
theorem dX3_explains_0 : decode cX3_explains 0 = .ok (.iload_n 1, 1) := by decide +kernel
theorem dX3_explains_1 : decode cX3_explains 1 = .ok (.ifCond .ge 8, 3) := by decide +kernel
theorem dX3_explains_4 : decode cX3_explains 4 = .ok (.bipush (-3), 2) := by decide +kernel
theorem dX3_explains_6 : decode cX3_explains 6 = .ok (.goto 11, 3) := by decide +kernel
theorem dX3_explains_9 : decode cX3_explains 9 = .ok (.aload_n 0, 1) := by decide +kernel
theorem dX3_explains_10 : decode cX3_explains 10 = .ok (.getfield 12, 3) := by decide +kernel
theorem dX3_explains_13 : decode cX3_explains 13 = .ok (.iload_n 1, 1) := by decide +kernel
theorem dX3_explains_14 : decode cX3_explains 14 = .ok (.invokevirtual 106, 3) := by decide +kernel
theorem dX3_explains_17 : decode cX3_explains 17 = .ok (.ireturn, 1) := by decide +kernel
theorem dX3_patch_0 : decode cX3_patch 0 = .ok (.aload_n 0, 1) := by decide +kernel
theorem dX3_patch_1 : decode cX3_patch 1 = .ok (.getfield 12, 3) := by decide +kernel
theorem dX3_patch_4 : decode cX3_patch 4 = .ok (.iload_n 1, 1) := by decide +kernel
theorem dX3_patch_5 : decode cX3_patch 5 = .ok (.invokevirtual 60, 3) := by decide +kernel
theorem dX3_patch_8 : decode cX3_patch 8 = .ok (.ifCond .ne 6, 3) := by decide +kernel
theorem dX3_patch_11 : decode cX3_patch 11 = .ok (.bipush (-2), 2) := by decide +kernel
theorem dX3_patch_13 : decode cX3_patch 13 = .ok (.ireturn, 1) := by decide +kernel
theorem dX3_patch_14 : decode cX3_patch 14 = .ok (.aload_n 0, 1) := by decide +kernel
theorem dX3_patch_15 : decode cX3_patch 15 = .ok (.getfield 12, 3) := by decide +kernel
theorem dX3_patch_18 : decode cX3_patch 18 = .ok (.iload_n 2, 1) := by decide +kernel
theorem dX3_patch_19 : decode cX3_patch 19 = .ok (.invokevirtual 63, 3) := by decide +kernel
theorem dX3_patch_22 : decode cX3_patch 22 = .ok (.ifCond .ne 6, 3) := by decide +kernel
theorem dX3_patch_25 : decode cX3_patch 25 = .ok (.bipush (-3), 2) := by decide +kernel
theorem dX3_patch_27 : decode cX3_patch 27 = .ok (.ireturn, 1) := by decide +kernel
theorem dX3_patch_28 : decode cX3_patch 28 = .ok (.aload_n 0, 1) := by decide +kernel
theorem dX3_patch_29 : decode cX3_patch 29 = .ok (.getfield 12, 3) := by decide +kernel
theorem dX3_patch_32 : decode cX3_patch 32 = .ok (.iload_n 1, 1) := by decide +kernel
theorem dX3_patch_33 : decode cX3_patch 33 = .ok (.invokevirtual 109, 3) := by decide +kernel
theorem dX3_patch_36 : decode cX3_patch 36 = .ok (.iconst (-1), 1) := by decide +kernel
theorem dX3_patch_37 : decode cX3_patch 37 = .ok (.if_icmp .ne 17, 3) := by decide +kernel
theorem dX3_patch_40 : decode cX3_patch 40 = .ok (.aload_n 0, 1) := by decide +kernel
theorem dX3_patch_41 : decode cX3_patch 41 = .ok (.getfield 12, 3) := by decide +kernel
theorem dX3_patch_44 : decode cX3_patch 44 = .ok (.invokevirtual 112, 3) := by decide +kernel
theorem dX3_patch_47 : decode cX3_patch 47 = .ok (.iconst 4, 1) := by decide +kernel
theorem dX3_patch_48 : decode cX3_patch 48 = .ok (.if_icmp .lt 6, 3) := by decide +kernel
theorem dX3_patch_51 : decode cX3_patch 51 = .ok (.bipush (-5), 2) := by decide +kernel
theorem dX3_patch_53 : decode cX3_patch 53 = .ok (.ireturn, 1) := by decide +kernel
theorem dX3_patch_54 : decode cX3_patch 54 = .ok (.aload_n 0, 1) := by decide +kernel
theorem dX3_patch_55 : decode cX3_patch 55 = .ok (.getfield 19, 3) := by decide +kernel
theorem dX3_patch_58 : decode cX3_patch 58 = .ok (.aload_n 0, 1) := by decide +kernel
theorem dX3_patch_59 : decode cX3_patch 59 = .ok (.getfield 12, 3) := by decide +kernel
theorem dX3_patch_62 : decode cX3_patch 62 = .ok (.invokevirtual 34, 3) := by decide +kernel
theorem dX3_patch_65 : decode cX3_patch 65 = .ok (.aload_n 0, 1) := by decide +kernel
theorem dX3_patch_66 : decode cX3_patch 66 = .ok (.getfield 12, 3) := by decide +kernel
theorem dX3_patch_69 : decode cX3_patch 69 = .ok (.iload_n 1, 1) := by decide +kernel
theorem dX3_patch_70 : decode cX3_patch 70 = .ok (.iload_n 2, 1) := by decide +kernel
theorem dX3_patch_71 : decode cX3_patch 71 = .ok (.invokevirtual 115, 3) := by decide +kernel
theorem dX3_patch_74 : decode cX3_patch 74 = .ok (.aload_n 0, 1) := by decide +kernel
theorem dX3_patch_75 : decode cX3_patch 75 = .ok (.getfield 12, 3) := by decide +kernel
theorem dX3_patch_78 : decode cX3_patch 78 = .ok (.invokevirtual 112, 3) := by decide +kernel
theorem dX3_patch_81 : decode cX3_patch 81 = .ok (.ireturn, 1) := by decide +kernel
theorem dX3_unpatch_0 : decode cX3_unpatch 0 = .ok (.aload_n 0, 1) := by decide +kernel
theorem dX3_unpatch_1 : decode cX3_unpatch 1 = .ok (.getfield 12, 3) := by decide +kernel
theorem dX3_unpatch_4 : decode cX3_unpatch 4 = .ok (.iload_n 1, 1) := by decide +kernel
theorem dX3_unpatch_5 : decode cX3_unpatch 5 = .ok (.invokevirtual 60, 3) := by decide +kernel
theorem dX3_unpatch_8 : decode cX3_unpatch 8 = .ok (.ifCond .ne 6, 3) := by decide +kernel
theorem dX3_unpatch_11 : decode cX3_unpatch 11 = .ok (.bipush (-2), 2) := by decide +kernel
theorem dX3_unpatch_13 : decode cX3_unpatch 13 = .ok (.ireturn, 1) := by decide +kernel
theorem dX3_unpatch_14 : decode cX3_unpatch 14 = .ok (.aload_n 0, 1) := by decide +kernel
theorem dX3_unpatch_15 : decode cX3_unpatch 15 = .ok (.getfield 12, 3) := by decide +kernel
theorem dX3_unpatch_18 : decode cX3_unpatch 18 = .ok (.iload_n 1, 1) := by decide +kernel
theorem dX3_unpatch_19 : decode cX3_unpatch 19 = .ok (.invokevirtual 109, 3) := by decide +kernel
theorem dX3_unpatch_22 : decode cX3_unpatch 22 = .ok (.iconst (-1), 1) := by decide +kernel
theorem dX3_unpatch_23 : decode cX3_unpatch 23 = .ok (.if_icmp .ne 6, 3) := by decide +kernel
theorem dX3_unpatch_26 : decode cX3_unpatch 26 = .ok (.bipush (-4), 2) := by decide +kernel
theorem dX3_unpatch_28 : decode cX3_unpatch 28 = .ok (.ireturn, 1) := by decide +kernel
theorem dX3_unpatch_29 : decode cX3_unpatch 29 = .ok (.aload_n 0, 1) := by decide +kernel
theorem dX3_unpatch_30 : decode cX3_unpatch 30 = .ok (.getfield 19, 3) := by decide +kernel
theorem dX3_unpatch_33 : decode cX3_unpatch 33 = .ok (.aload_n 0, 1) := by decide +kernel
theorem dX3_unpatch_34 : decode cX3_unpatch 34 = .ok (.getfield 12, 3) := by decide +kernel
theorem dX3_unpatch_37 : decode cX3_unpatch 37 = .ok (.invokevirtual 34, 3) := by decide +kernel
theorem dX3_unpatch_40 : decode cX3_unpatch 40 = .ok (.aload_n 0, 1) := by decide +kernel
theorem dX3_unpatch_41 : decode cX3_unpatch 41 = .ok (.getfield 12, 3) := by decide +kernel
theorem dX3_unpatch_44 : decode cX3_unpatch 44 = .ok (.iload_n 1, 1) := by decide +kernel
theorem dX3_unpatch_45 : decode cX3_unpatch 45 = .ok (.iconst (-1), 1) := by decide +kernel
theorem dX3_unpatch_46 : decode cX3_unpatch 46 = .ok (.invokevirtual 115, 3) := by decide +kernel
theorem dX3_unpatch_49 : decode cX3_unpatch 49 = .ok (.aload_n 0, 1) := by decide +kernel
theorem dX3_unpatch_50 : decode cX3_unpatch 50 = .ok (.getfield 12, 3) := by decide +kernel
theorem dX3_unpatch_53 : decode cX3_unpatch 53 = .ok (.invokevirtual 112, 3) := by decide +kernel
theorem dX3_unpatch_56 : decode cX3_unpatch 56 = .ok (.ireturn, 1) := by decide +kernel
theorem dX3_patchAll_0 : decode cX3_patchAll 0 = .ok (.aload_n 0, 1) := by decide +kernel
theorem dX3_patchAll_1 : decode cX3_patchAll 1 = .ok (.getfield 19, 3) := by decide +kernel
theorem dX3_patchAll_4 : decode cX3_patchAll 4 = .ok (.aload_n 0, 1) := by decide +kernel
theorem dX3_patchAll_5 : decode cX3_patchAll 5 = .ok (.getfield 12, 3) := by decide +kernel
theorem dX3_patchAll_8 : decode cX3_patchAll 8 = .ok (.invokevirtual 34, 3) := by decide +kernel
theorem dX3_patchAll_11 : decode cX3_patchAll 11 = .ok (.aload_n 0, 1) := by decide +kernel
theorem dX3_patchAll_12 : decode cX3_patchAll 12 = .ok (.getfield 12, 3) := by decide +kernel
theorem dX3_patchAll_15 : decode cX3_patchAll 15 = .ok (.invokevirtual 118, 3) := by decide +kernel
theorem dX3_patchAll_18 : decode cX3_patchAll 18 = .ok (.aload_n 0, 1) := by decide +kernel
theorem dX3_patchAll_19 : decode cX3_patchAll 19 = .ok (.getfield 12, 3) := by decide +kernel
theorem dX3_patchAll_22 : decode cX3_patchAll 22 = .ok (.invokevirtual 121, 3) := by decide +kernel
theorem dX3_patchAll_25 : decode cX3_patchAll 25 = .ok (.aload_n 0, 1) := by decide +kernel
theorem dX3_patchAll_26 : decode cX3_patchAll 26 = .ok (.getfield 12, 3) := by decide +kernel
theorem dX3_patchAll_29 : decode cX3_patchAll 29 = .ok (.iconst 0, 1) := by decide +kernel
theorem dX3_patchAll_30 : decode cX3_patchAll 30 = .ok (.invokevirtual 100, 3) := by decide +kernel
theorem dX3_patchAll_33 : decode cX3_patchAll 33 = .ok (.ireturn, 1) := by decide +kernel
theorem dX3_patchOf_0 : decode cX3_patchOf 0 = .ok (.aload_n 0, 1) := by decide +kernel
theorem dX3_patchOf_1 : decode cX3_patchOf 1 = .ok (.getfield 12, 3) := by decide +kernel
theorem dX3_patchOf_4 : decode cX3_patchOf 4 = .ok (.iload_n 1, 1) := by decide +kernel
theorem dX3_patchOf_5 : decode cX3_patchOf 5 = .ok (.invokevirtual 60, 3) := by decide +kernel
theorem dX3_patchOf_8 : decode cX3_patchOf 8 = .ok (.ifCond .eq 14, 3) := by decide +kernel
theorem dX3_patchOf_11 : decode cX3_patchOf 11 = .ok (.aload_n 0, 1) := by decide +kernel
theorem dX3_patchOf_12 : decode cX3_patchOf 12 = .ok (.getfield 12, 3) := by decide +kernel
theorem dX3_patchOf_15 : decode cX3_patchOf 15 = .ok (.iload_n 1, 1) := by decide +kernel
theorem dX3_patchOf_16 : decode cX3_patchOf 16 = .ok (.invokevirtual 109, 3) := by decide +kernel
theorem dX3_patchOf_19 : decode cX3_patchOf 19 = .ok (.goto 5, 3) := by decide +kernel
theorem dX3_patchOf_22 : decode cX3_patchOf 22 = .ok (.bipush (-2), 2) := by decide +kernel
theorem dX3_patchOf_24 : decode cX3_patchOf 24 = .ok (.ireturn, 1) := by decide +kernel
theorem dX3_undo_0 : decode cX3_undo 0 = .ok (.aload_n 0, 1) := by decide +kernel
theorem dX3_undo_1 : decode cX3_undo 1 = .ok (.getfield 19, 3) := by decide +kernel
theorem dX3_undo_4 : decode cX3_undo 4 = .ok (.invokevirtual 124, 3) := by decide +kernel
theorem dX3_undo_7 : decode cX3_undo 7 = .ok (.ifCond .eq 8, 3) := by decide +kernel
theorem dX3_undo_10 : decode cX3_undo 10 = .ok (.bipush (-4), 2) := by decide +kernel
theorem dX3_undo_12 : decode cX3_undo 12 = .ok (.goto 14, 3) := by decide +kernel
theorem dX3_undo_15 : decode cX3_undo 15 = .ok (.aload_n 0, 1) := by decide +kernel
theorem dX3_undo_16 : decode cX3_undo 16 = .ok (.getfield 19, 3) := by decide +kernel
theorem dX3_undo_19 : decode cX3_undo 19 = .ok (.aload_n 0, 1) := by decide +kernel
theorem dX3_undo_20 : decode cX3_undo 20 = .ok (.getfield 12, 3) := by decide +kernel
theorem dX3_undo_23 : decode cX3_undo 23 = .ok (.invokevirtual 128, 3) := by decide +kernel
theorem dX3_undo_26 : decode cX3_undo 26 = .ok (.ireturn, 1) := by decide +kernel
theorem dX3_load_0 : decode cX3_load 0 = .ok (.aload_n 0, 1) := by decide +kernel
theorem dX3_load_1 : decode cX3_load 1 = .ok (.getfield 26, 3) := by decide +kernel
theorem dX3_load_4 : decode cX3_load 4 = .ok (.aload_n 0, 1) := by decide +kernel
theorem dX3_load_5 : decode cX3_load 5 = .ok (.getfield 12, 3) := by decide +kernel
theorem dX3_load_8 : decode cX3_load 8 = .ok (.invokevirtual 30, 3) := by decide +kernel
theorem dX3_load_11 : decode cX3_load 11 = .ok (.aload_n 0, 1) := by decide +kernel
theorem dX3_load_12 : decode cX3_load 12 = .ok (.getfield 12, 3) := by decide +kernel
theorem dX3_load_15 : decode cX3_load 15 = .ok (.invokevirtual 141, 3) := by decide +kernel
theorem dX3_load_18 : decode cX3_load 18 = .ok (.invokevirtual 144, 3) := by decide +kernel
theorem dX3_load_21 : decode cX3_load 21 = .ok (.iconst (-1), 1) := by decide +kernel
theorem dX3_load_22 : decode cX3_load 22 = .ok (.if_icmp .eq 6, 3) := by decide +kernel
theorem dX3_load_25 : decode cX3_load 25 = .ok (.bipush (-4), 2) := by decide +kernel
theorem dX3_load_27 : decode cX3_load 27 = .ok (.ireturn, 1) := by decide +kernel
theorem dX3_load_28 : decode cX3_load 28 = .ok (.aload_n 0, 1) := by decide +kernel
theorem dX3_load_29 : decode cX3_load 29 = .ok (.getfield 19, 3) := by decide +kernel
theorem dX3_load_32 : decode cX3_load 32 = .ok (.aload_n 0, 1) := by decide +kernel
theorem dX3_load_33 : decode cX3_load 33 = .ok (.getfield 12, 3) := by decide +kernel
theorem dX3_load_36 : decode cX3_load 36 = .ok (.invokevirtual 34, 3) := by decide +kernel
theorem dX3_load_39 : decode cX3_load 39 = .ok (.aload_n 0, 1) := by decide +kernel
theorem dX3_load_40 : decode cX3_load 40 = .ok (.getfield 26, 3) := by decide +kernel
theorem dX3_load_43 : decode cX3_load 43 = .ok (.invokevirtual 147, 3) := by decide +kernel
theorem dX3_load_46 : decode cX3_load 46 = .ok (.istore_n 1, 1) := by decide +kernel
theorem dX3_load_47 : decode cX3_load 47 = .ok (.iconst 0, 1) := by decide +kernel
theorem dX3_load_48 : decode cX3_load 48 = .ok (.istore_n 2, 1) := by decide +kernel
theorem dX3_load_49 : decode cX3_load 49 = .ok (.iload_n 2, 1) := by decide +kernel
theorem dX3_load_50 : decode cX3_load 50 = .ok (.iload_n 1, 1) := by decide +kernel
theorem dX3_load_51 : decode cX3_load 51 = .ok (.if_icmp .ge 25, 3) := by decide +kernel
theorem dX3_load_54 : decode cX3_load 54 = .ok (.aload_n 0, 1) := by decide +kernel
theorem dX3_load_55 : decode cX3_load 55 = .ok (.getfield 12, 3) := by decide +kernel
theorem dX3_load_58 : decode cX3_load 58 = .ok (.iload_n 2, 1) := by decide +kernel
theorem dX3_load_59 : decode cX3_load 59 = .ok (.aload_n 0, 1) := by decide +kernel
theorem dX3_load_60 : decode cX3_load 60 = .ok (.getfield 26, 3) := by decide +kernel
theorem dX3_load_63 : decode cX3_load 63 = .ok (.iload_n 2, 1) := by decide +kernel
theorem dX3_load_64 : decode cX3_load 64 = .ok (.invokevirtual 150, 3) := by decide +kernel
theorem dX3_load_67 : decode cX3_load 67 = .ok (.invokevirtual 69, 3) := by decide +kernel
theorem dX3_load_70 : decode cX3_load 70 = .ok (.iinc 2 1, 3) := by decide +kernel
theorem dX3_load_73 : decode cX3_load 73 = .ok (.goto (-24), 3) := by decide +kernel
theorem dX3_load_76 : decode cX3_load 76 = .ok (.iload_n 1, 1) := by decide +kernel
theorem dX3_load_77 : decode cX3_load 77 = .ok (.ireturn, 1) := by decide +kernel
theorem dX3_digest_0 : decode cX3_digest 0 = .ok (.aload_n 0, 1) := by decide +kernel
theorem dX3_digest_1 : decode cX3_digest 1 = .ok (.getfield 12, 3) := by decide +kernel
theorem dX3_digest_4 : decode cX3_digest 4 = .ok (.invokevirtual 153, 3) := by decide +kernel
theorem dX3_digest_7 : decode cX3_digest 7 = .ok (.lreturn, 1) := by decide +kernel
theorem dJ6_bitCount_0f7a4_0 : decode cJ6_bitCount_0f7a4 0 = .ok (.iload_n 0, 1) := by decide +kernel
theorem dJ6_bitCount_0f7a4_1 : decode cJ6_bitCount_0f7a4 1 = .ok (.iload_n 0, 1) := by decide +kernel
theorem dJ6_bitCount_0f7a4_2 : decode cJ6_bitCount_0f7a4 2 = .ok (.iconst 1, 1) := by decide +kernel
theorem dJ6_bitCount_0f7a4_3 : decode cJ6_bitCount_0f7a4 3 = .ok (.iushr, 1) := by decide +kernel
theorem dJ6_bitCount_0f7a4_4 : decode cJ6_bitCount_0f7a4 4 = .ok (.ldc_w 265, 3) := by decide +kernel
theorem dJ6_bitCount_0f7a4_7 : decode cJ6_bitCount_0f7a4 7 = .ok (.iand, 1) := by decide +kernel
theorem dJ6_bitCount_0f7a4_8 : decode cJ6_bitCount_0f7a4 8 = .ok (.isub, 1) := by decide +kernel
theorem dJ6_bitCount_0f7a4_9 : decode cJ6_bitCount_0f7a4 9 = .ok (.istore_n 0, 1) := by decide +kernel
theorem dJ6_bitCount_0f7a4_10 : decode cJ6_bitCount_0f7a4 10 = .ok (.iload_n 0, 1) := by decide +kernel
theorem dJ6_bitCount_0f7a4_11 : decode cJ6_bitCount_0f7a4 11 = .ok (.ldc_w 266, 3) := by decide +kernel
theorem dJ6_bitCount_0f7a4_14 : decode cJ6_bitCount_0f7a4 14 = .ok (.iand, 1) := by decide +kernel
