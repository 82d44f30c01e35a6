theorem dX4_patchAll_131 : decode cX4_patchAll 131 = .ok (.ireturn, 1) := by decide +kernel
theorem dX4_patchOf_0 : decode cX4_patchOf 0 = .ok (.aload_n 0, 1) := by decide +kernel
theorem dX4_patchOf_1 : decode cX4_patchOf 1 = .ok (.iload_n 1, 1) := by decide +kernel
theorem dX4_patchOf_2 : decode cX4_patchOf 2 = .ok (.invokevirtual 75, 3) := by decide +kernel
theorem dX4_patchOf_5 : decode cX4_patchOf 5 = .ok (.ifCond .eq 16, 3) := by decide +kernel
theorem dX4_patchOf_8 : decode cX4_patchOf 8 = .ok (.aload_n 0, 1) := by decide +kernel
theorem dX4_patchOf_9 : decode cX4_patchOf 9 = .ok (.getfield 7, 3) := by decide +kernel
theorem dX4_patchOf_12 : decode cX4_patchOf 12 = .ok (.sipush 141, 3) := by decide +kernel
theorem dX4_patchOf_15 : decode cX4_patchOf 15 = .ok (.iload_n 1, 1) := by decide +kernel
theorem dX4_patchOf_16 : decode cX4_patchOf 16 = .ok (.iadd, 1) := by decide +kernel
theorem dX4_patchOf_17 : decode cX4_patchOf 17 = .ok (.iaload, 1) := by decide +kernel
theorem dX4_patchOf_18 : decode cX4_patchOf 18 = .ok (.goto 5, 3) := by decide +kernel
theorem dX4_patchOf_21 : decode cX4_patchOf 21 = .ok (.bipush (-2), 2) := by decide +kernel
theorem dX4_patchOf_23 : decode cX4_patchOf 23 = .ok (.ireturn, 1) := by decide +kernel
theorem dX4_undo_0 : decode cX4_undo 0 = .ok (.aload_n 0, 1) := by decide +kernel
theorem dX4_undo_1 : decode cX4_undo 1 = .ok (.getfield 26, 3) := by decide +kernel
theorem dX4_undo_4 : decode cX4_undo 4 = .ok (.ifCond .ne 6, 3) := by decide +kernel
theorem dX4_undo_7 : decode cX4_undo 7 = .ok (.bipush (-4), 2) := by decide +kernel
theorem dX4_undo_9 : decode cX4_undo 9 = .ok (.ireturn, 1) := by decide +kernel
theorem dX4_undo_10 : decode cX4_undo 10 = .ok (.aload_n 0, 1) := by decide +kernel
theorem dX4_undo_11 : decode cX4_undo 11 = .ok (.aload_n 0, 1) := by decide +kernel
theorem dX4_undo_12 : decode cX4_undo 12 = .ok (.getfield 26, 3) := by decide +kernel
theorem dX4_undo_15 : decode cX4_undo 15 = .ok (.iconst 0, 1) := by decide +kernel
theorem dX4_undo_16 : decode cX4_undo 16 = .ok (.invokevirtual 30, 3) := by decide +kernel
theorem dX4_undo_19 : decode cX4_undo 19 = .ok (.aload_n 0, 1) := by decide +kernel
theorem dX4_undo_20 : decode cX4_undo 20 = .ok (.dup, 1) := by decide +kernel
theorem dX4_undo_21 : decode cX4_undo 21 = .ok (.getfield 26, 3) := by decide +kernel
theorem dX4_undo_24 : decode cX4_undo 24 = .ok (.iconst 1, 1) := by decide +kernel
theorem dX4_undo_25 : decode cX4_undo 25 = .ok (.isub, 1) := by decide +kernel
theorem dX4_undo_26 : decode cX4_undo 26 = .ok (.putfield 26, 3) := by decide +kernel
theorem dX4_undo_29 : decode cX4_undo 29 = .ok (.aload_n 0, 1) := by decide +kernel
theorem dX4_undo_30 : decode cX4_undo 30 = .ok (.getfield 26, 3) := by decide +kernel
theorem dX4_undo_33 : decode cX4_undo 33 = .ok (.ireturn, 1) := by decide +kernel
theorem dX4_type_0 : decode cX4_type 0 = .ok (.iload_n 1, 1) := by decide +kernel
theorem dX4_type_1 : decode cX4_type 1 = .ok (.iconst 0, 1) := by decide +kernel
theorem dX4_type_2 : decode cX4_type 2 = .ok (.sipush 255, 3) := by decide +kernel
theorem dX4_type_5 : decode cX4_type 5 = .ok (.invokestatic 34, 3) := by decide +kernel
theorem dX4_type_8 : decode cX4_type 8 = .ok (.ifCond .ne 6, 3) := by decide +kernel
theorem dX4_type_11 : decode cX4_type 11 = .ok (.bipush (-3), 2) := by decide +kernel
theorem dX4_type_13 : decode cX4_type 13 = .ok (.ireturn, 1) := by decide +kernel
theorem dX4_type_14 : decode cX4_type 14 = .ok (.aload_n 0, 1) := by decide +kernel
theorem dX4_type_15 : decode cX4_type 15 = .ok (.getfield 109, 3) := by decide +kernel
theorem dX4_type_18 : decode cX4_type 18 = .ok (.bipush 100, 2) := by decide +kernel
theorem dX4_type_20 : decode cX4_type 20 = .ok (.if_icmp .ne 6, 3) := by decide +kernel
theorem dX4_type_23 : decode cX4_type 23 = .ok (.bipush (-5), 2) := by decide +kernel
theorem dX4_type_25 : decode cX4_type 25 = .ok (.ireturn, 1) := by decide +kernel
theorem dX4_type_26 : decode cX4_type 26 = .ok (.aload_n 0, 1) := by decide +kernel
theorem dX4_type_27 : decode cX4_type 27 = .ok (.getfield 19, 3) := by decide +kernel
theorem dX4_type_30 : decode cX4_type 30 = .ok (.aload_n 0, 1) := by decide +kernel
theorem dX4_type_31 : decode cX4_type 31 = .ok (.getfield 109, 3) := by decide +kernel
theorem dX4_type_34 : decode cX4_type 34 = .ok (.iload_n 1, 1) := by decide +kernel
theorem dX4_type_35 : decode cX4_type 35 = .ok (.iastore, 1) := by decide +kernel
theorem dX4_type_36 : decode cX4_type 36 = .ok (.aload_n 0, 1) := by decide +kernel
theorem dX4_type_37 : decode cX4_type 37 = .ok (.dup, 1) := by decide +kernel
theorem dX4_type_38 : decode cX4_type 38 = .ok (.getfield 109, 3) := by decide +kernel
theorem dX4_type_41 : decode cX4_type 41 = .ok (.iconst 1, 1) := by decide +kernel
theorem dX4_type_42 : decode cX4_type 42 = .ok (.iadd, 1) := by decide +kernel
theorem dX4_type_43 : decode cX4_type 43 = .ok (.putfield 109, 3) := by decide +kernel
theorem dX4_type_46 : decode cX4_type 46 = .ok (.aload_n 0, 1) := by decide +kernel
theorem dX4_type_47 : decode cX4_type 47 = .ok (.getfield 109, 3) := by decide +kernel
theorem dX4_type_50 : decode cX4_type 50 = .ok (.ireturn, 1) := by decide +kernel
theorem dX4_clearText_0 : decode cX4_clearText 0 = .ok (.aload_n 0, 1) := by decide +kernel
theorem dX4_clearText_1 : decode cX4_clearText 1 = .ok (.getfield 109, 3) := by decide +kernel
theorem dX4_clearText_4 : decode cX4_clearText 4 = .ok (.istore_n 1, 1) := by decide +kernel
theorem dX4_clearText_5 : decode cX4_clearText 5 = .ok (.aload_n 0, 1) := by decide +kernel
theorem dX4_clearText_6 : decode cX4_clearText 6 = .ok (.iconst 0, 1) := by decide +kernel
theorem dX4_clearText_7 : decode cX4_clearText 7 = .ok (.putfield 109, 3) := by decide +kernel
theorem dX4_clearText_10 : decode cX4_clearText 10 = .ok (.iload_n 1, 1) := by decide +kernel
theorem dX4_clearText_11 : decode cX4_clearText 11 = .ok (.ireturn, 1) := by decide +kernel
theorem dX4_here_0 : decode cX4_here 0 = .ok (.aload_n 0, 1) := by decide +kernel
theorem dX4_here_1 : decode cX4_here 1 = .ok (.getfield 112, 3) := by decide +kernel
theorem dX4_here_4 : decode cX4_here 4 = .ok (.aload_n 0, 1) := by decide +kernel
theorem dX4_here_5 : decode cX4_here 5 = .ok (.getfield 109, 3) := by decide +kernel
theorem dX4_here_8 : decode cX4_here 8 = .ok (.if_icmp .ge 30, 3) := by decide +kernel
theorem dX4_here_11 : decode cX4_here 11 = .ok (.aload_n 0, 1) := by decide +kernel
theorem dX4_here_12 : decode cX4_here 12 = .ok (.getfield 19, 3) := by decide +kernel
theorem dX4_here_15 : decode cX4_here 15 = .ok (.aload_n 0, 1) := by decide +kernel
theorem dX4_here_16 : decode cX4_here 16 = .ok (.getfield 112, 3) := by decide +kernel
theorem dX4_here_19 : decode cX4_here 19 = .ok (.iaload, 1) := by decide +kernel
theorem dX4_here_20 : decode cX4_here 20 = .ok (.bipush 32, 2) := by decide +kernel
theorem dX4_here_22 : decode cX4_here 22 = .ok (.if_icmp .ne 16, 3) := by decide +kernel
theorem dX4_here_25 : decode cX4_here 25 = .ok (.aload_n 0, 1) := by decide +kernel
theorem dX4_here_26 : decode cX4_here 26 = .ok (.dup, 1) := by decide +kernel
theorem dX4_here_27 : decode cX4_here 27 = .ok (.getfield 112, 3) := by decide +kernel
theorem dX4_here_30 : decode cX4_here 30 = .ok (.iconst 1, 1) := by decide +kernel
theorem dX4_here_31 : decode cX4_here 31 = .ok (.iadd, 1) := by decide +kernel
theorem dX4_here_32 : decode cX4_here 32 = .ok (.putfield 112, 3) := by decide +kernel
theorem dX4_here_35 : decode cX4_here 35 = .ok (.goto (-35), 3) := by decide +kernel
theorem dX4_here_38 : decode cX4_here 38 = .ok (.aload_n 0, 1) := by decide +kernel
theorem dX4_here_39 : decode cX4_here 39 = .ok (.getfield 112, 3) := by decide +kernel
theorem dX4_here_42 : decode cX4_here 42 = .ok (.aload_n 0, 1) := by decide +kernel
theorem dX4_here_43 : decode cX4_here 43 = .ok (.getfield 109, 3) := by decide +kernel
theorem dX4_here_46 : decode cX4_here 46 = .ok (.if_icmp .ge 15, 3) := by decide +kernel
theorem dX4_here_49 : decode cX4_here 49 = .ok (.aload_n 0, 1) := by decide +kernel
theorem dX4_here_50 : decode cX4_here 50 = .ok (.getfield 19, 3) := by decide +kernel
theorem dX4_here_53 : decode cX4_here 53 = .ok (.aload_n 0, 1) := by decide +kernel
theorem dX4_here_54 : decode cX4_here 54 = .ok (.getfield 112, 3) := by decide +kernel
theorem dX4_here_57 : decode cX4_here 57 = .ok (.iaload, 1) := by decide +kernel
theorem dX4_here_58 : decode cX4_here 58 = .ok (.goto 4, 3) := by decide +kernel
theorem dX4_here_61 : decode cX4_here 61 = .ok (.iconst (-1), 1) := by decide +kernel
theorem dX4_here_62 : decode cX4_here 62 = .ok (.ireturn, 1) := by decide +kernel
theorem dX4_readsWord_0 : decode cX4_readsWord 0 = .ok (.aload_n 0, 1) := by decide +kernel
theorem dX4_readsWord_1 : decode cX4_readsWord 1 = .ok (.invokevirtual 115, 3) := by decide +kernel
theorem dX4_readsWord_4 : decode cX4_readsWord 4 = .ok (.istore_n 2, 1) := by decide +kernel
theorem dX4_readsWord_5 : decode cX4_readsWord 5 = .ok (.aload_n 0, 1) := by decide +kernel
theorem dX4_readsWord_6 : decode cX4_readsWord 6 = .ok (.getfield 112, 3) := by decide +kernel
theorem dX4_readsWord_9 : decode cX4_readsWord 9 = .ok (.istore_n 3, 1) := by decide +kernel
theorem dX4_readsWord_10 : decode cX4_readsWord 10 = .ok (.iconst 0, 1) := by decide +kernel
theorem dX4_readsWord_11 : decode cX4_readsWord 11 = .ok (.istore 4, 2) := by decide +kernel
theorem dX4_readsWord_13 : decode cX4_readsWord 13 = .ok (.iload_n 2, 1) := by decide +kernel
theorem dX4_readsWord_14 : decode cX4_readsWord 14 = .ok (.ifCond .lt 65, 3) := by decide +kernel
theorem dX4_readsWord_17 : decode cX4_readsWord 17 = .ok (.iload_n 3, 1) := by decide +kernel
theorem dX4_readsWord_18 : decode cX4_readsWord 18 = .ok (.aload_n 0, 1) := by decide +kernel
theorem dX4_readsWord_19 : decode cX4_readsWord 19 = .ok (.getfield 109, 3) := by decide +kernel
theorem dX4_readsWord_22 : decode cX4_readsWord 22 = .ok (.if_icmp .ge 57, 3) := by decide +kernel
theorem dX4_readsWord_25 : decode cX4_readsWord 25 = .ok (.aload_n 0, 1) := by decide +kernel
theorem dX4_readsWord_26 : decode cX4_readsWord 26 = .ok (.getfield 19, 3) := by decide +kernel
theorem dX4_readsWord_29 : decode cX4_readsWord 29 = .ok (.iload_n 3, 1) := by decide +kernel
theorem dX4_readsWord_30 : decode cX4_readsWord 30 = .ok (.iaload, 1) := by decide +kernel
theorem dX4_readsWord_31 : decode cX4_readsWord 31 = .ok (.bipush 48, 2) := by decide +kernel
theorem dX4_readsWord_33 : decode cX4_readsWord 33 = .ok (.bipush 55, 2) := by decide +kernel
theorem dX4_readsWord_35 : decode cX4_readsWord 35 = .ok (.invokestatic 34, 3) := by decide +kernel
theorem dX4_readsWord_38 : decode cX4_readsWord 38 = .ok (.ifCond .eq 41, 3) := by decide +kernel
theorem dX4_readsWord_41 : decode cX4_readsWord 41 = .ok (.iload_n 3, 1) := by decide +kernel
theorem dX4_readsWord_42 : decode cX4_readsWord 42 = .ok (.aload_n 0, 1) := by decide +kernel
theorem dX4_readsWord_43 : decode cX4_readsWord 43 = .ok (.getfield 112, 3) := by decide +kernel
theorem dX4_readsWord_46 : decode cX4_readsWord 46 = .ok (.isub, 1) := by decide +kernel
theorem dX4_readsWord_47 : decode cX4_readsWord 47 = .ok (.iconst 5, 1) := by decide +kernel
theorem dX4_readsWord_48 : decode cX4_readsWord 48 = .ok (.if_icmp .ge 21, 3) := by decide +kernel
theorem dX4_readsWord_51 : decode cX4_readsWord 51 = .ok (.bipush 8, 2) := by decide +kernel
theorem dX4_readsWord_53 : decode cX4_readsWord 53 = .ok (.iload 4, 2) := by decide +kernel
theorem dX4_readsWord_55 : decode cX4_readsWord 55 = .ok (.imul, 1) := by decide +kernel
theorem dX4_readsWord_56 : decode cX4_readsWord 56 = .ok (.aload_n 0, 1) := by decide +kernel
theorem dX4_readsWord_57 : decode cX4_readsWord 57 = .ok (.getfield 19, 3) := by decide +kernel
theorem dX4_readsWord_60 : decode cX4_readsWord 60 = .ok (.iload_n 3, 1) := by decide +kernel
theorem dX4_readsWord_61 : decode cX4_readsWord 61 = .ok (.iaload, 1) := by decide +kernel
theorem dX4_readsWord_62 : decode cX4_readsWord 62 = .ok (.iadd, 1) := by decide +kernel
theorem dX4_readsWord_63 : decode cX4_readsWord 63 = .ok (.bipush 48, 2) := by decide +kernel
theorem dX4_readsWord_65 : decode cX4_readsWord 65 = .ok (.isub, 1) := by decide +kernel
theorem dX4_readsWord_66 : decode cX4_readsWord 66 = .ok (.goto 5, 3) := by decide +kernel
theorem dX4_readsWord_69 : decode cX4_readsWord 69 = .ok (.iload 4, 2) := by decide +kernel
theorem dX4_readsWord_71 : decode cX4_readsWord 71 = .ok (.istore 4, 2) := by decide +kernel
theorem dX4_readsWord_73 : decode cX4_readsWord 73 = .ok (.iinc 3 1, 3) := by decide +kernel
theorem dX4_readsWord_76 : decode cX4_readsWord 76 = .ok (.goto (-63), 3) := by decide +kernel
theorem dX4_readsWord_79 : decode cX4_readsWord 79 = .ok (.iload_n 3, 1) := by decide +kernel
theorem dX4_readsWord_80 : decode cX4_readsWord 80 = .ok (.aload_n 0, 1) := by decide +kernel
theorem dX4_readsWord_81 : decode cX4_readsWord 81 = .ok (.getfield 112, 3) := by decide +kernel
theorem dX4_readsWord_84 : decode cX4_readsWord 84 = .ok (.if_icmp .eq 33, 3) := by decide +kernel
theorem dX4_readsWord_87 : decode cX4_readsWord 87 = .ok (.iload_n 3, 1) := by decide +kernel
theorem dX4_readsWord_88 : decode cX4_readsWord 88 = .ok (.aload_n 0, 1) := by decide +kernel
theorem dX4_readsWord_89 : decode cX4_readsWord 89 = .ok (.getfield 112, 3) := by decide +kernel
theorem dX4_readsWord_92 : decode cX4_readsWord 92 = .ok (.isub, 1) := by decide +kernel
theorem dX4_readsWord_93 : decode cX4_readsWord 93 = .ok (.iconst 4, 1) := by decide +kernel
theorem dX4_readsWord_94 : decode cX4_readsWord 94 = .ok (.if_icmp .gt 23, 3) := by decide +kernel
theorem dX4_readsWord_97 : decode cX4_readsWord 97 = .ok (.aload_n 0, 1) := by decide +kernel
theorem dX4_readsWord_98 : decode cX4_readsWord 98 = .ok (.iload 4, 2) := by decide +kernel
theorem dX4_readsWord_100 : decode cX4_readsWord 100 = .ok (.invokevirtual 78, 3) := by decide +kernel
theorem dX4_readsWord_103 : decode cX4_readsWord 103 = .ok (.ifCond .eq 14, 3) := by decide +kernel
theorem dX4_readsWord_106 : decode cX4_readsWord 106 = .ok (.aload_n 0, 1) := by decide +kernel
theorem dX4_readsWord_107 : decode cX4_readsWord 107 = .ok (.getfield 118, 3) := by decide +kernel
theorem dX4_readsWord_110 : decode cX4_readsWord 110 = .ok (.aload_n 0, 1) := by decide +kernel
theorem dX4_readsWord_111 : decode cX4_readsWord 111 = .ok (.invokevirtual 42, 3) := by decide +kernel
theorem dX4_readsWord_114 : decode cX4_readsWord 114 = .ok (.if_icmp .ne 5, 3) := by decide +kernel
theorem dX4_readsWord_117 : decode cX4_readsWord 117 = .ok (.iconst 0, 1) := by decide +kernel
theorem dX4_readsWord_118 : decode cX4_readsWord 118 = .ok (.ireturn, 1) := by decide +kernel
theorem dX4_readsWord_119 : decode cX4_readsWord 119 = .ok (.aload_n 0, 1) := by decide +kernel
theorem dX4_readsWord_120 : decode cX4_readsWord 120 = .ok (.iload_n 3, 1) := by decide +kernel
theorem dX4_readsWord_121 : decode cX4_readsWord 121 = .ok (.putfield 112, 3) := by decide +kernel
theorem dX4_readsWord_124 : decode cX4_readsWord 124 = .ok (.aload_n 0, 1) := by decide +kernel
theorem dX4_readsWord_125 : decode cX4_readsWord 125 = .ok (.getfield 7, 3) := by decide +kernel
theorem dX4_readsWord_128 : decode cX4_readsWord 128 = .ok (.bipush 19, 2) := by decide +kernel
theorem dX4_readsWord_130 : decode cX4_readsWord 130 = .ok (.aload_n 0, 1) := by decide +kernel
theorem dX4_readsWord_131 : decode cX4_readsWord 131 = .ok (.getfield 118, 3) := by decide +kernel
theorem dX4_readsWord_134 : decode cX4_readsWord 134 = .ok (.iadd, 1) := by decide +kernel
theorem dX4_readsWord_135 : decode cX4_readsWord 135 = .ok (.iload_n 1, 1) := by decide +kernel
theorem dX4_readsWord_136 : decode cX4_readsWord 136 = .ok (.ifCond .eq 8, 3) := by decide +kernel
theorem dX4_readsWord_139 : decode cX4_readsWord 139 = .ok (.iload 4, 2) := by decide +kernel
theorem dX4_readsWord_141 : decode cX4_readsWord 141 = .ok (.goto 15, 3) := by decide +kernel
theorem dX4_readsWord_144 : decode cX4_readsWord 144 = .ok (.aload_n 0, 1) := by decide +kernel
theorem dX4_readsWord_145 : decode cX4_readsWord 145 = .ok (.getfield 7, 3) := by decide +kernel
theorem dX4_readsWord_148 : decode cX4_readsWord 148 = .ok (.bipush 19, 2) := by decide +kernel
theorem dX4_readsWord_150 : decode cX4_readsWord 150 = .ok (.aload_n 0, 1) := by decide +kernel
theorem dX4_readsWord_151 : decode cX4_readsWord 151 = .ok (.getfield 118, 3) := by decide +kernel
theorem dX4_readsWord_154 : decode cX4_readsWord 154 = .ok (.iadd, 1) := by decide +kernel
theorem dX4_readsWord_155 : decode cX4_readsWord 155 = .ok (.iaload, 1) := by decide +kernel
theorem dX4_readsWord_156 : decode cX4_readsWord 156 = .ok (.iastore, 1) := by decide +kernel
theorem dX4_readsWord_157 : decode cX4_readsWord 157 = .ok (.aload_n 0, 1) := by decide +kernel
theorem dX4_readsWord_158 : decode cX4_readsWord 158 = .ok (.dup, 1) := by decide +kernel
theorem dX4_readsWord_159 : decode cX4_readsWord 159 = .ok (.getfield 118, 3) := by decide +kernel
theorem dX4_readsWord_162 : decode cX4_readsWord 162 = .ok (.iconst 1, 1) := by decide +kernel
theorem dX4_readsWord_163 : decode cX4_readsWord 163 = .ok (.iadd, 1) := by decide +kernel
theorem dX4_readsWord_164 : decode cX4_readsWord 164 = .ok (.putfield 118, 3) := by decide +kernel
theorem dX4_readsWord_167 : decode cX4_readsWord 167 = .ok (.iconst 1, 1) := by decide +kernel
theorem dX4_readsWord_168 : decode cX4_readsWord 168 = .ok (.ireturn, 1) := by decide +kernel
theorem dX4_readsText_0 : decode cX4_readsText 0 = .ok (.aload_n 0, 1) := by decide +kernel
theorem dX4_readsText_1 : decode cX4_readsText 1 = .ok (.iconst 0, 1) := by decide +kernel
theorem dX4_readsText_2 : decode cX4_readsText 2 = .ok (.putfield 112, 3) := by decide +kernel
theorem dX4_readsText_5 : decode cX4_readsText 5 = .ok (.aload_n 0, 1) := by decide +kernel
theorem dX4_readsText_6 : decode cX4_readsText 6 = .ok (.iconst 0, 1) := by decide +kernel
theorem dX4_readsText_7 : decode cX4_readsText 7 = .ok (.putfield 118, 3) := by decide +kernel
theorem dX4_readsText_10 : decode cX4_readsText 10 = .ok (.aload_n 0, 1) := by decide +kernel
theorem dX4_readsText_11 : decode cX4_readsText 11 = .ok (.iload_n 1, 1) := by decide +kernel
theorem dX4_readsText_12 : decode cX4_readsText 12 = .ok (.invokevirtual 121, 3) := by decide +kernel
theorem dX4_readsText_15 : decode cX4_readsText 15 = .ok (.istore_n 2, 1) := by decide +kernel
theorem dX4_readsText_16 : decode cX4_readsText 16 = .ok (.aload_n 0, 1) := by decide +kernel
theorem dX4_readsText_17 : decode cX4_readsText 17 = .ok (.invokevirtual 115, 3) := by decide +kernel
theorem dX4_readsText_20 : decode cX4_readsText 20 = .ok (.istore_n 3, 1) := by decide +kernel
theorem dX4_readsText_21 : decode cX4_readsText 21 = .ok (.iload_n 2, 1) := by decide +kernel
theorem dX4_readsText_22 : decode cX4_readsText 22 = .ok (.ifCond .eq 48, 3) := by decide +kernel
theorem dX4_readsText_25 : decode cX4_readsText 25 = .ok (.iload_n 3, 1) := by decide +kernel
theorem dX4_readsText_26 : decode cX4_readsText 26 = .ok (.iconst (-1), 1) := by decide +kernel
theorem dX4_readsText_27 : decode cX4_readsText 27 = .ok (.if_icmp .eq 43, 3) := by decide +kernel
theorem dX4_readsText_30 : decode cX4_readsText 30 = .ok (.iload_n 3, 1) := by decide +kernel
theorem dX4_readsText_31 : decode cX4_readsText 31 = .ok (.bipush 44, 2) := by decide +kernel
theorem dX4_readsText_33 : decode cX4_readsText 33 = .ok (.if_icmp .ne 7, 3) := by decide +kernel
theorem dX4_readsText_36 : decode cX4_readsText 36 = .ok (.iconst 1, 1) := by decide +kernel
theorem dX4_readsText_37 : decode cX4_readsText 37 = .ok (.goto 4, 3) := by decide +kernel
theorem dX4_readsText_40 : decode cX4_readsText 40 = .ok (.iconst 0, 1) := by decide +kernel
theorem dX4_readsText_41 : decode cX4_readsText 41 = .ok (.istore_n 2, 1) := by decide +kernel
theorem dX4_readsText_42 : decode cX4_readsText 42 = .ok (.iload_n 2, 1) := by decide +kernel
theorem dX4_readsText_43 : decode cX4_readsText 43 = .ok (.ifCond .eq (-22), 3) := by decide +kernel
theorem dX4_readsText_46 : decode cX4_readsText 46 = .ok (.aload_n 0, 1) := by decide +kernel
theorem dX4_readsText_47 : decode cX4_readsText 47 = .ok (.dup, 1) := by decide +kernel
theorem dX4_readsText_48 : decode cX4_readsText 48 = .ok (.getfield 112, 3) := by decide +kernel
theorem dX4_readsText_51 : decode cX4_readsText 51 = .ok (.iconst 1, 1) := by decide +kernel
theorem dX4_readsText_52 : decode cX4_readsText 52 = .ok (.iadd, 1) := by decide +kernel
theorem dX4_readsText_53 : decode cX4_readsText 53 = .ok (.putfield 112, 3) := by decide +kernel
theorem dX4_readsText_56 : decode cX4_readsText 56 = .ok (.aload_n 0, 1) := by decide +kernel
theorem dX4_readsText_57 : decode cX4_readsText 57 = .ok (.iload_n 1, 1) := by decide +kernel
theorem dX4_readsText_58 : decode cX4_readsText 58 = .ok (.invokevirtual 121, 3) := by decide +kernel
theorem dX4_readsText_61 : decode cX4_readsText 61 = .ok (.istore_n 2, 1) := by decide +kernel
theorem dX4_readsText_62 : decode cX4_readsText 62 = .ok (.aload_n 0, 1) := by decide +kernel
theorem dX4_readsText_63 : decode cX4_readsText 63 = .ok (.invokevirtual 115, 3) := by decide +kernel
theorem dX4_readsText_66 : decode cX4_readsText 66 = .ok (.istore_n 3, 1) := by decide +kernel
theorem dX4_readsText_67 : decode cX4_readsText 67 = .ok (.goto (-46), 3) := by decide +kernel
theorem dX4_readsText_70 : decode cX4_readsText 70 = .ok (.iload_n 2, 1) := by decide +kernel
theorem dX4_readsText_71 : decode cX4_readsText 71 = .ok (.ireturn, 1) := by decide +kernel
theorem dX4_textFault_0 : decode cX4_textFault 0 = .ok (.aload_n 0, 1) := by decide +kernel
theorem dX4_textFault_1 : decode cX4_textFault 1 = .ok (.iconst 0, 1) := by decide +kernel
theorem dX4_textFault_2 : decode cX4_textFault 2 = .ok (.invokevirtual 125, 3) := by decide +kernel
theorem dX4_textFault_5 : decode cX4_textFault 5 = .ok (.ifCond .eq 7, 3) := by decide +kernel
theorem dX4_textFault_8 : decode cX4_textFault 8 = .ok (.iconst (-1), 1) := by decide +kernel
theorem dX4_textFault_9 : decode cX4_textFault 9 = .ok (.goto 7, 3) := by decide +kernel
theorem dX4_textFault_12 : decode cX4_textFault 12 = .ok (.aload_n 0, 1) := by decide +kernel
theorem dX4_textFault_13 : decode cX4_textFault 13 = .ok (.getfield 112, 3) := by decide +kernel
theorem dX4_textFault_16 : decode cX4_textFault 16 = .ok (.ireturn, 1) := by decide +kernel
theorem dX4_load_0 : decode cX4_load 0 = .ok (.aload_n 0, 1) := by decide +kernel
theorem dX4_load_1 : decode cX4_load 1 = .ok (.iconst 0, 1) := by decide +kernel
theorem dX4_load_2 : decode cX4_load 2 = .ok (.invokevirtual 125, 3) := by decide +kernel
theorem dX4_load_5 : decode cX4_load 5 = .ok (.ifCond .ne 6, 3) := by decide +kernel
theorem dX4_load_8 : decode cX4_load 8 = .ok (.bipush (-4), 2) := by decide +kernel
theorem dX4_load_10 : decode cX4_load 10 = .ok (.ireturn, 1) := by decide +kernel
theorem dX4_load_11 : decode cX4_load 11 = .ok (.aload_n 0, 1) := by decide +kernel
theorem dX4_load_12 : decode cX4_load 12 = .ok (.invokevirtual 62, 3) := by decide +kernel
theorem dX4_load_15 : decode cX4_load 15 = .ok (.aload_n 0, 1) := by decide +kernel
theorem dX4_load_16 : decode cX4_load 16 = .ok (.iconst 1, 1) := by decide +kernel
theorem dX4_load_17 : decode cX4_load 17 = .ok (.invokevirtual 125, 3) := by decide +kernel
theorem dX4_load_20 : decode cX4_load 20 = .ok (.istore_n 1, 1) := by decide +kernel
theorem dX4_load_21 : decode cX4_load 21 = .ok (.aload_n 0, 1) := by decide +kernel
theorem dX4_load_22 : decode cX4_load 22 = .ok (.getfield 118, 3) := by decide +kernel
theorem dX4_load_25 : decode cX4_load 25 = .ok (.ireturn, 1) := by decide +kernel
theorem dX4_note_0 : decode cX4_note 0 = .ok (.aload_n 0, 1) := by decide +kernel
theorem dX4_note_1 : decode cX4_note 1 = .ok (.ldc2_w 128, 3) := by decide +kernel
theorem dX4_note_4 : decode cX4_note 4 = .ok (.aload_n 0, 1) := by decide +kernel
theorem dX4_note_5 : decode cX4_note 5 = .ok (.getfield 130, 3) := by decide +kernel
theorem dX4_note_8 : decode cX4_note 8 = .ok (.lmul, 1) := by decide +kernel
theorem dX4_note_9 : decode cX4_note 9 = .ok (.iload_n 1, 1) := by decide +kernel
theorem dX4_note_10 : decode cX4_note 10 = .ok (.i2l, 1) := by decide +kernel
theorem dX4_note_11 : decode cX4_note 11 = .ok (.ladd, 1) := by decide +kernel
theorem dX4_note_12 : decode cX4_note 12 = .ok (.putfield 130, 3) := by decide +kernel
theorem dX4_note_15 : decode cX4_note 15 = .ok (.return_, 1) := by decide +kernel
theorem dX4_digest_0 : decode cX4_digest 0 = .ok (.aload_n 0, 1) := by decide +kernel
theorem dX4_digest_1 : decode cX4_digest 1 = .ok (.ldc2_w 134, 3) := by decide +kernel
theorem dX4_digest_4 : decode cX4_digest 4 = .ok (.putfield 130, 3) := by decide +kernel
theorem dX4_digest_7 : decode cX4_digest 7 = .ok (.iconst 0, 1) := by decide +kernel
theorem dX4_digest_8 : decode cX4_digest 8 = .ok (.istore_n 1, 1) := by decide +kernel
theorem dX4_digest_9 : decode cX4_digest 9 = .ok (.iload_n 1, 1) := by decide +kernel
theorem dX4_digest_10 : decode cX4_digest 10 = .ok (.bipush 9, 2) := by decide +kernel
theorem dX4_digest_12 : decode cX4_digest 12 = .ok (.if_icmp .ge 18, 3) := by decide +kernel
theorem dX4_digest_15 : decode cX4_digest 15 = .ok (.aload_n 0, 1) := by decide +kernel
theorem dX4_digest_16 : decode cX4_digest 16 = .ok (.aload_n 0, 1) := by decide +kernel
theorem dX4_digest_17 : decode cX4_digest 17 = .ok (.iload_n 1, 1) := by decide +kernel
theorem dX4_digest_18 : decode cX4_digest 18 = .ok (.invokevirtual 136, 3) := by decide +kernel
theorem dX4_digest_21 : decode cX4_digest 21 = .ok (.invokevirtual 139, 3) := by decide +kernel
theorem dX4_digest_24 : decode cX4_digest 24 = .ok (.iinc 1 1, 3) := by decide +kernel
theorem dX4_digest_27 : decode cX4_digest 27 = .ok (.goto (-18), 3) := by decide +kernel
theorem dX4_digest_30 : decode cX4_digest 30 = .ok (.iconst 0, 1) := by decide +kernel
theorem dX4_digest_31 : decode cX4_digest 31 = .ok (.istore_n 1, 1) := by decide +kernel
theorem dX4_digest_32 : decode cX4_digest 32 = .ok (.iload_n 1, 1) := by decide +kernel
theorem dX4_digest_33 : decode cX4_digest 33 = .ok (.aload_n 0, 1) := by decide +kernel
theorem dX4_digest_34 : decode cX4_digest 34 = .ok (.getfield 7, 3) := by decide +kernel
theorem dX4_digest_37 : decode cX4_digest 37 = .ok (.iconst 0, 1) := by decide +kernel
theorem dX4_digest_38 : decode cX4_digest 38 = .ok (.iaload, 1) := by decide +kernel
theorem dX4_digest_39 : decode cX4_digest 39 = .ok (.if_icmp .ge 21, 3) := by decide +kernel
theorem dX4_digest_42 : decode cX4_digest 42 = .ok (.aload_n 0, 1) := by decide +kernel
theorem dX4_digest_43 : decode cX4_digest 43 = .ok (.aload_n 0, 1) := by decide +kernel
theorem dX4_digest_44 : decode cX4_digest 44 = .ok (.getfield 7, 3) := by decide +kernel
theorem dX4_digest_47 : decode cX4_digest 47 = .ok (.iconst 3, 1) := by decide +kernel
theorem dX4_digest_48 : decode cX4_digest 48 = .ok (.iload_n 1, 1) := by decide +kernel
theorem dX4_digest_49 : decode cX4_digest 49 = .ok (.iadd, 1) := by decide +kernel
theorem dX4_digest_50 : decode cX4_digest 50 = .ok (.iaload, 1) := by decide +kernel
theorem dX4_digest_51 : decode cX4_digest 51 = .ok (.invokevirtual 139, 3) := by decide +kernel
theorem dX4_digest_54 : decode cX4_digest 54 = .ok (.iinc 1 1, 3) := by decide +kernel
theorem dX4_digest_57 : decode cX4_digest 57 = .ok (.goto (-25), 3) := by decide +kernel
theorem dX4_digest_60 : decode cX4_digest 60 = .ok (.aload_n 0, 1) := by decide +kernel
theorem dX4_digest_61 : decode cX4_digest 61 = .ok (.invokevirtual 84, 3) := by decide +kernel
theorem dX4_digest_64 : decode cX4_digest 64 = .ok (.iconst 0, 1) := by decide +kernel
theorem dX4_digest_65 : decode cX4_digest 65 = .ok (.istore_n 1, 1) := by decide +kernel
theorem dX4_digest_66 : decode cX4_digest 66 = .ok (.iload_n 1, 1) := by decide +kernel
theorem dX4_digest_67 : decode cX4_digest 67 = .ok (.aload_n 0, 1) := by decide +kernel
theorem dX4_digest_68 : decode cX4_digest 68 = .ok (.invokevirtual 42, 3) := by decide +kernel
theorem dX4_digest_71 : decode cX4_digest 71 = .ok (.if_icmp .ge 62, 3) := by decide +kernel
theorem dX4_digest_74 : decode cX4_digest 74 = .ok (.aload_n 0, 1) := by decide +kernel
theorem dX4_digest_75 : decode cX4_digest 75 = .ok (.aload_n 0, 1) := by decide +kernel
theorem dX4_digest_76 : decode cX4_digest 76 = .ok (.getfield 7, 3) := by decide +kernel
theorem dX4_digest_79 : decode cX4_digest 79 = .ok (.bipush 19, 2) := by decide +kernel
theorem dX4_digest_81 : decode cX4_digest 81 = .ok (.iload_n 1, 1) := by decide +kernel
theorem dX4_digest_82 : decode cX4_digest 82 = .ok (.iadd, 1) := by decide +kernel
theorem dX4_digest_83 : decode cX4_digest 83 = .ok (.iaload, 1) := by decide +kernel
theorem dX4_digest_84 : decode cX4_digest 84 = .ok (.invokevirtual 139, 3) := by decide +kernel
theorem dX4_digest_87 : decode cX4_digest 87 = .ok (.aload_n 0, 1) := by decide +kernel
theorem dX4_digest_88 : decode cX4_digest 88 = .ok (.aload_n 0, 1) := by decide +kernel
theorem dX4_digest_89 : decode cX4_digest 89 = .ok (.iload_n 1, 1) := by decide +kernel
theorem dX4_digest_90 : decode cX4_digest 90 = .ok (.invokevirtual 96, 3) := by decide +kernel
theorem dX4_digest_93 : decode cX4_digest 93 = .ok (.invokevirtual 139, 3) := by decide +kernel
theorem dX4_digest_96 : decode cX4_digest 96 = .ok (.aload_n 0, 1) := by decide +kernel
theorem dX4_digest_97 : decode cX4_digest 97 = .ok (.aload_n 0, 1) := by decide +kernel
theorem dX4_digest_98 : decode cX4_digest 98 = .ok (.iload_n 1, 1) := by decide +kernel
theorem dX4_digest_99 : decode cX4_digest 99 = .ok (.invokevirtual 99, 3) := by decide +kernel
theorem dX4_digest_102 : decode cX4_digest 102 = .ok (.ifCond .eq 7, 3) := by decide +kernel
theorem dX4_digest_105 : decode cX4_digest 105 = .ok (.iconst 0, 1) := by decide +kernel
theorem dX4_digest_106 : decode cX4_digest 106 = .ok (.goto 4, 3) := by decide +kernel
theorem dX4_digest_109 : decode cX4_digest 109 = .ok (.iconst 1, 1) := by decide +kernel
theorem dX4_digest_110 : decode cX4_digest 110 = .ok (.invokevirtual 139, 3) := by decide +kernel
theorem dX4_digest_113 : decode cX4_digest 113 = .ok (.aload_n 0, 1) := by decide +kernel
theorem dX4_digest_114 : decode cX4_digest 114 = .ok (.aload_n 0, 1) := by decide +kernel
theorem dX4_digest_115 : decode cX4_digest 115 = .ok (.getfield 7, 3) := by decide +kernel
theorem dX4_digest_118 : decode cX4_digest 118 = .ok (.sipush 141, 3) := by decide +kernel
theorem dX4_digest_121 : decode cX4_digest 121 = .ok (.iload_n 1, 1) := by decide +kernel
theorem dX4_digest_122 : decode cX4_digest 122 = .ok (.iadd, 1) := by decide +kernel
theorem dX4_digest_123 : decode cX4_digest 123 = .ok (.iaload, 1) := by decide +kernel
theorem dX4_digest_124 : decode cX4_digest 124 = .ok (.invokevirtual 139, 3) := by decide +kernel
theorem dX4_digest_127 : decode cX4_digest 127 = .ok (.iinc 1 1, 3) := by decide +kernel
theorem dX4_digest_130 : decode cX4_digest 130 = .ok (.goto (-64), 3) := by decide +kernel
theorem dX4_digest_133 : decode cX4_digest 133 = .ok (.iconst 0, 1) := by decide +kernel
theorem dX4_digest_134 : decode cX4_digest 134 = .ok (.istore_n 1, 1) := by decide +kernel
theorem dX4_digest_135 : decode cX4_digest 135 = .ok (.iload_n 1, 1) := by decide +kernel
theorem dX4_digest_136 : decode cX4_digest 136 = .ok (.aload_n 0, 1) := by decide +kernel
theorem dX4_digest_137 : decode cX4_digest 137 = .ok (.invokevirtual 38, 3) := by decide +kernel
theorem dX4_digest_140 : decode cX4_digest 140 = .ok (.if_icmp .ge 41, 3) := by decide +kernel
theorem dX4_digest_143 : decode cX4_digest 143 = .ok (.iconst 0, 1) := by decide +kernel
theorem dX4_digest_144 : decode cX4_digest 144 = .ok (.istore_n 2, 1) := by decide +kernel
theorem dX4_digest_145 : decode cX4_digest 145 = .ok (.iload_n 2, 1) := by decide +kernel
theorem dX4_digest_146 : decode cX4_digest 146 = .ok (.aload_n 0, 1) := by decide +kernel
theorem dX4_digest_147 : decode cX4_digest 147 = .ok (.getfield 7, 3) := by decide +kernel
theorem dX4_digest_150 : decode cX4_digest 150 = .ok (.iconst 0, 1) := by decide +kernel
theorem dX4_digest_151 : decode cX4_digest 151 = .ok (.iaload, 1) := by decide +kernel
theorem dX4_digest_152 : decode cX4_digest 152 = .ok (.if_icmp .ge 23, 3) := by decide +kernel
theorem dX4_digest_155 : decode cX4_digest 155 = .ok (.aload_n 0, 1) := by decide +kernel
theorem dX4_digest_156 : decode cX4_digest 156 = .ok (.aload_n 0, 1) := by decide +kernel
theorem dX4_digest_157 : decode cX4_digest 157 = .ok (.getfield 13, 3) := by decide +kernel
theorem dX4_digest_160 : decode cX4_digest 160 = .ok (.iload_n 1, 1) := by decide +kernel
theorem dX4_digest_161 : decode cX4_digest 161 = .ok (.iaload, 1) := by decide +kernel
theorem dX4_digest_162 : decode cX4_digest 162 = .ok (.iload_n 2, 1) := by decide +kernel
theorem dX4_digest_163 : decode cX4_digest 163 = .ok (.ishr, 1) := by decide +kernel
theorem dX4_digest_164 : decode cX4_digest 164 = .ok (.iconst 1, 1) := by decide +kernel
theorem dX4_digest_165 : decode cX4_digest 165 = .ok (.iand, 1) := by decide +kernel
theorem dX4_digest_166 : decode cX4_digest 166 = .ok (.invokevirtual 139, 3) := by decide +kernel
theorem dX4_digest_169 : decode cX4_digest 169 = .ok (.iinc 2 1, 3) := by decide +kernel
theorem dX4_digest_172 : decode cX4_digest 172 = .ok (.goto (-27), 3) := by decide +kernel
theorem dX4_digest_175 : decode cX4_digest 175 = .ok (.iinc 1 1, 3) := by decide +kernel
theorem dX4_digest_178 : decode cX4_digest 178 = .ok (.goto (-43), 3) := by decide +kernel
theorem dX4_digest_181 : decode cX4_digest 181 = .ok (.aload_n 0, 1) := by decide +kernel
theorem dX4_digest_182 : decode cX4_digest 182 = .ok (.getfield 130, 3) := by decide +kernel
theorem dX4_digest_185 : decode cX4_digest 185 = .ok (.lreturn, 1) := by decide +kernel
