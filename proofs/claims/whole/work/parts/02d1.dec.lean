theorem dX4_through_35 : decode cX4_through 35 = .ok (.goto 5, 3) := by decide +kernel
theorem dX4_through_38 : decode cX4_through 38 = .ok (.bipush (-2), 2) := by decide +kernel
theorem dX4_through_40 : decode cX4_through 40 = .ok (.ireturn, 1) := by decide +kernel
theorem dX4_cost_0 : decode cX4_cost 0 = .ok (.aload_n 0, 1) := by decide +kernel
theorem dX4_cost_1 : decode cX4_cost 1 = .ok (.iload_n 1, 1) := by decide +kernel
theorem dX4_cost_2 : decode cX4_cost 2 = .ok (.invokevirtual 81, 3) := by decide +kernel
theorem dX4_cost_5 : decode cX4_cost 5 = .ok (.ifCond .eq 11, 3) := by decide +kernel
theorem dX4_cost_8 : decode cX4_cost 8 = .ok (.aload_n 0, 1) := by decide +kernel
theorem dX4_cost_9 : decode cX4_cost 9 = .ok (.iload_n 1, 1) := by decide +kernel
theorem dX4_cost_10 : decode cX4_cost 10 = .ok (.invokevirtual 65, 3) := by decide +kernel
theorem dX4_cost_13 : decode cX4_cost 13 = .ok (.goto 5, 3) := by decide +kernel
theorem dX4_cost_16 : decode cX4_cost 16 = .ok (.bipush (-2), 2) := by decide +kernel
theorem dX4_cost_18 : decode cX4_cost 18 = .ok (.ireturn, 1) := by decide +kernel
theorem dX4_economize_0 : decode cX4_economize 0 = .ok (.aload_n 0, 1) := by decide +kernel
theorem dX4_economize_1 : decode cX4_economize 1 = .ok (.invokevirtual 62, 3) := by decide +kernel
theorem dX4_economize_4 : decode cX4_economize 4 = .ok (.iconst 0, 1) := by decide +kernel
theorem dX4_economize_5 : decode cX4_economize 5 = .ok (.istore_n 1, 1) := by decide +kernel
theorem dX4_economize_6 : decode cX4_economize 6 = .ok (.bipush 8, 2) := by decide +kernel
theorem dX4_economize_8 : decode cX4_economize 8 = .ok (.istore_n 2, 1) := by decide +kernel
theorem dX4_economize_9 : decode cX4_economize 9 = .ok (.iload_n 2, 1) := by decide +kernel
theorem dX4_economize_10 : decode cX4_economize 10 = .ok (.aload_n 0, 1) := by decide +kernel
theorem dX4_economize_11 : decode cX4_economize 11 = .ok (.invokevirtual 38, 3) := by decide +kernel
theorem dX4_economize_14 : decode cX4_economize 14 = .ok (.if_icmp .ge 82, 3) := by decide +kernel
theorem dX4_economize_17 : decode cX4_economize 17 = .ok (.aload_n 0, 1) := by decide +kernel
theorem dX4_economize_18 : decode cX4_economize 18 = .ok (.iload_n 2, 1) := by decide +kernel
theorem dX4_economize_19 : decode cX4_economize 19 = .ok (.invokevirtual 56, 3) := by decide +kernel
theorem dX4_economize_22 : decode cX4_economize 22 = .ok (.invokestatic 45, 3) := by decide +kernel
theorem dX4_economize_25 : decode cX4_economize 25 = .ok (.istore_n 3, 1) := by decide +kernel
theorem dX4_economize_26 : decode cX4_economize 26 = .ok (.aload_n 0, 1) := by decide +kernel
theorem dX4_economize_27 : decode cX4_economize 27 = .ok (.getfield 7, 3) := by decide +kernel
theorem dX4_economize_30 : decode cX4_economize 30 = .ok (.iconst 0, 1) := by decide +kernel
theorem dX4_economize_31 : decode cX4_economize 31 = .ok (.iaload, 1) := by decide +kernel
theorem dX4_economize_32 : decode cX4_economize 32 = .ok (.iload_n 3, 1) := by decide +kernel
theorem dX4_economize_33 : decode cX4_economize 33 = .ok (.isub, 1) := by decide +kernel
theorem dX4_economize_34 : decode cX4_economize 34 = .ok (.iconst 1, 1) := by decide +kernel
theorem dX4_economize_35 : decode cX4_economize 35 = .ok (.iadd, 1) := by decide +kernel
theorem dX4_economize_36 : decode cX4_economize 36 = .ok (.istore 4, 2) := by decide +kernel
theorem dX4_economize_38 : decode cX4_economize 38 = .ok (.iload 4, 2) := by decide +kernel
theorem dX4_economize_40 : decode cX4_economize 40 = .ok (.iload_n 3, 1) := by decide +kernel
theorem dX4_economize_41 : decode cX4_economize 41 = .ok (.if_icmp .ge 7, 3) := by decide +kernel
theorem dX4_economize_44 : decode cX4_economize 44 = .ok (.iconst 1, 1) := by decide +kernel
theorem dX4_economize_45 : decode cX4_economize 45 = .ok (.goto 4, 3) := by decide +kernel
theorem dX4_economize_48 : decode cX4_economize 48 = .ok (.iconst 0, 1) := by decide +kernel
theorem dX4_economize_49 : decode cX4_economize 49 = .ok (.istore 5, 2) := by decide +kernel
theorem dX4_economize_51 : decode cX4_economize 51 = .ok (.iload_n 1, 1) := by decide +kernel
theorem dX4_economize_52 : decode cX4_economize 52 = .ok (.aload_n 0, 1) := by decide +kernel
theorem dX4_economize_53 : decode cX4_economize 53 = .ok (.getfield 7, 3) := by decide +kernel
theorem dX4_economize_56 : decode cX4_economize 56 = .ok (.bipush 67, 2) := by decide +kernel
theorem dX4_economize_58 : decode cX4_economize 58 = .ok (.iload_n 2, 1) := by decide +kernel
theorem dX4_economize_59 : decode cX4_economize 59 = .ok (.iadd, 1) := by decide +kernel
theorem dX4_economize_60 : decode cX4_economize 60 = .ok (.bipush 8, 2) := by decide +kernel
theorem dX4_economize_62 : decode cX4_economize 62 = .ok (.isub, 1) := by decide +kernel
theorem dX4_economize_63 : decode cX4_economize 63 = .ok (.iaload, 1) := by decide +kernel
theorem dX4_economize_64 : decode cX4_economize 64 = .ok (.iload 5, 2) := by decide +kernel
theorem dX4_economize_66 : decode cX4_economize 66 = .ok (.if_icmp .ne 7, 3) := by decide +kernel
theorem dX4_economize_69 : decode cX4_economize 69 = .ok (.iconst 0, 1) := by decide +kernel
theorem dX4_economize_70 : decode cX4_economize 70 = .ok (.goto 4, 3) := by decide +kernel
theorem dX4_economize_73 : decode cX4_economize 73 = .ok (.iconst 1, 1) := by decide +kernel
theorem dX4_economize_74 : decode cX4_economize 74 = .ok (.iadd, 1) := by decide +kernel
theorem dX4_economize_75 : decode cX4_economize 75 = .ok (.istore_n 1, 1) := by decide +kernel
theorem dX4_economize_76 : decode cX4_economize 76 = .ok (.aload_n 0, 1) := by decide +kernel
theorem dX4_economize_77 : decode cX4_economize 77 = .ok (.getfield 7, 3) := by decide +kernel
theorem dX4_economize_80 : decode cX4_economize 80 = .ok (.bipush 67, 2) := by decide +kernel
theorem dX4_economize_82 : decode cX4_economize 82 = .ok (.iload_n 2, 1) := by decide +kernel
theorem dX4_economize_83 : decode cX4_economize 83 = .ok (.iadd, 1) := by decide +kernel
theorem dX4_economize_84 : decode cX4_economize 84 = .ok (.bipush 8, 2) := by decide +kernel
theorem dX4_economize_86 : decode cX4_economize 86 = .ok (.isub, 1) := by decide +kernel
theorem dX4_economize_87 : decode cX4_economize 87 = .ok (.iload 5, 2) := by decide +kernel
theorem dX4_economize_89 : decode cX4_economize 89 = .ok (.iastore, 1) := by decide +kernel
theorem dX4_economize_90 : decode cX4_economize 90 = .ok (.iinc 2 1, 3) := by decide +kernel
theorem dX4_economize_93 : decode cX4_economize 93 = .ok (.goto (-84), 3) := by decide +kernel
theorem dX4_economize_96 : decode cX4_economize 96 = .ok (.iload_n 1, 1) := by decide +kernel
theorem dX4_economize_97 : decode cX4_economize 97 = .ok (.ireturn, 1) := by decide +kernel
theorem dX4_weaves_0 : decode cX4_weaves 0 = .ok (.iconst 0, 1) := by decide +kernel
theorem dX4_weaves_1 : decode cX4_weaves 1 = .ok (.istore_n 1, 1) := by decide +kernel
theorem dX4_weaves_2 : decode cX4_weaves 2 = .ok (.iload_n 1, 1) := by decide +kernel
theorem dX4_weaves_3 : decode cX4_weaves 3 = .ok (.aload_n 0, 1) := by decide +kernel
theorem dX4_weaves_4 : decode cX4_weaves 4 = .ok (.invokevirtual 38, 3) := by decide +kernel
theorem dX4_weaves_7 : decode cX4_weaves 7 = .ok (.if_icmp .ge 30, 3) := by decide +kernel
theorem dX4_weaves_10 : decode cX4_weaves 10 = .ok (.aload_n 0, 1) := by decide +kernel
theorem dX4_weaves_11 : decode cX4_weaves 11 = .ok (.getfield 13, 3) := by decide +kernel
theorem dX4_weaves_14 : decode cX4_weaves 14 = .ok (.iload_n 1, 1) := by decide +kernel
theorem dX4_weaves_15 : decode cX4_weaves 15 = .ok (.aload_n 0, 1) := by decide +kernel
theorem dX4_weaves_16 : decode cX4_weaves 16 = .ok (.iload_n 1, 1) := by decide +kernel
theorem dX4_weaves_17 : decode cX4_weaves 17 = .ok (.invokevirtual 59, 3) := by decide +kernel
theorem dX4_weaves_20 : decode cX4_weaves 20 = .ok (.aload_n 0, 1) := by decide +kernel
theorem dX4_weaves_21 : decode cX4_weaves 21 = .ok (.getfield 7, 3) := by decide +kernel
theorem dX4_weaves_24 : decode cX4_weaves 24 = .ok (.bipush 100, 2) := by decide +kernel
theorem dX4_weaves_26 : decode cX4_weaves 26 = .ok (.iload_n 1, 1) := by decide +kernel
theorem dX4_weaves_27 : decode cX4_weaves 27 = .ok (.iadd, 1) := by decide +kernel
theorem dX4_weaves_28 : decode cX4_weaves 28 = .ok (.iaload, 1) := by decide +kernel
theorem dX4_weaves_29 : decode cX4_weaves 29 = .ok (.ixor, 1) := by decide +kernel
theorem dX4_weaves_30 : decode cX4_weaves 30 = .ok (.iastore, 1) := by decide +kernel
theorem dX4_weaves_31 : decode cX4_weaves 31 = .ok (.iinc 1 1, 3) := by decide +kernel
theorem dX4_weaves_34 : decode cX4_weaves 34 = .ok (.goto (-32), 3) := by decide +kernel
theorem dX4_weaves_37 : decode cX4_weaves 37 = .ok (.return_, 1) := by decide +kernel
theorem dX4_picks_0 : decode cX4_picks 0 = .ok (.aload_n 0, 1) := by decide +kernel
theorem dX4_picks_1 : decode cX4_picks 1 = .ok (.invokevirtual 53, 3) := by decide +kernel
theorem dX4_picks_4 : decode cX4_picks 4 = .ok (.istore_n 2, 1) := by decide +kernel
theorem dX4_picks_5 : decode cX4_picks 5 = .ok (.iconst 0, 1) := by decide +kernel
theorem dX4_picks_6 : decode cX4_picks 6 = .ok (.istore_n 3, 1) := by decide +kernel
theorem dX4_picks_7 : decode cX4_picks 7 = .ok (.iload_n 3, 1) := by decide +kernel
theorem dX4_picks_8 : decode cX4_picks 8 = .ok (.iconst 4, 1) := by decide +kernel
theorem dX4_picks_9 : decode cX4_picks 9 = .ok (.if_icmp .ge 30, 3) := by decide +kernel
theorem dX4_picks_12 : decode cX4_picks 12 = .ok (.iload_n 2, 1) := by decide +kernel
theorem dX4_picks_13 : decode cX4_picks 13 = .ok (.aload_n 0, 1) := by decide +kernel
theorem dX4_picks_14 : decode cX4_picks 14 = .ok (.getfield 13, 3) := by decide +kernel
theorem dX4_picks_17 : decode cX4_picks 17 = .ok (.iconst 2, 1) := by decide +kernel
theorem dX4_picks_18 : decode cX4_picks 18 = .ok (.iload_n 3, 1) := by decide +kernel
theorem dX4_picks_19 : decode cX4_picks 19 = .ok (.imul, 1) := by decide +kernel
theorem dX4_picks_20 : decode cX4_picks 20 = .ok (.iconst 1, 1) := by decide +kernel
theorem dX4_picks_21 : decode cX4_picks 21 = .ok (.iadd, 1) := by decide +kernel
theorem dX4_picks_22 : decode cX4_picks 22 = .ok (.iload_n 1, 1) := by decide +kernel
theorem dX4_picks_23 : decode cX4_picks 23 = .ok (.iload_n 3, 1) := by decide +kernel
theorem dX4_picks_24 : decode cX4_picks 24 = .ok (.ishr, 1) := by decide +kernel
theorem dX4_picks_25 : decode cX4_picks 25 = .ok (.iconst 1, 1) := by decide +kernel
theorem dX4_picks_26 : decode cX4_picks 26 = .ok (.iand, 1) := by decide +kernel
theorem dX4_picks_27 : decode cX4_picks 27 = .ok (.isub, 1) := by decide +kernel
theorem dX4_picks_28 : decode cX4_picks 28 = .ok (.iaload, 1) := by decide +kernel
theorem dX4_picks_29 : decode cX4_picks 29 = .ok (.iconst (-1), 1) := by decide +kernel
theorem dX4_picks_30 : decode cX4_picks 30 = .ok (.ixor, 1) := by decide +kernel
theorem dX4_picks_31 : decode cX4_picks 31 = .ok (.iand, 1) := by decide +kernel
theorem dX4_picks_32 : decode cX4_picks 32 = .ok (.istore_n 2, 1) := by decide +kernel
theorem dX4_picks_33 : decode cX4_picks 33 = .ok (.iinc 3 1, 3) := by decide +kernel
theorem dX4_picks_36 : decode cX4_picks 36 = .ok (.goto (-29), 3) := by decide +kernel
theorem dX4_picks_39 : decode cX4_picks 39 = .ok (.iload_n 2, 1) := by decide +kernel
theorem dX4_picks_40 : decode cX4_picks 40 = .ok (.ireturn, 1) := by decide +kernel
theorem dX4_picked_0 : decode cX4_picked 0 = .ok (.iload_n 1, 1) := by decide +kernel
theorem dX4_picked_1 : decode cX4_picked 1 = .ok (.iconst 0, 1) := by decide +kernel
theorem dX4_picked_2 : decode cX4_picked 2 = .ok (.bipush 15, 2) := by decide +kernel
theorem dX4_picked_4 : decode cX4_picked 4 = .ok (.invokestatic 34, 3) := by decide +kernel
theorem dX4_picked_7 : decode cX4_picked 7 = .ok (.ifCond .ne 6, 3) := by decide +kernel
theorem dX4_picked_10 : decode cX4_picked 10 = .ok (.bipush (-3), 2) := by decide +kernel
theorem dX4_picked_12 : decode cX4_picked 12 = .ok (.ireturn, 1) := by decide +kernel
theorem dX4_picked_13 : decode cX4_picked 13 = .ok (.aload_n 0, 1) := by decide +kernel
theorem dX4_picked_14 : decode cX4_picked 14 = .ok (.invokevirtual 84, 3) := by decide +kernel
theorem dX4_picked_17 : decode cX4_picked 17 = .ok (.aload_n 0, 1) := by decide +kernel
theorem dX4_picked_18 : decode cX4_picked 18 = .ok (.iload_n 1, 1) := by decide +kernel
theorem dX4_picked_19 : decode cX4_picked 19 = .ok (.invokevirtual 87, 3) := by decide +kernel
theorem dX4_picked_22 : decode cX4_picked 22 = .ok (.ireturn, 1) := by decide +kernel
theorem dX4_raw_0 : decode cX4_raw 0 = .ok (.aload_n 0, 1) := by decide +kernel
theorem dX4_raw_1 : decode cX4_raw 1 = .ok (.aload_n 0, 1) := by decide +kernel
theorem dX4_raw_2 : decode cX4_raw 2 = .ok (.getfield 7, 3) := by decide +kernel
theorem dX4_raw_5 : decode cX4_raw 5 = .ok (.iconst 3, 1) := by decide +kernel
theorem dX4_raw_6 : decode cX4_raw 6 = .ok (.iload_n 1, 1) := by decide +kernel
theorem dX4_raw_7 : decode cX4_raw 7 = .ok (.aload_n 0, 1) := by decide +kernel
theorem dX4_raw_8 : decode cX4_raw 8 = .ok (.getfield 7, 3) := by decide +kernel
theorem dX4_raw_11 : decode cX4_raw 11 = .ok (.iconst 2, 1) := by decide +kernel
theorem dX4_raw_12 : decode cX4_raw 12 = .ok (.iaload, 1) := by decide +kernel
theorem dX4_raw_13 : decode cX4_raw 13 = .ok (.idiv, 1) := by decide +kernel
theorem dX4_raw_14 : decode cX4_raw 14 = .ok (.iadd, 1) := by decide +kernel
theorem dX4_raw_15 : decode cX4_raw 15 = .ok (.iaload, 1) := by decide +kernel
theorem dX4_raw_16 : decode cX4_raw 16 = .ok (.invokevirtual 87, 3) := by decide +kernel
theorem dX4_raw_19 : decode cX4_raw 19 = .ok (.istore_n 2, 1) := by decide +kernel
theorem dX4_raw_20 : decode cX4_raw 20 = .ok (.bipush 8, 2) := by decide +kernel
theorem dX4_raw_22 : decode cX4_raw 22 = .ok (.iload_n 1, 1) := by decide +kernel
theorem dX4_raw_23 : decode cX4_raw 23 = .ok (.aload_n 0, 1) := by decide +kernel
theorem dX4_raw_24 : decode cX4_raw 24 = .ok (.getfield 7, 3) := by decide +kernel
theorem dX4_raw_27 : decode cX4_raw 27 = .ok (.iconst 2, 1) := by decide +kernel
theorem dX4_raw_28 : decode cX4_raw 28 = .ok (.iaload, 1) := by decide +kernel
theorem dX4_raw_29 : decode cX4_raw 29 = .ok (.irem, 1) := by decide +kernel
theorem dX4_raw_30 : decode cX4_raw 30 = .ok (.aload_n 0, 1) := by decide +kernel
theorem dX4_raw_31 : decode cX4_raw 31 = .ok (.getfield 7, 3) := by decide +kernel
theorem dX4_raw_34 : decode cX4_raw 34 = .ok (.iconst 1, 1) := by decide +kernel
theorem dX4_raw_35 : decode cX4_raw 35 = .ok (.iaload, 1) := by decide +kernel
theorem dX4_raw_36 : decode cX4_raw 36 = .ok (.iconst 1, 1) := by decide +kernel
theorem dX4_raw_37 : decode cX4_raw 37 = .ok (.iadd, 1) := by decide +kernel
theorem dX4_raw_38 : decode cX4_raw 38 = .ok (.imul, 1) := by decide +kernel
theorem dX4_raw_39 : decode cX4_raw 39 = .ok (.iadd, 1) := by decide +kernel
theorem dX4_raw_40 : decode cX4_raw 40 = .ok (.istore_n 3, 1) := by decide +kernel
theorem dX4_raw_41 : decode cX4_raw 41 = .ok (.iconst 0, 1) := by decide +kernel
theorem dX4_raw_42 : decode cX4_raw 42 = .ok (.istore 4, 2) := by decide +kernel
theorem dX4_raw_44 : decode cX4_raw 44 = .ok (.iconst 0, 1) := by decide +kernel
theorem dX4_raw_45 : decode cX4_raw 45 = .ok (.istore 5, 2) := by decide +kernel
theorem dX4_raw_47 : decode cX4_raw 47 = .ok (.iload 5, 2) := by decide +kernel
theorem dX4_raw_49 : decode cX4_raw 49 = .ok (.aload_n 0, 1) := by decide +kernel
theorem dX4_raw_50 : decode cX4_raw 50 = .ok (.getfield 7, 3) := by decide +kernel
theorem dX4_raw_53 : decode cX4_raw 53 = .ok (.iconst 1, 1) := by decide +kernel
theorem dX4_raw_54 : decode cX4_raw 54 = .ok (.iaload, 1) := by decide +kernel
theorem dX4_raw_55 : decode cX4_raw 55 = .ok (.if_icmp .gt 56, 3) := by decide +kernel
theorem dX4_raw_58 : decode cX4_raw 58 = .ok (.aload_n 0, 1) := by decide +kernel
theorem dX4_raw_59 : decode cX4_raw 59 = .ok (.getfield 13, 3) := by decide +kernel
theorem dX4_raw_62 : decode cX4_raw 62 = .ok (.iload_n 3, 1) := by decide +kernel
theorem dX4_raw_63 : decode cX4_raw 63 = .ok (.iload 5, 2) := by decide +kernel
theorem dX4_raw_65 : decode cX4_raw 65 = .ok (.iadd, 1) := by decide +kernel
theorem dX4_raw_66 : decode cX4_raw 66 = .ok (.iaload, 1) := by decide +kernel
theorem dX4_raw_67 : decode cX4_raw 67 = .ok (.iload_n 2, 1) := by decide +kernel
theorem dX4_raw_68 : decode cX4_raw 68 = .ok (.iand, 1) := by decide +kernel
theorem dX4_raw_69 : decode cX4_raw 69 = .ok (.ifCond .eq 7, 3) := by decide +kernel
theorem dX4_raw_72 : decode cX4_raw 72 = .ok (.iconst 1, 1) := by decide +kernel
theorem dX4_raw_73 : decode cX4_raw 73 = .ok (.goto 4, 3) := by decide +kernel
theorem dX4_raw_76 : decode cX4_raw 76 = .ok (.iconst 0, 1) := by decide +kernel
theorem dX4_raw_77 : decode cX4_raw 77 = .ok (.istore 6, 2) := by decide +kernel
theorem dX4_raw_79 : decode cX4_raw 79 = .ok (.iload 4, 2) := by decide +kernel
theorem dX4_raw_81 : decode cX4_raw 81 = .ok (.iload 6, 2) := by decide +kernel
theorem dX4_raw_83 : decode cX4_raw 83 = .ok (.aload_n 0, 1) := by decide +kernel
theorem dX4_raw_84 : decode cX4_raw 84 = .ok (.getfield 7, 3) := by decide +kernel
theorem dX4_raw_87 : decode cX4_raw 87 = .ok (.bipush 67, 2) := by decide +kernel
theorem dX4_raw_89 : decode cX4_raw 89 = .ok (.iload_n 3, 1) := by decide +kernel
theorem dX4_raw_90 : decode cX4_raw 90 = .ok (.iadd, 1) := by decide +kernel
theorem dX4_raw_91 : decode cX4_raw 91 = .ok (.iload 5, 2) := by decide +kernel
theorem dX4_raw_93 : decode cX4_raw 93 = .ok (.iadd, 1) := by decide +kernel
theorem dX4_raw_94 : decode cX4_raw 94 = .ok (.bipush 8, 2) := by decide +kernel
theorem dX4_raw_96 : decode cX4_raw 96 = .ok (.isub, 1) := by decide +kernel
theorem dX4_raw_97 : decode cX4_raw 97 = .ok (.iaload, 1) := by decide +kernel
theorem dX4_raw_98 : decode cX4_raw 98 = .ok (.ixor, 1) := by decide +kernel
theorem dX4_raw_99 : decode cX4_raw 99 = .ok (.iload 5, 2) := by decide +kernel
theorem dX4_raw_101 : decode cX4_raw 101 = .ok (.ishl, 1) := by decide +kernel
theorem dX4_raw_102 : decode cX4_raw 102 = .ok (.ior, 1) := by decide +kernel
theorem dX4_raw_103 : decode cX4_raw 103 = .ok (.istore 4, 2) := by decide +kernel
theorem dX4_raw_105 : decode cX4_raw 105 = .ok (.iinc 5 1, 3) := by decide +kernel
theorem dX4_raw_108 : decode cX4_raw 108 = .ok (.goto (-61), 3) := by decide +kernel
theorem dX4_raw_111 : decode cX4_raw 111 = .ok (.iload 4, 2) := by decide +kernel
theorem dX4_raw_113 : decode cX4_raw 113 = .ok (.ireturn, 1) := by decide +kernel
theorem dX4_rawWord_0 : decode cX4_rawWord 0 = .ok (.aload_n 0, 1) := by decide +kernel
theorem dX4_rawWord_1 : decode cX4_rawWord 1 = .ok (.iload_n 1, 1) := by decide +kernel
theorem dX4_rawWord_2 : decode cX4_rawWord 2 = .ok (.invokevirtual 90, 3) := by decide +kernel
theorem dX4_rawWord_5 : decode cX4_rawWord 5 = .ok (.iconst 1, 1) := by decide +kernel
theorem dX4_rawWord_6 : decode cX4_rawWord 6 = .ok (.aload_n 0, 1) := by decide +kernel
theorem dX4_rawWord_7 : decode cX4_rawWord 7 = .ok (.getfield 7, 3) := by decide +kernel
theorem dX4_rawWord_10 : decode cX4_rawWord 10 = .ok (.iconst 1, 1) := by decide +kernel
theorem dX4_rawWord_11 : decode cX4_rawWord 11 = .ok (.iaload, 1) := by decide +kernel
theorem dX4_rawWord_12 : decode cX4_rawWord 12 = .ok (.ishl, 1) := by decide +kernel
theorem dX4_rawWord_13 : decode cX4_rawWord 13 = .ok (.iconst 1, 1) := by decide +kernel
theorem dX4_rawWord_14 : decode cX4_rawWord 14 = .ok (.isub, 1) := by decide +kernel
theorem dX4_rawWord_15 : decode cX4_rawWord 15 = .ok (.iand, 1) := by decide +kernel
theorem dX4_rawWord_16 : decode cX4_rawWord 16 = .ok (.ireturn, 1) := by decide +kernel
theorem dX4_reads_0 : decode cX4_reads 0 = .ok (.aload_n 0, 1) := by decide +kernel
theorem dX4_reads_1 : decode cX4_reads 1 = .ok (.getfield 7, 3) := by decide +kernel
theorem dX4_reads_4 : decode cX4_reads 4 = .ok (.sipush 141, 3) := by decide +kernel
theorem dX4_reads_7 : decode cX4_reads 7 = .ok (.iload_n 1, 1) := by decide +kernel
theorem dX4_reads_8 : decode cX4_reads 8 = .ok (.iadd, 1) := by decide +kernel
theorem dX4_reads_9 : decode cX4_reads 9 = .ok (.iaload, 1) := by decide +kernel
theorem dX4_reads_10 : decode cX4_reads 10 = .ok (.iconst (-1), 1) := by decide +kernel
theorem dX4_reads_11 : decode cX4_reads 11 = .ok (.if_icmp .eq 16, 3) := by decide +kernel
theorem dX4_reads_14 : decode cX4_reads 14 = .ok (.aload_n 0, 1) := by decide +kernel
theorem dX4_reads_15 : decode cX4_reads 15 = .ok (.getfield 7, 3) := by decide +kernel
theorem dX4_reads_18 : decode cX4_reads 18 = .ok (.sipush 141, 3) := by decide +kernel
theorem dX4_reads_21 : decode cX4_reads 21 = .ok (.iload_n 1, 1) := by decide +kernel
theorem dX4_reads_22 : decode cX4_reads 22 = .ok (.iadd, 1) := by decide +kernel
theorem dX4_reads_23 : decode cX4_reads 23 = .ok (.iaload, 1) := by decide +kernel
theorem dX4_reads_24 : decode cX4_reads 24 = .ok (.goto 8, 3) := by decide +kernel
theorem dX4_reads_27 : decode cX4_reads 27 = .ok (.aload_n 0, 1) := by decide +kernel
theorem dX4_reads_28 : decode cX4_reads 28 = .ok (.iload_n 1, 1) := by decide +kernel
theorem dX4_reads_29 : decode cX4_reads 29 = .ok (.invokevirtual 93, 3) := by decide +kernel
theorem dX4_reads_32 : decode cX4_reads 32 = .ok (.ireturn, 1) := by decide +kernel
theorem dX4_isEven_0 : decode cX4_isEven 0 = .ok (.aload_n 0, 1) := by decide +kernel
theorem dX4_isEven_1 : decode cX4_isEven 1 = .ok (.getfield 7, 3) := by decide +kernel
theorem dX4_isEven_4 : decode cX4_isEven 4 = .ok (.sipush 141, 3) := by decide +kernel
theorem dX4_isEven_7 : decode cX4_isEven 7 = .ok (.iload_n 1, 1) := by decide +kernel
theorem dX4_isEven_8 : decode cX4_isEven 8 = .ok (.iadd, 1) := by decide +kernel
theorem dX4_isEven_9 : decode cX4_isEven 9 = .ok (.iaload, 1) := by decide +kernel
theorem dX4_isEven_10 : decode cX4_isEven 10 = .ok (.iconst (-1), 1) := by decide +kernel
theorem dX4_isEven_11 : decode cX4_isEven 11 = .ok (.if_icmp .ne 20, 3) := by decide +kernel
theorem dX4_isEven_14 : decode cX4_isEven 14 = .ok (.aload_n 0, 1) := by decide +kernel
theorem dX4_isEven_15 : decode cX4_isEven 15 = .ok (.iload_n 1, 1) := by decide +kernel
theorem dX4_isEven_16 : decode cX4_isEven 16 = .ok (.invokevirtual 90, 3) := by decide +kernel
theorem dX4_isEven_19 : decode cX4_isEven 19 = .ok (.invokestatic 45, 3) := by decide +kernel
theorem dX4_isEven_22 : decode cX4_isEven 22 = .ok (.iconst 2, 1) := by decide +kernel
theorem dX4_isEven_23 : decode cX4_isEven 23 = .ok (.irem, 1) := by decide +kernel
theorem dX4_isEven_24 : decode cX4_isEven 24 = .ok (.ifCond .ne 7, 3) := by decide +kernel
theorem dX4_isEven_27 : decode cX4_isEven 27 = .ok (.iconst 1, 1) := by decide +kernel
theorem dX4_isEven_28 : decode cX4_isEven 28 = .ok (.goto 4, 3) := by decide +kernel
theorem dX4_isEven_31 : decode cX4_isEven 31 = .ok (.iconst 0, 1) := by decide +kernel
theorem dX4_isEven_32 : decode cX4_isEven 32 = .ok (.ireturn, 1) := by decide +kernel
theorem dX4_read_0 : decode cX4_read 0 = .ok (.aload_n 0, 1) := by decide +kernel
theorem dX4_read_1 : decode cX4_read 1 = .ok (.iload_n 1, 1) := by decide +kernel
theorem dX4_read_2 : decode cX4_read 2 = .ok (.invokevirtual 75, 3) := by decide +kernel
theorem dX4_read_5 : decode cX4_read 5 = .ok (.ifCond .ne 6, 3) := by decide +kernel
theorem dX4_read_8 : decode cX4_read 8 = .ok (.bipush (-2), 2) := by decide +kernel
theorem dX4_read_10 : decode cX4_read 10 = .ok (.ireturn, 1) := by decide +kernel
theorem dX4_read_11 : decode cX4_read 11 = .ok (.aload_n 0, 1) := by decide +kernel
theorem dX4_read_12 : decode cX4_read 12 = .ok (.invokevirtual 84, 3) := by decide +kernel
theorem dX4_read_15 : decode cX4_read 15 = .ok (.aload_n 0, 1) := by decide +kernel
theorem dX4_read_16 : decode cX4_read 16 = .ok (.iload_n 1, 1) := by decide +kernel
theorem dX4_read_17 : decode cX4_read 17 = .ok (.invokevirtual 96, 3) := by decide +kernel
theorem dX4_read_20 : decode cX4_read 20 = .ok (.ireturn, 1) := by decide +kernel
theorem dX4_readRaw_0 : decode cX4_readRaw 0 = .ok (.aload_n 0, 1) := by decide +kernel
theorem dX4_readRaw_1 : decode cX4_readRaw 1 = .ok (.iload_n 1, 1) := by decide +kernel
theorem dX4_readRaw_2 : decode cX4_readRaw 2 = .ok (.invokevirtual 75, 3) := by decide +kernel
theorem dX4_readRaw_5 : decode cX4_readRaw 5 = .ok (.ifCond .ne 6, 3) := by decide +kernel
theorem dX4_readRaw_8 : decode cX4_readRaw 8 = .ok (.bipush (-2), 2) := by decide +kernel
theorem dX4_readRaw_10 : decode cX4_readRaw 10 = .ok (.ireturn, 1) := by decide +kernel
theorem dX4_readRaw_11 : decode cX4_readRaw 11 = .ok (.aload_n 0, 1) := by decide +kernel
theorem dX4_readRaw_12 : decode cX4_readRaw 12 = .ok (.invokevirtual 84, 3) := by decide +kernel
theorem dX4_readRaw_15 : decode cX4_readRaw 15 = .ok (.aload_n 0, 1) := by decide +kernel
theorem dX4_readRaw_16 : decode cX4_readRaw 16 = .ok (.iload_n 1, 1) := by decide +kernel
theorem dX4_readRaw_17 : decode cX4_readRaw 17 = .ok (.invokevirtual 93, 3) := by decide +kernel
theorem dX4_readRaw_20 : decode cX4_readRaw 20 = .ok (.ireturn, 1) := by decide +kernel
theorem dX4_parity_0 : decode cX4_parity 0 = .ok (.aload_n 0, 1) := by decide +kernel
theorem dX4_parity_1 : decode cX4_parity 1 = .ok (.iload_n 1, 1) := by decide +kernel
theorem dX4_parity_2 : decode cX4_parity 2 = .ok (.invokevirtual 75, 3) := by decide +kernel
theorem dX4_parity_5 : decode cX4_parity 5 = .ok (.ifCond .ne 6, 3) := by decide +kernel
theorem dX4_parity_8 : decode cX4_parity 8 = .ok (.bipush (-2), 2) := by decide +kernel
theorem dX4_parity_10 : decode cX4_parity 10 = .ok (.ireturn, 1) := by decide +kernel
theorem dX4_parity_11 : decode cX4_parity 11 = .ok (.aload_n 0, 1) := by decide +kernel
theorem dX4_parity_12 : decode cX4_parity 12 = .ok (.invokevirtual 84, 3) := by decide +kernel
theorem dX4_parity_15 : decode cX4_parity 15 = .ok (.aload_n 0, 1) := by decide +kernel
theorem dX4_parity_16 : decode cX4_parity 16 = .ok (.iload_n 1, 1) := by decide +kernel
theorem dX4_parity_17 : decode cX4_parity 17 = .ok (.invokevirtual 99, 3) := by decide +kernel
theorem dX4_parity_20 : decode cX4_parity 20 = .ok (.ifCond .eq 7, 3) := by decide +kernel
theorem dX4_parity_23 : decode cX4_parity 23 = .ok (.iconst 0, 1) := by decide +kernel
theorem dX4_parity_24 : decode cX4_parity 24 = .ok (.goto 4, 3) := by decide +kernel
theorem dX4_parity_27 : decode cX4_parity 27 = .ok (.iconst 1, 1) := by decide +kernel
theorem dX4_parity_28 : decode cX4_parity 28 = .ok (.ireturn, 1) := by decide +kernel
theorem dX4_wrongs_0 : decode cX4_wrongs 0 = .ok (.aload_n 0, 1) := by decide +kernel
theorem dX4_wrongs_1 : decode cX4_wrongs 1 = .ok (.invokevirtual 84, 3) := by decide +kernel
theorem dX4_wrongs_4 : decode cX4_wrongs 4 = .ok (.iconst 0, 1) := by decide +kernel
theorem dX4_wrongs_5 : decode cX4_wrongs 5 = .ok (.istore_n 2, 1) := by decide +kernel
theorem dX4_wrongs_6 : decode cX4_wrongs 6 = .ok (.iconst 0, 1) := by decide +kernel
theorem dX4_wrongs_7 : decode cX4_wrongs 7 = .ok (.istore_n 3, 1) := by decide +kernel
theorem dX4_wrongs_8 : decode cX4_wrongs 8 = .ok (.iload_n 3, 1) := by decide +kernel
theorem dX4_wrongs_9 : decode cX4_wrongs 9 = .ok (.aload_n 0, 1) := by decide +kernel
theorem dX4_wrongs_10 : decode cX4_wrongs 10 = .ok (.invokevirtual 42, 3) := by decide +kernel
theorem dX4_wrongs_13 : decode cX4_wrongs 13 = .ok (.if_icmp .ge 118, 3) := by decide +kernel
theorem dX4_wrongs_16 : decode cX4_wrongs 16 = .ok (.aload_n 0, 1) := by decide +kernel
theorem dX4_wrongs_17 : decode cX4_wrongs 17 = .ok (.iload_n 3, 1) := by decide +kernel
theorem dX4_wrongs_18 : decode cX4_wrongs 18 = .ok (.invokevirtual 96, 3) := by decide +kernel
theorem dX4_wrongs_21 : decode cX4_wrongs 21 = .ok (.aload_n 0, 1) := by decide +kernel
theorem dX4_wrongs_22 : decode cX4_wrongs 22 = .ok (.getfield 7, 3) := by decide +kernel
theorem dX4_wrongs_25 : decode cX4_wrongs 25 = .ok (.bipush 19, 2) := by decide +kernel
theorem dX4_wrongs_27 : decode cX4_wrongs 27 = .ok (.iload_n 3, 1) := by decide +kernel
theorem dX4_wrongs_28 : decode cX4_wrongs 28 = .ok (.iadd, 1) := by decide +kernel
theorem dX4_wrongs_29 : decode cX4_wrongs 29 = .ok (.iaload, 1) := by decide +kernel
theorem dX4_wrongs_30 : decode cX4_wrongs 30 = .ok (.if_icmp .eq 7, 3) := by decide +kernel
theorem dX4_wrongs_33 : decode cX4_wrongs 33 = .ok (.iconst 1, 1) := by decide +kernel
theorem dX4_wrongs_34 : decode cX4_wrongs 34 = .ok (.goto 4, 3) := by decide +kernel
theorem dX4_wrongs_37 : decode cX4_wrongs 37 = .ok (.iconst 0, 1) := by decide +kernel
theorem dX4_wrongs_38 : decode cX4_wrongs 38 = .ok (.istore 4, 2) := by decide +kernel
theorem dX4_wrongs_40 : decode cX4_wrongs 40 = .ok (.iload_n 1, 1) := by decide +kernel
theorem dX4_wrongs_41 : decode cX4_wrongs 41 = .ok (.ifCond .ne 8, 3) := by decide +kernel
theorem dX4_wrongs_44 : decode cX4_wrongs 44 = .ok (.iload 4, 2) := by decide +kernel
theorem dX4_wrongs_46 : decode cX4_wrongs 46 = .ok (.goto 64, 3) := by decide +kernel
theorem dX4_wrongs_49 : decode cX4_wrongs 49 = .ok (.iload_n 1, 1) := by decide +kernel
theorem dX4_wrongs_50 : decode cX4_wrongs 50 = .ok (.iconst 1, 1) := by decide +kernel
theorem dX4_wrongs_51 : decode cX4_wrongs 51 = .ok (.if_icmp .ne 11, 3) := by decide +kernel
theorem dX4_wrongs_54 : decode cX4_wrongs 54 = .ok (.aload_n 0, 1) := by decide +kernel
theorem dX4_wrongs_55 : decode cX4_wrongs 55 = .ok (.iload_n 3, 1) := by decide +kernel
theorem dX4_wrongs_56 : decode cX4_wrongs 56 = .ok (.invokevirtual 99, 3) := by decide +kernel
theorem dX4_wrongs_59 : decode cX4_wrongs 59 = .ok (.goto 51, 3) := by decide +kernel
theorem dX4_wrongs_62 : decode cX4_wrongs 62 = .ok (.iload_n 1, 1) := by decide +kernel
theorem dX4_wrongs_63 : decode cX4_wrongs 63 = .ok (.iconst 2, 1) := by decide +kernel
theorem dX4_wrongs_64 : decode cX4_wrongs 64 = .ok (.if_icmp .ne 24, 3) := by decide +kernel
theorem dX4_wrongs_67 : decode cX4_wrongs 67 = .ok (.iload 4, 2) := by decide +kernel
theorem dX4_wrongs_69 : decode cX4_wrongs 69 = .ok (.ifCond .eq 15, 3) := by decide +kernel
theorem dX4_wrongs_72 : decode cX4_wrongs 72 = .ok (.aload_n 0, 1) := by decide +kernel
theorem dX4_wrongs_73 : decode cX4_wrongs 73 = .ok (.iload_n 3, 1) := by decide +kernel
theorem dX4_wrongs_74 : decode cX4_wrongs 74 = .ok (.invokevirtual 99, 3) := by decide +kernel
theorem dX4_wrongs_77 : decode cX4_wrongs 77 = .ok (.ifCond .ne 7, 3) := by decide +kernel
theorem dX4_wrongs_80 : decode cX4_wrongs 80 = .ok (.iconst 1, 1) := by decide +kernel
theorem dX4_wrongs_81 : decode cX4_wrongs 81 = .ok (.goto 29, 3) := by decide +kernel
theorem dX4_wrongs_84 : decode cX4_wrongs 84 = .ok (.iconst 0, 1) := by decide +kernel
theorem dX4_wrongs_85 : decode cX4_wrongs 85 = .ok (.goto 25, 3) := by decide +kernel
theorem dX4_wrongs_88 : decode cX4_wrongs 88 = .ok (.aload_n 0, 1) := by decide +kernel
theorem dX4_wrongs_89 : decode cX4_wrongs 89 = .ok (.iload_n 3, 1) := by decide +kernel
theorem dX4_wrongs_90 : decode cX4_wrongs 90 = .ok (.invokevirtual 93, 3) := by decide +kernel
theorem dX4_wrongs_93 : decode cX4_wrongs 93 = .ok (.aload_n 0, 1) := by decide +kernel
theorem dX4_wrongs_94 : decode cX4_wrongs 94 = .ok (.getfield 7, 3) := by decide +kernel
theorem dX4_wrongs_97 : decode cX4_wrongs 97 = .ok (.bipush 19, 2) := by decide +kernel
theorem dX4_wrongs_99 : decode cX4_wrongs 99 = .ok (.iload_n 3, 1) := by decide +kernel
theorem dX4_wrongs_100 : decode cX4_wrongs 100 = .ok (.iadd, 1) := by decide +kernel
theorem dX4_wrongs_101 : decode cX4_wrongs 101 = .ok (.iaload, 1) := by decide +kernel
theorem dX4_wrongs_102 : decode cX4_wrongs 102 = .ok (.if_icmp .eq 7, 3) := by decide +kernel
theorem dX4_wrongs_105 : decode cX4_wrongs 105 = .ok (.iconst 1, 1) := by decide +kernel
theorem dX4_wrongs_106 : decode cX4_wrongs 106 = .ok (.goto 4, 3) := by decide +kernel
theorem dX4_wrongs_109 : decode cX4_wrongs 109 = .ok (.iconst 0, 1) := by decide +kernel
theorem dX4_wrongs_110 : decode cX4_wrongs 110 = .ok (.istore 5, 2) := by decide +kernel
theorem dX4_wrongs_112 : decode cX4_wrongs 112 = .ok (.iload_n 2, 1) := by decide +kernel
theorem dX4_wrongs_113 : decode cX4_wrongs 113 = .ok (.iload 5, 2) := by decide +kernel
theorem dX4_wrongs_115 : decode cX4_wrongs 115 = .ok (.ifCond .eq 7, 3) := by decide +kernel
theorem dX4_wrongs_118 : decode cX4_wrongs 118 = .ok (.iconst 1, 1) := by decide +kernel
theorem dX4_wrongs_119 : decode cX4_wrongs 119 = .ok (.goto 4, 3) := by decide +kernel
theorem dX4_wrongs_122 : decode cX4_wrongs 122 = .ok (.iconst 0, 1) := by decide +kernel
theorem dX4_wrongs_123 : decode cX4_wrongs 123 = .ok (.iadd, 1) := by decide +kernel
theorem dX4_wrongs_124 : decode cX4_wrongs 124 = .ok (.istore_n 2, 1) := by decide +kernel
theorem dX4_wrongs_125 : decode cX4_wrongs 125 = .ok (.iinc 3 1, 3) := by decide +kernel
theorem dX4_wrongs_128 : decode cX4_wrongs 128 = .ok (.goto (-120), 3) := by decide +kernel
theorem dX4_wrongs_131 : decode cX4_wrongs 131 = .ok (.iload_n 2, 1) := by decide +kernel
theorem dX4_wrongs_132 : decode cX4_wrongs 132 = .ok (.ireturn, 1) := by decide +kernel
theorem dX4_wrong_0 : decode cX4_wrong 0 = .ok (.iload_n 1, 1) := by decide +kernel
theorem dX4_wrong_1 : decode cX4_wrong 1 = .ok (.iconst 0, 1) := by decide +kernel
theorem dX4_wrong_2 : decode cX4_wrong 2 = .ok (.iconst 3, 1) := by decide +kernel
theorem dX4_wrong_3 : decode cX4_wrong 3 = .ok (.invokestatic 34, 3) := by decide +kernel
theorem dX4_wrong_6 : decode cX4_wrong 6 = .ok (.ifCond .eq 11, 3) := by decide +kernel
theorem dX4_wrong_9 : decode cX4_wrong 9 = .ok (.aload_n 0, 1) := by decide +kernel
theorem dX4_wrong_10 : decode cX4_wrong 10 = .ok (.iload_n 1, 1) := by decide +kernel
theorem dX4_wrong_11 : decode cX4_wrong 11 = .ok (.invokevirtual 102, 3) := by decide +kernel
theorem dX4_wrong_14 : decode cX4_wrong 14 = .ok (.goto 5, 3) := by decide +kernel
theorem dX4_wrong_17 : decode cX4_wrong 17 = .ok (.bipush (-3), 2) := by decide +kernel
theorem dX4_wrong_19 : decode cX4_wrong 19 = .ok (.ireturn, 1) := by decide +kernel
theorem dX4_spoil_0 : decode cX4_spoil 0 = .ok (.aload_n 0, 1) := by decide +kernel
theorem dX4_spoil_1 : decode cX4_spoil 1 = .ok (.iload_n 1, 1) := by decide +kernel
theorem dX4_spoil_2 : decode cX4_spoil 2 = .ok (.invokevirtual 81, 3) := by decide +kernel
theorem dX4_spoil_5 : decode cX4_spoil 5 = .ok (.ifCond .eq 11, 3) := by decide +kernel
theorem dX4_spoil_8 : decode cX4_spoil 8 = .ok (.aload_n 0, 1) := by decide +kernel
theorem dX4_spoil_9 : decode cX4_spoil 9 = .ok (.iload_n 2, 1) := by decide +kernel
theorem dX4_spoil_10 : decode cX4_spoil 10 = .ok (.invokevirtual 71, 3) := by decide +kernel
theorem dX4_spoil_13 : decode cX4_spoil 13 = .ok (.ifCond .ne 6, 3) := by decide +kernel
theorem dX4_spoil_16 : decode cX4_spoil 16 = .ok (.bipush (-2), 2) := by decide +kernel
theorem dX4_spoil_18 : decode cX4_spoil 18 = .ok (.ireturn, 1) := by decide +kernel
theorem dX4_spoil_19 : decode cX4_spoil 19 = .ok (.aload_n 0, 1) := by decide +kernel
theorem dX4_spoil_20 : decode cX4_spoil 20 = .ok (.invokevirtual 62, 3) := by decide +kernel
theorem dX4_spoil_23 : decode cX4_spoil 23 = .ok (.aload_n 0, 1) := by decide +kernel
theorem dX4_spoil_24 : decode cX4_spoil 24 = .ok (.getfield 7, 3) := by decide +kernel
theorem dX4_spoil_27 : decode cX4_spoil 27 = .ok (.bipush 100, 2) := by decide +kernel
theorem dX4_spoil_29 : decode cX4_spoil 29 = .ok (.iload_n 1, 1) := by decide +kernel
theorem dX4_spoil_30 : decode cX4_spoil 30 = .ok (.iadd, 1) := by decide +kernel
theorem dX4_spoil_31 : decode cX4_spoil 31 = .ok (.dup2, 1) := by decide +kernel
theorem dX4_spoil_32 : decode cX4_spoil 32 = .ok (.iaload, 1) := by decide +kernel
theorem dX4_spoil_33 : decode cX4_spoil 33 = .ok (.iconst 1, 1) := by decide +kernel
theorem dX4_spoil_34 : decode cX4_spoil 34 = .ok (.iload_n 2, 1) := by decide +kernel
theorem dX4_spoil_35 : decode cX4_spoil 35 = .ok (.ishl, 1) := by decide +kernel
theorem dX4_spoil_36 : decode cX4_spoil 36 = .ok (.ixor, 1) := by decide +kernel
theorem dX4_spoil_37 : decode cX4_spoil 37 = .ok (.iastore, 1) := by decide +kernel
theorem dX4_spoil_38 : decode cX4_spoil 38 = .ok (.aload_n 0, 1) := by decide +kernel
theorem dX4_spoil_39 : decode cX4_spoil 39 = .ok (.getfield 7, 3) := by decide +kernel
theorem dX4_spoil_42 : decode cX4_spoil 42 = .ok (.bipush 100, 2) := by decide +kernel
theorem dX4_spoil_44 : decode cX4_spoil 44 = .ok (.iload_n 1, 1) := by decide +kernel
theorem dX4_spoil_45 : decode cX4_spoil 45 = .ok (.iadd, 1) := by decide +kernel
theorem dX4_spoil_46 : decode cX4_spoil 46 = .ok (.iaload, 1) := by decide +kernel
theorem dX4_spoil_47 : decode cX4_spoil 47 = .ok (.iload_n 2, 1) := by decide +kernel
theorem dX4_spoil_48 : decode cX4_spoil 48 = .ok (.ishr, 1) := by decide +kernel
theorem dX4_spoil_49 : decode cX4_spoil 49 = .ok (.iconst 1, 1) := by decide +kernel
theorem dX4_spoil_50 : decode cX4_spoil 50 = .ok (.iand, 1) := by decide +kernel
theorem dX4_spoil_51 : decode cX4_spoil 51 = .ok (.ireturn, 1) := by decide +kernel
theorem dX4_isAsNow_0 : decode cX4_isAsNow 0 = .ok (.iconst 1, 1) := by decide +kernel
theorem dX4_isAsNow_1 : decode cX4_isAsNow 1 = .ok (.istore_n 1, 1) := by decide +kernel
theorem dX4_isAsNow_2 : decode cX4_isAsNow 2 = .ok (.iconst 0, 1) := by decide +kernel
theorem dX4_isAsNow_3 : decode cX4_isAsNow 3 = .ok (.istore_n 2, 1) := by decide +kernel
theorem dX4_isAsNow_4 : decode cX4_isAsNow 4 = .ok (.iload_n 2, 1) := by decide +kernel
theorem dX4_isAsNow_5 : decode cX4_isAsNow 5 = .ok (.aload_n 0, 1) := by decide +kernel
theorem dX4_isAsNow_6 : decode cX4_isAsNow 6 = .ok (.invokevirtual 42, 3) := by decide +kernel
theorem dX4_isAsNow_9 : decode cX4_isAsNow 9 = .ok (.if_icmp .ge 33, 3) := by decide +kernel
theorem dX4_isAsNow_12 : decode cX4_isAsNow 12 = .ok (.iload_n 1, 1) := by decide +kernel
theorem dX4_isAsNow_13 : decode cX4_isAsNow 13 = .ok (.ifCond .eq 29, 3) := by decide +kernel
theorem dX4_isAsNow_16 : decode cX4_isAsNow 16 = .ok (.aload_n 0, 1) := by decide +kernel
theorem dX4_isAsNow_17 : decode cX4_isAsNow 17 = .ok (.iload_n 2, 1) := by decide +kernel
theorem dX4_isAsNow_18 : decode cX4_isAsNow 18 = .ok (.invokevirtual 90, 3) := by decide +kernel
theorem dX4_isAsNow_21 : decode cX4_isAsNow 21 = .ok (.aload_n 0, 1) := by decide +kernel
theorem dX4_isAsNow_22 : decode cX4_isAsNow 22 = .ok (.getfield 16, 3) := by decide +kernel
theorem dX4_isAsNow_25 : decode cX4_isAsNow 25 = .ok (.iload_n 2, 1) := by decide +kernel
theorem dX4_isAsNow_26 : decode cX4_isAsNow 26 = .ok (.iaload, 1) := by decide +kernel
theorem dX4_isAsNow_27 : decode cX4_isAsNow 27 = .ok (.if_icmp .ne 7, 3) := by decide +kernel
theorem dX4_isAsNow_30 : decode cX4_isAsNow 30 = .ok (.iconst 1, 1) := by decide +kernel
theorem dX4_isAsNow_31 : decode cX4_isAsNow 31 = .ok (.goto 4, 3) := by decide +kernel
theorem dX4_isAsNow_34 : decode cX4_isAsNow 34 = .ok (.iconst 0, 1) := by decide +kernel
theorem dX4_isAsNow_35 : decode cX4_isAsNow 35 = .ok (.istore_n 1, 1) := by decide +kernel
theorem dX4_isAsNow_36 : decode cX4_isAsNow 36 = .ok (.iinc 2 1, 3) := by decide +kernel
theorem dX4_isAsNow_39 : decode cX4_isAsNow 39 = .ok (.goto (-35), 3) := by decide +kernel
theorem dX4_isAsNow_42 : decode cX4_isAsNow 42 = .ok (.iload_n 1, 1) := by decide +kernel
theorem dX4_isAsNow_43 : decode cX4_isAsNow 43 = .ok (.ireturn, 1) := by decide +kernel
theorem dX4_explains_0 : decode cX4_explains 0 = .ok (.iload_n 1, 1) := by decide +kernel
theorem dX4_explains_1 : decode cX4_explains 1 = .ok (.ifCond .ge 6, 3) := by decide +kernel
theorem dX4_explains_4 : decode cX4_explains 4 = .ok (.bipush (-3), 2) := by decide +kernel
theorem dX4_explains_6 : decode cX4_explains 6 = .ok (.ireturn, 1) := by decide +kernel
theorem dX4_explains_7 : decode cX4_explains 7 = .ok (.aload_n 0, 1) := by decide +kernel
theorem dX4_explains_8 : decode cX4_explains 8 = .ok (.invokevirtual 84, 3) := by decide +kernel
theorem dX4_explains_11 : decode cX4_explains 11 = .ok (.iconst 0, 1) := by decide +kernel
theorem dX4_explains_12 : decode cX4_explains 12 = .ok (.istore_n 2, 1) := by decide +kernel
theorem dX4_explains_13 : decode cX4_explains 13 = .ok (.iload_n 2, 1) := by decide +kernel
theorem dX4_explains_14 : decode cX4_explains 14 = .ok (.aload_n 0, 1) := by decide +kernel
theorem dX4_explains_15 : decode cX4_explains 15 = .ok (.invokevirtual 42, 3) := by decide +kernel
theorem dX4_explains_18 : decode cX4_explains 18 = .ok (.if_icmp .ge 20, 3) := by decide +kernel
theorem dX4_explains_21 : decode cX4_explains 21 = .ok (.aload_n 0, 1) := by decide +kernel
theorem dX4_explains_22 : decode cX4_explains 22 = .ok (.getfield 16, 3) := by decide +kernel
theorem dX4_explains_25 : decode cX4_explains 25 = .ok (.iload_n 2, 1) := by decide +kernel
theorem dX4_explains_26 : decode cX4_explains 26 = .ok (.aload_n 0, 1) := by decide +kernel
theorem dX4_explains_27 : decode cX4_explains 27 = .ok (.iload_n 2, 1) := by decide +kernel
theorem dX4_explains_28 : decode cX4_explains 28 = .ok (.invokevirtual 90, 3) := by decide +kernel
theorem dX4_explains_31 : decode cX4_explains 31 = .ok (.iastore, 1) := by decide +kernel
theorem dX4_explains_32 : decode cX4_explains 32 = .ok (.iinc 2 1, 3) := by decide +kernel
theorem dX4_explains_35 : decode cX4_explains 35 = .ok (.goto (-22), 3) := by decide +kernel
theorem dX4_explains_38 : decode cX4_explains 38 = .ok (.iconst 0, 1) := by decide +kernel
theorem dX4_explains_39 : decode cX4_explains 39 = .ok (.istore_n 2, 1) := by decide +kernel
theorem dX4_explains_40 : decode cX4_explains 40 = .ok (.iload_n 2, 1) := by decide +kernel
theorem dX4_explains_41 : decode cX4_explains 41 = .ok (.aload_n 0, 1) := by decide +kernel
theorem dX4_explains_42 : decode cX4_explains 42 = .ok (.invokevirtual 38, 3) := by decide +kernel
theorem dX4_explains_45 : decode cX4_explains 45 = .ok (.if_icmp .ge 20, 3) := by decide +kernel
theorem dX4_explains_48 : decode cX4_explains 48 = .ok (.aload_n 0, 1) := by decide +kernel
theorem dX4_explains_49 : decode cX4_explains 49 = .ok (.getfield 13, 3) := by decide +kernel
theorem dX4_explains_52 : decode cX4_explains 52 = .ok (.iload_n 2, 1) := by decide +kernel
theorem dX4_explains_53 : decode cX4_explains 53 = .ok (.aload_n 0, 1) := by decide +kernel
theorem dX4_explains_54 : decode cX4_explains 54 = .ok (.iload_n 2, 1) := by decide +kernel
theorem dX4_explains_55 : decode cX4_explains 55 = .ok (.invokevirtual 59, 3) := by decide +kernel
theorem dX4_explains_58 : decode cX4_explains 58 = .ok (.iastore, 1) := by decide +kernel
theorem dX4_explains_59 : decode cX4_explains 59 = .ok (.iinc 2 1, 3) := by decide +kernel
theorem dX4_explains_62 : decode cX4_explains 62 = .ok (.goto (-22), 3) := by decide +kernel
theorem dX4_explains_65 : decode cX4_explains 65 = .ok (.iload_n 1, 1) := by decide +kernel
theorem dX4_explains_66 : decode cX4_explains 66 = .ok (.istore_n 2, 1) := by decide +kernel
theorem dX4_explains_67 : decode cX4_explains 67 = .ok (.iconst (-1), 1) := by decide +kernel
theorem dX4_explains_68 : decode cX4_explains 68 = .ok (.istore_n 3, 1) := by decide +kernel
theorem dX4_explains_69 : decode cX4_explains 69 = .ok (.iconst 0, 1) := by decide +kernel
theorem dX4_explains_70 : decode cX4_explains 70 = .ok (.istore 4, 2) := by decide +kernel
theorem dX4_explains_72 : decode cX4_explains 72 = .ok (.iload 4, 2) := by decide +kernel
theorem dX4_explains_74 : decode cX4_explains 74 = .ok (.aload_n 0, 1) := by decide +kernel
theorem dX4_explains_75 : decode cX4_explains 75 = .ok (.invokevirtual 38, 3) := by decide +kernel
theorem dX4_explains_78 : decode cX4_explains 78 = .ok (.if_icmp .ge 108, 3) := by decide +kernel
theorem dX4_explains_81 : decode cX4_explains 81 = .ok (.iload_n 3, 1) := by decide +kernel
theorem dX4_explains_82 : decode cX4_explains 82 = .ok (.iconst (-1), 1) := by decide +kernel
theorem dX4_explains_83 : decode cX4_explains 83 = .ok (.if_icmp .ne 103, 3) := by decide +kernel
theorem dX4_explains_86 : decode cX4_explains 86 = .ok (.iconst 0, 1) := by decide +kernel
theorem dX4_explains_87 : decode cX4_explains 87 = .ok (.istore 5, 2) := by decide +kernel
theorem dX4_explains_89 : decode cX4_explains 89 = .ok (.iload 5, 2) := by decide +kernel
theorem dX4_explains_91 : decode cX4_explains 91 = .ok (.aload_n 0, 1) := by decide +kernel
theorem dX4_explains_92 : decode cX4_explains 92 = .ok (.getfield 7, 3) := by decide +kernel
theorem dX4_explains_95 : decode cX4_explains 95 = .ok (.iconst 0, 1) := by decide +kernel
theorem dX4_explains_96 : decode cX4_explains 96 = .ok (.iaload, 1) := by decide +kernel
theorem dX4_explains_97 : decode cX4_explains 97 = .ok (.if_icmp .ge 83, 3) := by decide +kernel
theorem dX4_explains_100 : decode cX4_explains 100 = .ok (.iload_n 3, 1) := by decide +kernel
theorem dX4_explains_101 : decode cX4_explains 101 = .ok (.iconst (-1), 1) := by decide +kernel
theorem dX4_explains_102 : decode cX4_explains 102 = .ok (.if_icmp .ne 78, 3) := by decide +kernel
theorem dX4_explains_105 : decode cX4_explains 105 = .ok (.aload_n 0, 1) := by decide +kernel
theorem dX4_explains_106 : decode cX4_explains 106 = .ok (.getfield 13, 3) := by decide +kernel
theorem dX4_explains_109 : decode cX4_explains 109 = .ok (.iload 4, 2) := by decide +kernel
theorem dX4_explains_111 : decode cX4_explains 111 = .ok (.dup2, 1) := by decide +kernel
theorem dX4_explains_112 : decode cX4_explains 112 = .ok (.iaload, 1) := by decide +kernel
theorem dX4_explains_113 : decode cX4_explains 113 = .ok (.iconst 1, 1) := by decide +kernel
theorem dX4_explains_114 : decode cX4_explains 114 = .ok (.iload 5, 2) := by decide +kernel
theorem dX4_explains_116 : decode cX4_explains 116 = .ok (.ishl, 1) := by decide +kernel
theorem dX4_explains_117 : decode cX4_explains 117 = .ok (.ixor, 1) := by decide +kernel
theorem dX4_explains_118 : decode cX4_explains 118 = .ok (.iastore, 1) := by decide +kernel
theorem dX4_explains_119 : decode cX4_explains 119 = .ok (.aload_n 0, 1) := by decide +kernel
theorem dX4_explains_120 : decode cX4_explains 120 = .ok (.invokevirtual 105, 3) := by decide +kernel
theorem dX4_explains_123 : decode cX4_explains 123 = .ok (.istore 6, 2) := by decide +kernel
theorem dX4_explains_125 : decode cX4_explains 125 = .ok (.aload_n 0, 1) := by decide +kernel
theorem dX4_explains_126 : decode cX4_explains 126 = .ok (.getfield 13, 3) := by decide +kernel
theorem dX4_explains_129 : decode cX4_explains 129 = .ok (.iload 4, 2) := by decide +kernel
theorem dX4_explains_131 : decode cX4_explains 131 = .ok (.dup2, 1) := by decide +kernel
theorem dX4_explains_132 : decode cX4_explains 132 = .ok (.iaload, 1) := by decide +kernel
theorem dX4_explains_133 : decode cX4_explains 133 = .ok (.iconst 1, 1) := by decide +kernel
theorem dX4_explains_134 : decode cX4_explains 134 = .ok (.iload 5, 2) := by decide +kernel
theorem dX4_explains_136 : decode cX4_explains 136 = .ok (.ishl, 1) := by decide +kernel
theorem dX4_explains_137 : decode cX4_explains 137 = .ok (.ixor, 1) := by decide +kernel
theorem dX4_explains_138 : decode cX4_explains 138 = .ok (.iastore, 1) := by decide +kernel
theorem dX4_explains_139 : decode cX4_explains 139 = .ok (.iload 6, 2) := by decide +kernel
theorem dX4_explains_141 : decode cX4_explains 141 = .ok (.ifCond .eq 18, 3) := by decide +kernel
theorem dX4_explains_144 : decode cX4_explains 144 = .ok (.iload_n 2, 1) := by decide +kernel
theorem dX4_explains_145 : decode cX4_explains 145 = .ok (.ifCond .ne 14, 3) := by decide +kernel
theorem dX4_explains_148 : decode cX4_explains 148 = .ok (.bipush 16, 2) := by decide +kernel
theorem dX4_explains_150 : decode cX4_explains 150 = .ok (.iload 4, 2) := by decide +kernel
theorem dX4_explains_152 : decode cX4_explains 152 = .ok (.imul, 1) := by decide +kernel
theorem dX4_explains_153 : decode cX4_explains 153 = .ok (.iload 5, 2) := by decide +kernel
theorem dX4_explains_155 : decode cX4_explains 155 = .ok (.iadd, 1) := by decide +kernel
theorem dX4_explains_156 : decode cX4_explains 156 = .ok (.goto 4, 3) := by decide +kernel
theorem dX4_explains_159 : decode cX4_explains 159 = .ok (.iconst (-1), 1) := by decide +kernel
theorem dX4_explains_160 : decode cX4_explains 160 = .ok (.istore_n 3, 1) := by decide +kernel
theorem dX4_explains_161 : decode cX4_explains 161 = .ok (.iload_n 2, 1) := by decide +kernel
theorem dX4_explains_162 : decode cX4_explains 162 = .ok (.iload 6, 2) := by decide +kernel
theorem dX4_explains_164 : decode cX4_explains 164 = .ok (.ifCond .eq 7, 3) := by decide +kernel
theorem dX4_explains_167 : decode cX4_explains 167 = .ok (.iconst 1, 1) := by decide +kernel
theorem dX4_explains_168 : decode cX4_explains 168 = .ok (.goto 4, 3) := by decide +kernel
theorem dX4_explains_171 : decode cX4_explains 171 = .ok (.iconst 0, 1) := by decide +kernel
theorem dX4_explains_172 : decode cX4_explains 172 = .ok (.isub, 1) := by decide +kernel
theorem dX4_explains_173 : decode cX4_explains 173 = .ok (.istore_n 2, 1) := by decide +kernel
theorem dX4_explains_174 : decode cX4_explains 174 = .ok (.iinc 5 1, 3) := by decide +kernel
theorem dX4_explains_177 : decode cX4_explains 177 = .ok (.goto (-88), 3) := by decide +kernel
theorem dX4_explains_180 : decode cX4_explains 180 = .ok (.iinc 4 1, 3) := by decide +kernel
theorem dX4_explains_183 : decode cX4_explains 183 = .ok (.goto (-111), 3) := by decide +kernel
theorem dX4_explains_186 : decode cX4_explains 186 = .ok (.iload_n 3, 1) := by decide +kernel
theorem dX4_explains_187 : decode cX4_explains 187 = .ok (.ireturn, 1) := by decide +kernel
theorem dX4_patch_0 : decode cX4_patch 0 = .ok (.aload_n 0, 1) := by decide +kernel
theorem dX4_patch_1 : decode cX4_patch 1 = .ok (.iload_n 1, 1) := by decide +kernel
theorem dX4_patch_2 : decode cX4_patch 2 = .ok (.invokevirtual 75, 3) := by decide +kernel
theorem dX4_patch_5 : decode cX4_patch 5 = .ok (.ifCond .ne 6, 3) := by decide +kernel
theorem dX4_patch_8 : decode cX4_patch 8 = .ok (.bipush (-2), 2) := by decide +kernel
theorem dX4_patch_10 : decode cX4_patch 10 = .ok (.ireturn, 1) := by decide +kernel
theorem dX4_patch_11 : decode cX4_patch 11 = .ok (.aload_n 0, 1) := by decide +kernel
theorem dX4_patch_12 : decode cX4_patch 12 = .ok (.iload_n 2, 1) := by decide +kernel
theorem dX4_patch_13 : decode cX4_patch 13 = .ok (.invokevirtual 78, 3) := by decide +kernel
theorem dX4_patch_16 : decode cX4_patch 16 = .ok (.ifCond .ne 6, 3) := by decide +kernel
theorem dX4_patch_19 : decode cX4_patch 19 = .ok (.bipush (-3), 2) := by decide +kernel
theorem dX4_patch_21 : decode cX4_patch 21 = .ok (.ireturn, 1) := by decide +kernel
theorem dX4_patch_22 : decode cX4_patch 22 = .ok (.aload_n 0, 1) := by decide +kernel
theorem dX4_patch_23 : decode cX4_patch 23 = .ok (.getfield 7, 3) := by decide +kernel
theorem dX4_patch_26 : decode cX4_patch 26 = .ok (.sipush 141, 3) := by decide +kernel
theorem dX4_patch_29 : decode cX4_patch 29 = .ok (.iload_n 1, 1) := by decide +kernel
theorem dX4_patch_30 : decode cX4_patch 30 = .ok (.iadd, 1) := by decide +kernel
theorem dX4_patch_31 : decode cX4_patch 31 = .ok (.iaload, 1) := by decide +kernel
theorem dX4_patch_32 : decode cX4_patch 32 = .ok (.iconst (-1), 1) := by decide +kernel
theorem dX4_patch_33 : decode cX4_patch 33 = .ok (.if_icmp .ne 14, 3) := by decide +kernel
theorem dX4_patch_36 : decode cX4_patch 36 = .ok (.aload_n 0, 1) := by decide +kernel
theorem dX4_patch_37 : decode cX4_patch 37 = .ok (.invokevirtual 68, 3) := by decide +kernel
theorem dX4_patch_40 : decode cX4_patch 40 = .ok (.iconst 4, 1) := by decide +kernel
theorem dX4_patch_41 : decode cX4_patch 41 = .ok (.if_icmp .ne 6, 3) := by decide +kernel
theorem dX4_patch_44 : decode cX4_patch 44 = .ok (.bipush (-5), 2) := by decide +kernel
theorem dX4_patch_46 : decode cX4_patch 46 = .ok (.ireturn, 1) := by decide +kernel
theorem dX4_patch_47 : decode cX4_patch 47 = .ok (.aload_n 0, 1) := by decide +kernel
theorem dX4_patch_48 : decode cX4_patch 48 = .ok (.invokevirtual 62, 3) := by decide +kernel
theorem dX4_patch_51 : decode cX4_patch 51 = .ok (.aload_n 0, 1) := by decide +kernel
theorem dX4_patch_52 : decode cX4_patch 52 = .ok (.getfield 7, 3) := by decide +kernel
theorem dX4_patch_55 : decode cX4_patch 55 = .ok (.sipush 141, 3) := by decide +kernel
theorem dX4_patch_58 : decode cX4_patch 58 = .ok (.iload_n 1, 1) := by decide +kernel
theorem dX4_patch_59 : decode cX4_patch 59 = .ok (.iadd, 1) := by decide +kernel
theorem dX4_patch_60 : decode cX4_patch 60 = .ok (.iload_n 2, 1) := by decide +kernel
theorem dX4_patch_61 : decode cX4_patch 61 = .ok (.iastore, 1) := by decide +kernel
theorem dX4_patch_62 : decode cX4_patch 62 = .ok (.aload_n 0, 1) := by decide +kernel
theorem dX4_patch_63 : decode cX4_patch 63 = .ok (.invokevirtual 68, 3) := by decide +kernel
theorem dX4_patch_66 : decode cX4_patch 66 = .ok (.ireturn, 1) := by decide +kernel
theorem dX4_unpatch_0 : decode cX4_unpatch 0 = .ok (.aload_n 0, 1) := by decide +kernel
theorem dX4_unpatch_1 : decode cX4_unpatch 1 = .ok (.iload_n 1, 1) := by decide +kernel
theorem dX4_unpatch_2 : decode cX4_unpatch 2 = .ok (.invokevirtual 75, 3) := by decide +kernel
theorem dX4_unpatch_5 : decode cX4_unpatch 5 = .ok (.ifCond .ne 6, 3) := by decide +kernel
theorem dX4_unpatch_8 : decode cX4_unpatch 8 = .ok (.bipush (-2), 2) := by decide +kernel
theorem dX4_unpatch_10 : decode cX4_unpatch 10 = .ok (.ireturn, 1) := by decide +kernel
theorem dX4_unpatch_11 : decode cX4_unpatch 11 = .ok (.aload_n 0, 1) := by decide +kernel
theorem dX4_unpatch_12 : decode cX4_unpatch 12 = .ok (.getfield 7, 3) := by decide +kernel
theorem dX4_unpatch_15 : decode cX4_unpatch 15 = .ok (.sipush 141, 3) := by decide +kernel
theorem dX4_unpatch_18 : decode cX4_unpatch 18 = .ok (.iload_n 1, 1) := by decide +kernel
theorem dX4_unpatch_19 : decode cX4_unpatch 19 = .ok (.iadd, 1) := by decide +kernel
theorem dX4_unpatch_20 : decode cX4_unpatch 20 = .ok (.iaload, 1) := by decide +kernel
theorem dX4_unpatch_21 : decode cX4_unpatch 21 = .ok (.iconst (-1), 1) := by decide +kernel
theorem dX4_unpatch_22 : decode cX4_unpatch 22 = .ok (.if_icmp .ne 6, 3) := by decide +kernel
theorem dX4_unpatch_25 : decode cX4_unpatch 25 = .ok (.bipush (-4), 2) := by decide +kernel
theorem dX4_unpatch_27 : decode cX4_unpatch 27 = .ok (.ireturn, 1) := by decide +kernel
theorem dX4_unpatch_28 : decode cX4_unpatch 28 = .ok (.aload_n 0, 1) := by decide +kernel
theorem dX4_unpatch_29 : decode cX4_unpatch 29 = .ok (.invokevirtual 62, 3) := by decide +kernel
theorem dX4_unpatch_32 : decode cX4_unpatch 32 = .ok (.aload_n 0, 1) := by decide +kernel
theorem dX4_unpatch_33 : decode cX4_unpatch 33 = .ok (.getfield 7, 3) := by decide +kernel
theorem dX4_unpatch_36 : decode cX4_unpatch 36 = .ok (.sipush 141, 3) := by decide +kernel
theorem dX4_unpatch_39 : decode cX4_unpatch 39 = .ok (.iload_n 1, 1) := by decide +kernel
theorem dX4_unpatch_40 : decode cX4_unpatch 40 = .ok (.iadd, 1) := by decide +kernel
theorem dX4_unpatch_41 : decode cX4_unpatch 41 = .ok (.iconst (-1), 1) := by decide +kernel
theorem dX4_unpatch_42 : decode cX4_unpatch 42 = .ok (.iastore, 1) := by decide +kernel
theorem dX4_unpatch_43 : decode cX4_unpatch 43 = .ok (.aload_n 0, 1) := by decide +kernel
theorem dX4_unpatch_44 : decode cX4_unpatch 44 = .ok (.invokevirtual 68, 3) := by decide +kernel
theorem dX4_unpatch_47 : decode cX4_unpatch 47 = .ok (.ireturn, 1) := by decide +kernel
theorem dX4_patchAll_0 : decode cX4_patchAll 0 = .ok (.aload_n 0, 1) := by decide +kernel
theorem dX4_patchAll_1 : decode cX4_patchAll 1 = .ok (.invokevirtual 62, 3) := by decide +kernel
theorem dX4_patchAll_4 : decode cX4_patchAll 4 = .ok (.aload_n 0, 1) := by decide +kernel
theorem dX4_patchAll_5 : decode cX4_patchAll 5 = .ok (.invokevirtual 84, 3) := by decide +kernel
theorem dX4_patchAll_8 : decode cX4_patchAll 8 = .ok (.iconst 0, 1) := by decide +kernel
theorem dX4_patchAll_9 : decode cX4_patchAll 9 = .ok (.istore_n 1, 1) := by decide +kernel
theorem dX4_patchAll_10 : decode cX4_patchAll 10 = .ok (.iload_n 1, 1) := by decide +kernel
theorem dX4_patchAll_11 : decode cX4_patchAll 11 = .ok (.aload_n 0, 1) := by decide +kernel
theorem dX4_patchAll_12 : decode cX4_patchAll 12 = .ok (.invokevirtual 42, 3) := by decide +kernel
theorem dX4_patchAll_15 : decode cX4_patchAll 15 = .ok (.if_icmp .ge 46, 3) := by decide +kernel
theorem dX4_patchAll_18 : decode cX4_patchAll 18 = .ok (.aload_n 0, 1) := by decide +kernel
theorem dX4_patchAll_19 : decode cX4_patchAll 19 = .ok (.getfield 7, 3) := by decide +kernel
theorem dX4_patchAll_22 : decode cX4_patchAll 22 = .ok (.sipush 141, 3) := by decide +kernel
theorem dX4_patchAll_25 : decode cX4_patchAll 25 = .ok (.iload_n 1, 1) := by decide +kernel
theorem dX4_patchAll_26 : decode cX4_patchAll 26 = .ok (.iadd, 1) := by decide +kernel
theorem dX4_patchAll_27 : decode cX4_patchAll 27 = .ok (.aload_n 0, 1) := by decide +kernel
theorem dX4_patchAll_28 : decode cX4_patchAll 28 = .ok (.getfield 7, 3) := by decide +kernel
theorem dX4_patchAll_31 : decode cX4_patchAll 31 = .ok (.sipush 141, 3) := by decide +kernel
theorem dX4_patchAll_34 : decode cX4_patchAll 34 = .ok (.iload_n 1, 1) := by decide +kernel
theorem dX4_patchAll_35 : decode cX4_patchAll 35 = .ok (.iadd, 1) := by decide +kernel
theorem dX4_patchAll_36 : decode cX4_patchAll 36 = .ok (.iaload, 1) := by decide +kernel
theorem dX4_patchAll_37 : decode cX4_patchAll 37 = .ok (.iconst (-1), 1) := by decide +kernel
theorem dX4_patchAll_38 : decode cX4_patchAll 38 = .ok (.if_icmp .ne 7, 3) := by decide +kernel
theorem dX4_patchAll_41 : decode cX4_patchAll 41 = .ok (.iconst (-1), 1) := by decide +kernel
theorem dX4_patchAll_42 : decode cX4_patchAll 42 = .ok (.goto 12, 3) := by decide +kernel
theorem dX4_patchAll_45 : decode cX4_patchAll 45 = .ok (.aload_n 0, 1) := by decide +kernel
theorem dX4_patchAll_46 : decode cX4_patchAll 46 = .ok (.getfield 7, 3) := by decide +kernel
theorem dX4_patchAll_49 : decode cX4_patchAll 49 = .ok (.bipush 19, 2) := by decide +kernel
theorem dX4_patchAll_51 : decode cX4_patchAll 51 = .ok (.iload_n 1, 1) := by decide +kernel
theorem dX4_patchAll_52 : decode cX4_patchAll 52 = .ok (.iadd, 1) := by decide +kernel
theorem dX4_patchAll_53 : decode cX4_patchAll 53 = .ok (.iaload, 1) := by decide +kernel
theorem dX4_patchAll_54 : decode cX4_patchAll 54 = .ok (.iastore, 1) := by decide +kernel
theorem dX4_patchAll_55 : decode cX4_patchAll 55 = .ok (.iinc 1 1, 3) := by decide +kernel
theorem dX4_patchAll_58 : decode cX4_patchAll 58 = .ok (.goto (-48), 3) := by decide +kernel
theorem dX4_patchAll_61 : decode cX4_patchAll 61 = .ok (.aload_n 0, 1) := by decide +kernel
theorem dX4_patchAll_62 : decode cX4_patchAll 62 = .ok (.invokevirtual 68, 3) := by decide +kernel
theorem dX4_patchAll_65 : decode cX4_patchAll 65 = .ok (.istore_n 1, 1) := by decide +kernel
theorem dX4_patchAll_66 : decode cX4_patchAll 66 = .ok (.iconst 0, 1) := by decide +kernel
theorem dX4_patchAll_67 : decode cX4_patchAll 67 = .ok (.istore_n 2, 1) := by decide +kernel
theorem dX4_patchAll_68 : decode cX4_patchAll 68 = .ok (.iload_n 2, 1) := by decide +kernel
theorem dX4_patchAll_69 : decode cX4_patchAll 69 = .ok (.aload_n 0, 1) := by decide +kernel
theorem dX4_patchAll_70 : decode cX4_patchAll 70 = .ok (.invokevirtual 42, 3) := by decide +kernel
theorem dX4_patchAll_73 : decode cX4_patchAll 73 = .ok (.if_icmp .ge 53, 3) := by decide +kernel
theorem dX4_patchAll_76 : decode cX4_patchAll 76 = .ok (.iload_n 1, 1) := by decide +kernel
theorem dX4_patchAll_77 : decode cX4_patchAll 77 = .ok (.iconst 4, 1) := by decide +kernel
theorem dX4_patchAll_78 : decode cX4_patchAll 78 = .ok (.if_icmp .ge 48, 3) := by decide +kernel
theorem dX4_patchAll_81 : decode cX4_patchAll 81 = .ok (.aload_n 0, 1) := by decide +kernel
theorem dX4_patchAll_82 : decode cX4_patchAll 82 = .ok (.iload_n 2, 1) := by decide +kernel
theorem dX4_patchAll_83 : decode cX4_patchAll 83 = .ok (.invokevirtual 96, 3) := by decide +kernel
theorem dX4_patchAll_86 : decode cX4_patchAll 86 = .ok (.aload_n 0, 1) := by decide +kernel
theorem dX4_patchAll_87 : decode cX4_patchAll 87 = .ok (.getfield 7, 3) := by decide +kernel
theorem dX4_patchAll_90 : decode cX4_patchAll 90 = .ok (.bipush 19, 2) := by decide +kernel
theorem dX4_patchAll_92 : decode cX4_patchAll 92 = .ok (.iload_n 2, 1) := by decide +kernel
theorem dX4_patchAll_93 : decode cX4_patchAll 93 = .ok (.iadd, 1) := by decide +kernel
theorem dX4_patchAll_94 : decode cX4_patchAll 94 = .ok (.iaload, 1) := by decide +kernel
theorem dX4_patchAll_95 : decode cX4_patchAll 95 = .ok (.if_icmp .eq 25, 3) := by decide +kernel
theorem dX4_patchAll_98 : decode cX4_patchAll 98 = .ok (.aload_n 0, 1) := by decide +kernel
theorem dX4_patchAll_99 : decode cX4_patchAll 99 = .ok (.getfield 7, 3) := by decide +kernel
theorem dX4_patchAll_102 : decode cX4_patchAll 102 = .ok (.sipush 141, 3) := by decide +kernel
theorem dX4_patchAll_105 : decode cX4_patchAll 105 = .ok (.iload_n 2, 1) := by decide +kernel
theorem dX4_patchAll_106 : decode cX4_patchAll 106 = .ok (.iadd, 1) := by decide +kernel
theorem dX4_patchAll_107 : decode cX4_patchAll 107 = .ok (.aload_n 0, 1) := by decide +kernel
theorem dX4_patchAll_108 : decode cX4_patchAll 108 = .ok (.getfield 7, 3) := by decide +kernel
theorem dX4_patchAll_111 : decode cX4_patchAll 111 = .ok (.bipush 19, 2) := by decide +kernel
theorem dX4_patchAll_113 : decode cX4_patchAll 113 = .ok (.iload_n 2, 1) := by decide +kernel
theorem dX4_patchAll_114 : decode cX4_patchAll 114 = .ok (.iadd, 1) := by decide +kernel
theorem dX4_patchAll_115 : decode cX4_patchAll 115 = .ok (.iaload, 1) := by decide +kernel
theorem dX4_patchAll_116 : decode cX4_patchAll 116 = .ok (.iastore, 1) := by decide +kernel
theorem dX4_patchAll_117 : decode cX4_patchAll 117 = .ok (.iinc 1 1, 3) := by decide +kernel
theorem dX4_patchAll_120 : decode cX4_patchAll 120 = .ok (.iinc 2 1, 3) := by decide +kernel
theorem dX4_patchAll_123 : decode cX4_patchAll 123 = .ok (.goto (-55), 3) := by decide +kernel
theorem dX4_patchAll_126 : decode cX4_patchAll 126 = .ok (.aload_n 0, 1) := by decide +kernel
theorem dX4_patchAll_127 : decode cX4_patchAll 127 = .ok (.iconst 0, 1) := by decide +kernel
theorem dX4_patchAll_128 : decode cX4_patchAll 128 = .ok (.invokevirtual 102, 3) := by decide +kernel
