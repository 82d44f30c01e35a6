theorem dX1_rightBits_21 : decode cX1_rightBits 21 = .ok (.istore 5, 2) := by decide +kernel
theorem dX1_rightBits_23 : decode cX1_rightBits 23 = .ok (.iload_n 3, 1) := by decide +kernel
theorem dX1_rightBits_24 : decode cX1_rightBits 24 = .ok (.aload_n 0, 1) := by decide +kernel
theorem dX1_rightBits_25 : decode cX1_rightBits 25 = .ok (.iload 5, 2) := by decide +kernel
theorem dX1_rightBits_27 : decode cX1_rightBits 27 = .ok (.aload_n 0, 1) := by decide +kernel
theorem dX1_rightBits_28 : decode cX1_rightBits 28 = .ok (.iload 5, 2) := by decide +kernel
theorem dX1_rightBits_30 : decode cX1_rightBits 30 = .ok (.invokevirtual 101, 3) := by decide +kernel
theorem dX1_rightBits_33 : decode cX1_rightBits 33 = .ok (.iload_n 2, 1) := by decide +kernel
theorem dX1_rightBits_34 : decode cX1_rightBits 34 = .ok (.invokevirtual 110, 3) := by decide +kernel
theorem dX1_rightBits_37 : decode cX1_rightBits 37 = .ok (.iload 4, 2) := by decide +kernel
theorem dX1_rightBits_39 : decode cX1_rightBits 39 = .ok (.ishl, 1) := by decide +kernel
theorem dX1_rightBits_40 : decode cX1_rightBits 40 = .ok (.ior, 1) := by decide +kernel
theorem dX1_rightBits_41 : decode cX1_rightBits 41 = .ok (.istore_n 3, 1) := by decide +kernel
theorem dX1_rightBits_42 : decode cX1_rightBits 42 = .ok (.iinc 4 1, 3) := by decide +kernel
theorem dX1_rightBits_45 : decode cX1_rightBits 45 = .ok (.goto (-40), 3) := by decide +kernel
theorem dX1_rightBits_48 : decode cX1_rightBits 48 = .ok (.iload_n 3, 1) := by decide +kernel
theorem dX1_rightBits_49 : decode cX1_rightBits 49 = .ok (.ireturn, 1) := by decide +kernel
theorem dX1_rawWord_0 : decode cX1_rawWord 0 = .ok (.aload_n 0, 1) := by decide +kernel
theorem dX1_rawWord_1 : decode cX1_rawWord 1 = .ok (.iload_n 1, 1) := by decide +kernel
theorem dX1_rawWord_2 : decode cX1_rawWord 2 = .ok (.invokevirtual 114, 3) := by decide +kernel
theorem dX1_rawWord_5 : decode cX1_rawWord 5 = .ok (.aload_n 0, 1) := by decide +kernel
theorem dX1_rawWord_6 : decode cX1_rawWord 6 = .ok (.invokevirtual 58, 3) := by decide +kernel
theorem dX1_rawWord_9 : decode cX1_rawWord 9 = .ok (.iand, 1) := by decide +kernel
theorem dX1_rawWord_10 : decode cX1_rawWord 10 = .ok (.ireturn, 1) := by decide +kernel
theorem dX1_wordRead_0 : decode cX1_wordRead 0 = .ok (.aload_n 0, 1) := by decide +kernel
theorem dX1_wordRead_1 : decode cX1_wordRead 1 = .ok (.getfield 21, 3) := by decide +kernel
theorem dX1_wordRead_4 : decode cX1_wordRead 4 = .ok (.iload_n 1, 1) := by decide +kernel
theorem dX1_wordRead_5 : decode cX1_wordRead 5 = .ok (.iaload, 1) := by decide +kernel
theorem dX1_wordRead_6 : decode cX1_wordRead 6 = .ok (.iconst (-1), 1) := by decide +kernel
theorem dX1_wordRead_7 : decode cX1_wordRead 7 = .ok (.if_icmp .ne 16, 3) := by decide +kernel
theorem dX1_wordRead_10 : decode cX1_wordRead 10 = .ok (.aload_n 0, 1) := by decide +kernel
theorem dX1_wordRead_11 : decode cX1_wordRead 11 = .ok (.iload_n 1, 1) := by decide +kernel
theorem dX1_wordRead_12 : decode cX1_wordRead 12 = .ok (.invokevirtual 114, 3) := by decide +kernel
theorem dX1_wordRead_15 : decode cX1_wordRead 15 = .ok (.aload_n 0, 1) := by decide +kernel
theorem dX1_wordRead_16 : decode cX1_wordRead 16 = .ok (.invokevirtual 58, 3) := by decide +kernel
theorem dX1_wordRead_19 : decode cX1_wordRead 19 = .ok (.iand, 1) := by decide +kernel
theorem dX1_wordRead_20 : decode cX1_wordRead 20 = .ok (.goto 9, 3) := by decide +kernel
theorem dX1_wordRead_23 : decode cX1_wordRead 23 = .ok (.aload_n 0, 1) := by decide +kernel
theorem dX1_wordRead_24 : decode cX1_wordRead 24 = .ok (.getfield 21, 3) := by decide +kernel
theorem dX1_wordRead_27 : decode cX1_wordRead 27 = .ok (.iload_n 1, 1) := by decide +kernel
theorem dX1_wordRead_28 : decode cX1_wordRead 28 = .ok (.iaload, 1) := by decide +kernel
theorem dX1_wordRead_29 : decode cX1_wordRead 29 = .ok (.ireturn, 1) := by decide +kernel
theorem dX1_parityIsRight_0 : decode cX1_parityIsRight 0 = .ok (.aload_n 0, 1) := by decide +kernel
theorem dX1_parityIsRight_1 : decode cX1_parityIsRight 1 = .ok (.getfield 21, 3) := by decide +kernel
theorem dX1_parityIsRight_4 : decode cX1_parityIsRight 4 = .ok (.iload_n 1, 1) := by decide +kernel
theorem dX1_parityIsRight_5 : decode cX1_parityIsRight 5 = .ok (.iaload, 1) := by decide +kernel
theorem dX1_parityIsRight_6 : decode cX1_parityIsRight 6 = .ok (.iconst (-1), 1) := by decide +kernel
theorem dX1_parityIsRight_7 : decode cX1_parityIsRight 7 = .ok (.if_icmp .eq 5, 3) := by decide +kernel
theorem dX1_parityIsRight_10 : decode cX1_parityIsRight 10 = .ok (.iconst 1, 1) := by decide +kernel
theorem dX1_parityIsRight_11 : decode cX1_parityIsRight 11 = .ok (.ireturn, 1) := by decide +kernel
theorem dX1_parityIsRight_12 : decode cX1_parityIsRight 12 = .ok (.aload_n 0, 1) := by decide +kernel
theorem dX1_parityIsRight_13 : decode cX1_parityIsRight 13 = .ok (.iload_n 1, 1) := by decide +kernel
theorem dX1_parityIsRight_14 : decode cX1_parityIsRight 14 = .ok (.invokevirtual 114, 3) := by decide +kernel
theorem dX1_parityIsRight_17 : decode cX1_parityIsRight 17 = .ok (.invokestatic 73, 3) := by decide +kernel
theorem dX1_parityIsRight_20 : decode cX1_parityIsRight 20 = .ok (.iconst 1, 1) := by decide +kernel
theorem dX1_parityIsRight_21 : decode cX1_parityIsRight 21 = .ok (.iand, 1) := by decide +kernel
theorem dX1_parityIsRight_22 : decode cX1_parityIsRight 22 = .ok (.iconst 1, 1) := by decide +kernel
theorem dX1_parityIsRight_23 : decode cX1_parityIsRight 23 = .ok (.if_icmp .ne 7, 3) := by decide +kernel
theorem dX1_parityIsRight_26 : decode cX1_parityIsRight 26 = .ok (.iconst 1, 1) := by decide +kernel
theorem dX1_parityIsRight_27 : decode cX1_parityIsRight 27 = .ok (.goto 4, 3) := by decide +kernel
theorem dX1_parityIsRight_30 : decode cX1_parityIsRight 30 = .ok (.iconst 0, 1) := by decide +kernel
theorem dX1_parityIsRight_31 : decode cX1_parityIsRight 31 = .ok (.ireturn, 1) := by decide +kernel
theorem dX1_wrongAddresses_0 : decode cX1_wrongAddresses 0 = .ok (.iconst 0, 1) := by decide +kernel
theorem dX1_wrongAddresses_1 : decode cX1_wrongAddresses 1 = .ok (.istore_n 2, 1) := by decide +kernel
theorem dX1_wrongAddresses_2 : decode cX1_wrongAddresses 2 = .ok (.iconst 0, 1) := by decide +kernel
theorem dX1_wrongAddresses_3 : decode cX1_wrongAddresses 3 = .ok (.istore_n 3, 1) := by decide +kernel
theorem dX1_wrongAddresses_4 : decode cX1_wrongAddresses 4 = .ok (.iload_n 3, 1) := by decide +kernel
theorem dX1_wrongAddresses_5 : decode cX1_wrongAddresses 5 = .ok (.aload_n 0, 1) := by decide +kernel
theorem dX1_wrongAddresses_6 : decode cX1_wrongAddresses 6 = .ok (.invokevirtual 42, 3) := by decide +kernel
theorem dX1_wrongAddresses_9 : decode cX1_wrongAddresses 9 = .ok (.if_icmp .ge 21, 3) := by decide +kernel
theorem dX1_wrongAddresses_12 : decode cX1_wrongAddresses 12 = .ok (.aload_n 0, 1) := by decide +kernel
theorem dX1_wrongAddresses_13 : decode cX1_wrongAddresses 13 = .ok (.iload_n 1, 1) := by decide +kernel
theorem dX1_wrongAddresses_14 : decode cX1_wrongAddresses 14 = .ok (.iload_n 3, 1) := by decide +kernel
theorem dX1_wrongAddresses_15 : decode cX1_wrongAddresses 15 = .ok (.invokevirtual 117, 3) := by decide +kernel
theorem dX1_wrongAddresses_18 : decode cX1_wrongAddresses 18 = .ok (.ifCond .eq 6, 3) := by decide +kernel
theorem dX1_wrongAddresses_21 : decode cX1_wrongAddresses 21 = .ok (.iinc 2 1, 3) := by decide +kernel
theorem dX1_wrongAddresses_24 : decode cX1_wrongAddresses 24 = .ok (.iinc 3 1, 3) := by decide +kernel
theorem dX1_wrongAddresses_27 : decode cX1_wrongAddresses 27 = .ok (.goto (-23), 3) := by decide +kernel
theorem dX1_wrongAddresses_30 : decode cX1_wrongAddresses 30 = .ok (.iload_n 2, 1) := by decide +kernel
theorem dX1_wrongAddresses_31 : decode cX1_wrongAddresses 31 = .ok (.ireturn, 1) := by decide +kernel
theorem dX1_isWrong_0 : decode cX1_isWrong 0 = .ok (.iload_n 1, 1) := by decide +kernel
theorem dX1_isWrong_1 : decode cX1_isWrong 1 = .ok (.tableswitch 69 0 2 #[27, 33, 47], 27) := by decide +kernel
theorem dX1_isWrong_28 : decode cX1_isWrong 28 = .ok (.aload_n 0, 1) := by decide +kernel
theorem dX1_isWrong_29 : decode cX1_isWrong 29 = .ok (.iload_n 2, 1) := by decide +kernel
theorem dX1_isWrong_30 : decode cX1_isWrong 30 = .ok (.invokevirtual 121, 3) := by decide +kernel
theorem dX1_isWrong_33 : decode cX1_isWrong 33 = .ok (.ireturn, 1) := by decide +kernel
theorem dX1_isWrong_34 : decode cX1_isWrong 34 = .ok (.aload_n 0, 1) := by decide +kernel
theorem dX1_isWrong_35 : decode cX1_isWrong 35 = .ok (.iload_n 2, 1) := by decide +kernel
theorem dX1_isWrong_36 : decode cX1_isWrong 36 = .ok (.invokevirtual 125, 3) := by decide +kernel
theorem dX1_isWrong_39 : decode cX1_isWrong 39 = .ok (.ifCond .ne 7, 3) := by decide +kernel
theorem dX1_isWrong_42 : decode cX1_isWrong 42 = .ok (.iconst 1, 1) := by decide +kernel
theorem dX1_isWrong_43 : decode cX1_isWrong 43 = .ok (.goto 4, 3) := by decide +kernel
theorem dX1_isWrong_46 : decode cX1_isWrong 46 = .ok (.iconst 0, 1) := by decide +kernel
theorem dX1_isWrong_47 : decode cX1_isWrong 47 = .ok (.ireturn, 1) := by decide +kernel
theorem dX1_isWrong_48 : decode cX1_isWrong 48 = .ok (.aload_n 0, 1) := by decide +kernel
theorem dX1_isWrong_49 : decode cX1_isWrong 49 = .ok (.iload_n 2, 1) := by decide +kernel
theorem dX1_isWrong_50 : decode cX1_isWrong 50 = .ok (.invokevirtual 121, 3) := by decide +kernel
theorem dX1_isWrong_53 : decode cX1_isWrong 53 = .ok (.ifCond .eq 15, 3) := by decide +kernel
theorem dX1_isWrong_56 : decode cX1_isWrong 56 = .ok (.aload_n 0, 1) := by decide +kernel
theorem dX1_isWrong_57 : decode cX1_isWrong 57 = .ok (.iload_n 2, 1) := by decide +kernel
theorem dX1_isWrong_58 : decode cX1_isWrong 58 = .ok (.invokevirtual 125, 3) := by decide +kernel
theorem dX1_isWrong_61 : decode cX1_isWrong 61 = .ok (.ifCond .eq 7, 3) := by decide +kernel
theorem dX1_isWrong_64 : decode cX1_isWrong 64 = .ok (.iconst 1, 1) := by decide +kernel
theorem dX1_isWrong_65 : decode cX1_isWrong 65 = .ok (.goto 4, 3) := by decide +kernel
theorem dX1_isWrong_68 : decode cX1_isWrong 68 = .ok (.iconst 0, 1) := by decide +kernel
theorem dX1_isWrong_69 : decode cX1_isWrong 69 = .ok (.ireturn, 1) := by decide +kernel
theorem dX1_isWrong_70 : decode cX1_isWrong 70 = .ok (.aload_n 0, 1) := by decide +kernel
theorem dX1_isWrong_71 : decode cX1_isWrong 71 = .ok (.iload_n 2, 1) := by decide +kernel
theorem dX1_isWrong_72 : decode cX1_isWrong 72 = .ok (.invokevirtual 128, 3) := by decide +kernel
theorem dX1_isWrong_75 : decode cX1_isWrong 75 = .ok (.aload_n 0, 1) := by decide +kernel
theorem dX1_isWrong_76 : decode cX1_isWrong 76 = .ok (.iload_n 2, 1) := by decide +kernel
theorem dX1_isWrong_77 : decode cX1_isWrong 77 = .ok (.invokevirtual 131, 3) := by decide +kernel
theorem dX1_isWrong_80 : decode cX1_isWrong 80 = .ok (.if_icmp .eq 7, 3) := by decide +kernel
theorem dX1_isWrong_83 : decode cX1_isWrong 83 = .ok (.iconst 1, 1) := by decide +kernel
theorem dX1_isWrong_84 : decode cX1_isWrong 84 = .ok (.goto 4, 3) := by decide +kernel
theorem dX1_isWrong_87 : decode cX1_isWrong 87 = .ok (.iconst 0, 1) := by decide +kernel
theorem dX1_isWrong_88 : decode cX1_isWrong 88 = .ok (.ireturn, 1) := by decide +kernel
theorem dX1_isMisread_0 : decode cX1_isMisread 0 = .ok (.aload_n 0, 1) := by decide +kernel
theorem dX1_isMisread_1 : decode cX1_isMisread 1 = .ok (.iload_n 1, 1) := by decide +kernel
theorem dX1_isMisread_2 : decode cX1_isMisread 2 = .ok (.invokevirtual 134, 3) := by decide +kernel
theorem dX1_isMisread_5 : decode cX1_isMisread 5 = .ok (.aload_n 0, 1) := by decide +kernel
theorem dX1_isMisread_6 : decode cX1_isMisread 6 = .ok (.iload_n 1, 1) := by decide +kernel
theorem dX1_isMisread_7 : decode cX1_isMisread 7 = .ok (.invokevirtual 131, 3) := by decide +kernel
theorem dX1_isMisread_10 : decode cX1_isMisread 10 = .ok (.if_icmp .eq 7, 3) := by decide +kernel
theorem dX1_isMisread_13 : decode cX1_isMisread 13 = .ok (.iconst 1, 1) := by decide +kernel
theorem dX1_isMisread_14 : decode cX1_isMisread 14 = .ok (.goto 4, 3) := by decide +kernel
theorem dX1_isMisread_17 : decode cX1_isMisread 17 = .ok (.iconst 0, 1) := by decide +kernel
theorem dX1_isMisread_18 : decode cX1_isMisread 18 = .ok (.ireturn, 1) := by decide +kernel
theorem dX1_explanation_0 : decode cX1_explanation 0 = .ok (.aload_n 0, 1) := by decide +kernel
theorem dX1_explanation_1 : decode cX1_explanation 1 = .ok (.invokevirtual 137, 3) := by decide +kernel
theorem dX1_explanation_4 : decode cX1_explanation 4 = .ok (.istore_n 2, 1) := by decide +kernel
theorem dX1_explanation_5 : decode cX1_explanation 5 = .ok (.iload_n 1, 1) := by decide +kernel
theorem dX1_explanation_6 : decode cX1_explanation 6 = .ok (.istore_n 3, 1) := by decide +kernel
theorem dX1_explanation_7 : decode cX1_explanation 7 = .ok (.iconst 0, 1) := by decide +kernel
theorem dX1_explanation_8 : decode cX1_explanation 8 = .ok (.istore 4, 2) := by decide +kernel
theorem dX1_explanation_10 : decode cX1_explanation 10 = .ok (.iload 4, 2) := by decide +kernel
theorem dX1_explanation_12 : decode cX1_explanation 12 = .ok (.aload_n 0, 1) := by decide +kernel
theorem dX1_explanation_13 : decode cX1_explanation 13 = .ok (.invokevirtual 55, 3) := by decide +kernel
theorem dX1_explanation_16 : decode cX1_explanation 16 = .ok (.if_icmp .ge 55, 3) := by decide +kernel
theorem dX1_explanation_19 : decode cX1_explanation 19 = .ok (.iconst 0, 1) := by decide +kernel
theorem dX1_explanation_20 : decode cX1_explanation 20 = .ok (.istore 5, 2) := by decide +kernel
theorem dX1_explanation_22 : decode cX1_explanation 22 = .ok (.iload 5, 2) := by decide +kernel
theorem dX1_explanation_24 : decode cX1_explanation 24 = .ok (.aload_n 0, 1) := by decide +kernel
theorem dX1_explanation_25 : decode cX1_explanation 25 = .ok (.getfield 28, 3) := by decide +kernel
theorem dX1_explanation_28 : decode cX1_explanation 28 = .ok (.if_icmp .ge 37, 3) := by decide +kernel
theorem dX1_explanation_31 : decode cX1_explanation 31 = .ok (.aload_n 0, 1) := by decide +kernel
theorem dX1_explanation_32 : decode cX1_explanation 32 = .ok (.iload 4, 2) := by decide +kernel
theorem dX1_explanation_34 : decode cX1_explanation 34 = .ok (.iload 5, 2) := by decide +kernel
theorem dX1_explanation_36 : decode cX1_explanation 36 = .ok (.iload_n 2, 1) := by decide +kernel
theorem dX1_explanation_37 : decode cX1_explanation 37 = .ok (.invokevirtual 140, 3) := by decide +kernel
theorem dX1_explanation_40 : decode cX1_explanation 40 = .ok (.ifCond .eq 19, 3) := by decide +kernel
theorem dX1_explanation_43 : decode cX1_explanation 43 = .ok (.iload_n 3, 1) := by decide +kernel
theorem dX1_explanation_44 : decode cX1_explanation 44 = .ok (.ifCond .ne 12, 3) := by decide +kernel
theorem dX1_explanation_47 : decode cX1_explanation 47 = .ok (.bipush 16, 2) := by decide +kernel
theorem dX1_explanation_49 : decode cX1_explanation 49 = .ok (.iload 4, 2) := by decide +kernel
theorem dX1_explanation_51 : decode cX1_explanation 51 = .ok (.imul, 1) := by decide +kernel
theorem dX1_explanation_52 : decode cX1_explanation 52 = .ok (.iload 5, 2) := by decide +kernel
theorem dX1_explanation_54 : decode cX1_explanation 54 = .ok (.iadd, 1) := by decide +kernel
theorem dX1_explanation_55 : decode cX1_explanation 55 = .ok (.ireturn, 1) := by decide +kernel
theorem dX1_explanation_56 : decode cX1_explanation 56 = .ok (.iinc 3 (-1), 3) := by decide +kernel
theorem dX1_explanation_59 : decode cX1_explanation 59 = .ok (.iinc 5 1, 3) := by decide +kernel
theorem dX1_explanation_62 : decode cX1_explanation 62 = .ok (.goto (-40), 3) := by decide +kernel
theorem dX1_explanation_65 : decode cX1_explanation 65 = .ok (.iinc 4 1, 3) := by decide +kernel
theorem dX1_explanation_68 : decode cX1_explanation 68 = .ok (.goto (-58), 3) := by decide +kernel
theorem dX1_explanation_71 : decode cX1_explanation 71 = .ok (.iconst (-1), 1) := by decide +kernel
theorem dX1_explanation_72 : decode cX1_explanation 72 = .ok (.ireturn, 1) := by decide +kernel
theorem dX1_strayRings_0 : decode cX1_strayRings 0 = .ok (.iconst 0, 1) := by decide +kernel
theorem dX1_strayRings_1 : decode cX1_strayRings 1 = .ok (.istore_n 1, 1) := by decide +kernel
theorem dX1_strayRings_2 : decode cX1_strayRings 2 = .ok (.iconst 0, 1) := by decide +kernel
theorem dX1_strayRings_3 : decode cX1_strayRings 3 = .ok (.istore_n 2, 1) := by decide +kernel
theorem dX1_strayRings_4 : decode cX1_strayRings 4 = .ok (.iload_n 2, 1) := by decide +kernel
theorem dX1_strayRings_5 : decode cX1_strayRings 5 = .ok (.aload_n 0, 1) := by decide +kernel
theorem dX1_strayRings_6 : decode cX1_strayRings 6 = .ok (.invokevirtual 42, 3) := by decide +kernel
theorem dX1_strayRings_9 : decode cX1_strayRings 9 = .ok (.if_icmp .ge 41, 3) := by decide +kernel
theorem dX1_strayRings_12 : decode cX1_strayRings 12 = .ok (.aload_n 0, 1) := by decide +kernel
theorem dX1_strayRings_13 : decode cX1_strayRings 13 = .ok (.iload_n 2, 1) := by decide +kernel
theorem dX1_strayRings_14 : decode cX1_strayRings 14 = .ok (.invokevirtual 91, 3) := by decide +kernel
theorem dX1_strayRings_17 : decode cX1_strayRings 17 = .ok (.istore_n 3, 1) := by decide +kernel
theorem dX1_strayRings_18 : decode cX1_strayRings 18 = .ok (.aload_n 0, 1) := by decide +kernel
theorem dX1_strayRings_19 : decode cX1_strayRings 19 = .ok (.iload_n 2, 1) := by decide +kernel
theorem dX1_strayRings_20 : decode cX1_strayRings 20 = .ok (.invokevirtual 114, 3) := by decide +kernel
theorem dX1_strayRings_23 : decode cX1_strayRings 23 = .ok (.aload_n 0, 1) := by decide +kernel
theorem dX1_strayRings_24 : decode cX1_strayRings 24 = .ok (.aload_n 0, 1) := by decide +kernel
theorem dX1_strayRings_25 : decode cX1_strayRings 25 = .ok (.iload_n 2, 1) := by decide +kernel
theorem dX1_strayRings_26 : decode cX1_strayRings 26 = .ok (.invokevirtual 88, 3) := by decide +kernel
theorem dX1_strayRings_29 : decode cX1_strayRings 29 = .ok (.iconst 1, 1) := by decide +kernel
theorem dX1_strayRings_30 : decode cX1_strayRings 30 = .ok (.iload_n 3, 1) := by decide +kernel
theorem dX1_strayRings_31 : decode cX1_strayRings 31 = .ok (.ishl, 1) := by decide +kernel
theorem dX1_strayRings_32 : decode cX1_strayRings 32 = .ok (.invokevirtual 94, 3) := by decide +kernel
theorem dX1_strayRings_35 : decode cX1_strayRings 35 = .ok (.if_icmp .eq 9, 3) := by decide +kernel
theorem dX1_strayRings_38 : decode cX1_strayRings 38 = .ok (.iload_n 1, 1) := by decide +kernel
theorem dX1_strayRings_39 : decode cX1_strayRings 39 = .ok (.iconst 1, 1) := by decide +kernel
theorem dX1_strayRings_40 : decode cX1_strayRings 40 = .ok (.iload_n 3, 1) := by decide +kernel
theorem dX1_strayRings_41 : decode cX1_strayRings 41 = .ok (.ishl, 1) := by decide +kernel
theorem dX1_strayRings_42 : decode cX1_strayRings 42 = .ok (.ior, 1) := by decide +kernel
theorem dX1_strayRings_43 : decode cX1_strayRings 43 = .ok (.istore_n 1, 1) := by decide +kernel
theorem dX1_strayRings_44 : decode cX1_strayRings 44 = .ok (.iinc 2 1, 3) := by decide +kernel
theorem dX1_strayRings_47 : decode cX1_strayRings 47 = .ok (.goto (-43), 3) := by decide +kernel
theorem dX1_strayRings_50 : decode cX1_strayRings 50 = .ok (.iload_n 1, 1) := by decide +kernel
theorem dX1_strayRings_51 : decode cX1_strayRings 51 = .ok (.ireturn, 1) := by decide +kernel
theorem dX1_isExplainedBy_0 : decode cX1_isExplainedBy 0 = .ok (.iload_n 1, 1) := by decide +kernel
theorem dX1_isExplainedBy_1 : decode cX1_isExplainedBy 1 = .ok (.bipush 8, 2) := by decide +kernel
theorem dX1_isExplainedBy_3 : decode cX1_isExplainedBy 3 = .ok (.if_icmp .ge 13, 3) := by decide +kernel
theorem dX1_isExplainedBy_6 : decode cX1_isExplainedBy 6 = .ok (.aload_n 0, 1) := by decide +kernel
theorem dX1_isExplainedBy_7 : decode cX1_isExplainedBy 7 = .ok (.iload_n 1, 1) := by decide +kernel
theorem dX1_isExplainedBy_8 : decode cX1_isExplainedBy 8 = .ok (.iload_n 2, 1) := by decide +kernel
theorem dX1_isExplainedBy_9 : decode cX1_isExplainedBy 9 = .ok (.iload_n 3, 1) := by decide +kernel
theorem dX1_isExplainedBy_10 : decode cX1_isExplainedBy 10 = .ok (.invokevirtual 144, 3) := by decide +kernel
theorem dX1_isExplainedBy_13 : decode cX1_isExplainedBy 13 = .ok (.goto 10, 3) := by decide +kernel
theorem dX1_isExplainedBy_16 : decode cX1_isExplainedBy 16 = .ok (.aload_n 0, 1) := by decide +kernel
theorem dX1_isExplainedBy_17 : decode cX1_isExplainedBy 17 = .ok (.iload_n 1, 1) := by decide +kernel
theorem dX1_isExplainedBy_18 : decode cX1_isExplainedBy 18 = .ok (.iload_n 2, 1) := by decide +kernel
theorem dX1_isExplainedBy_19 : decode cX1_isExplainedBy 19 = .ok (.iload_n 3, 1) := by decide +kernel
theorem dX1_isExplainedBy_20 : decode cX1_isExplainedBy 20 = .ok (.invokevirtual 147, 3) := by decide +kernel
theorem dX1_isExplainedBy_23 : decode cX1_isExplainedBy 23 = .ok (.ireturn, 1) := by decide +kernel
theorem dX1_inhibitExplains_0 : decode cX1_inhibitExplains 0 = .ok (.aload_n 0, 1) := by decide +kernel
theorem dX1_inhibitExplains_1 : decode cX1_inhibitExplains 1 = .ok (.getfield 9, 3) := by decide +kernel
theorem dX1_inhibitExplains_4 : decode cX1_inhibitExplains 4 = .ok (.iload_n 1, 1) := by decide +kernel
theorem dX1_inhibitExplains_5 : decode cX1_inhibitExplains 5 = .ok (.iaload, 1) := by decide +kernel
theorem dX1_inhibitExplains_6 : decode cX1_inhibitExplains 6 = .ok (.iload_n 2, 1) := by decide +kernel
theorem dX1_inhibitExplains_7 : decode cX1_inhibitExplains 7 = .ok (.ishr, 1) := by decide +kernel
theorem dX1_inhibitExplains_8 : decode cX1_inhibitExplains 8 = .ok (.iconst 1, 1) := by decide +kernel
theorem dX1_inhibitExplains_9 : decode cX1_inhibitExplains 9 = .ok (.iand, 1) := by decide +kernel
theorem dX1_inhibitExplains_10 : decode cX1_inhibitExplains 10 = .ok (.iconst 1, 1) := by decide +kernel
theorem dX1_inhibitExplains_11 : decode cX1_inhibitExplains 11 = .ok (.if_icmp .ne 7, 3) := by decide +kernel
theorem dX1_inhibitExplains_14 : decode cX1_inhibitExplains 14 = .ok (.iconst 1, 1) := by decide +kernel
theorem dX1_inhibitExplains_15 : decode cX1_inhibitExplains 15 = .ok (.goto 4, 3) := by decide +kernel
theorem dX1_inhibitExplains_18 : decode cX1_inhibitExplains 18 = .ok (.iconst 0, 1) := by decide +kernel
theorem dX1_inhibitExplains_19 : decode cX1_inhibitExplains 19 = .ok (.istore 4, 2) := by decide +kernel
theorem dX1_inhibitExplains_21 : decode cX1_inhibitExplains 21 = .ok (.iload_n 2, 1) := by decide +kernel
theorem dX1_inhibitExplains_22 : decode cX1_inhibitExplains 22 = .ok (.istore 5, 2) := by decide +kernel
theorem dX1_inhibitExplains_24 : decode cX1_inhibitExplains 24 = .ok (.iconst 0, 1) := by decide +kernel
theorem dX1_inhibitExplains_25 : decode cX1_inhibitExplains 25 = .ok (.istore 6, 2) := by decide +kernel
theorem dX1_inhibitExplains_27 : decode cX1_inhibitExplains 27 = .ok (.iload 4, 2) := by decide +kernel
theorem dX1_inhibitExplains_29 : decode cX1_inhibitExplains 29 = .ok (.ifCond .eq 46, 3) := by decide +kernel
theorem dX1_inhibitExplains_32 : decode cX1_inhibitExplains 32 = .ok (.aload_n 0, 1) := by decide +kernel
theorem dX1_inhibitExplains_33 : decode cX1_inhibitExplains 33 = .ok (.aload_n 0, 1) := by decide +kernel
theorem dX1_inhibitExplains_34 : decode cX1_inhibitExplains 34 = .ok (.iload_n 2, 1) := by decide +kernel
theorem dX1_inhibitExplains_35 : decode cX1_inhibitExplains 35 = .ok (.invokevirtual 85, 3) := by decide +kernel
theorem dX1_inhibitExplains_38 : decode cX1_inhibitExplains 38 = .ok (.iconst 1, 1) := by decide +kernel
theorem dX1_inhibitExplains_39 : decode cX1_inhibitExplains 39 = .ok (.iload_n 1, 1) := by decide +kernel
theorem dX1_inhibitExplains_40 : decode cX1_inhibitExplains 40 = .ok (.iconst 2, 1) := by decide +kernel
theorem dX1_inhibitExplains_41 : decode cX1_inhibitExplains 41 = .ok (.idiv, 1) := by decide +kernel
theorem dX1_inhibitExplains_42 : decode cX1_inhibitExplains 42 = .ok (.ishl, 1) := by decide +kernel
theorem dX1_inhibitExplains_43 : decode cX1_inhibitExplains 43 = .ok (.ixor, 1) := by decide +kernel
theorem dX1_inhibitExplains_44 : decode cX1_inhibitExplains 44 = .ok (.invokevirtual 150, 3) := by decide +kernel
theorem dX1_inhibitExplains_47 : decode cX1_inhibitExplains 47 = .ok (.istore 5, 2) := by decide +kernel
theorem dX1_inhibitExplains_49 : decode cX1_inhibitExplains 49 = .ok (.iload 5, 2) := by decide +kernel
theorem dX1_inhibitExplains_51 : decode cX1_inhibitExplains 51 = .ok (.iconst (-1), 1) := by decide +kernel
theorem dX1_inhibitExplains_52 : decode cX1_inhibitExplains 52 = .ok (.if_icmp .ne 13, 3) := by decide +kernel
theorem dX1_inhibitExplains_55 : decode cX1_inhibitExplains 55 = .ok (.iload_n 3, 1) := by decide +kernel
theorem dX1_inhibitExplains_56 : decode cX1_inhibitExplains 56 = .ok (.ifCond .ne 7, 3) := by decide +kernel
theorem dX1_inhibitExplains_59 : decode cX1_inhibitExplains 59 = .ok (.iconst 1, 1) := by decide +kernel
theorem dX1_inhibitExplains_60 : decode cX1_inhibitExplains 60 = .ok (.goto 4, 3) := by decide +kernel
theorem dX1_inhibitExplains_63 : decode cX1_inhibitExplains 63 = .ok (.iconst 0, 1) := by decide +kernel
theorem dX1_inhibitExplains_64 : decode cX1_inhibitExplains 64 = .ok (.ireturn, 1) := by decide +kernel
theorem dX1_inhibitExplains_65 : decode cX1_inhibitExplains 65 = .ok (.iconst 1, 1) := by decide +kernel
theorem dX1_inhibitExplains_66 : decode cX1_inhibitExplains 66 = .ok (.iload_n 2, 1) := by decide +kernel
theorem dX1_inhibitExplains_67 : decode cX1_inhibitExplains 67 = .ok (.ishl, 1) := by decide +kernel
theorem dX1_inhibitExplains_68 : decode cX1_inhibitExplains 68 = .ok (.iconst 1, 1) := by decide +kernel
theorem dX1_inhibitExplains_69 : decode cX1_inhibitExplains 69 = .ok (.iload 5, 2) := by decide +kernel
theorem dX1_inhibitExplains_71 : decode cX1_inhibitExplains 71 = .ok (.ishl, 1) := by decide +kernel
theorem dX1_inhibitExplains_72 : decode cX1_inhibitExplains 72 = .ok (.ior, 1) := by decide +kernel
theorem dX1_inhibitExplains_73 : decode cX1_inhibitExplains 73 = .ok (.istore 6, 2) := by decide +kernel
theorem dX1_inhibitExplains_75 : decode cX1_inhibitExplains 75 = .ok (.iload_n 3, 1) := by decide +kernel
theorem dX1_inhibitExplains_76 : decode cX1_inhibitExplains 76 = .ok (.iconst 1, 1) := by decide +kernel
theorem dX1_inhibitExplains_77 : decode cX1_inhibitExplains 77 = .ok (.iload 5, 2) := by decide +kernel
theorem dX1_inhibitExplains_79 : decode cX1_inhibitExplains 79 = .ok (.ishl, 1) := by decide +kernel
theorem dX1_inhibitExplains_80 : decode cX1_inhibitExplains 80 = .ok (.iconst (-1), 1) := by decide +kernel
theorem dX1_inhibitExplains_81 : decode cX1_inhibitExplains 81 = .ok (.ixor, 1) := by decide +kernel
theorem dX1_inhibitExplains_82 : decode cX1_inhibitExplains 82 = .ok (.iand, 1) := by decide +kernel
theorem dX1_inhibitExplains_83 : decode cX1_inhibitExplains 83 = .ok (.ifCond .eq 5, 3) := by decide +kernel
theorem dX1_inhibitExplains_86 : decode cX1_inhibitExplains 86 = .ok (.iconst 0, 1) := by decide +kernel
theorem dX1_inhibitExplains_87 : decode cX1_inhibitExplains 87 = .ok (.ireturn, 1) := by decide +kernel
theorem dX1_inhibitExplains_88 : decode cX1_inhibitExplains 88 = .ok (.iconst 0, 1) := by decide +kernel
theorem dX1_inhibitExplains_89 : decode cX1_inhibitExplains 89 = .ok (.istore 7, 2) := by decide +kernel
theorem dX1_inhibitExplains_91 : decode cX1_inhibitExplains 91 = .ok (.iload 7, 2) := by decide +kernel
theorem dX1_inhibitExplains_93 : decode cX1_inhibitExplains 93 = .ok (.aload_n 0, 1) := by decide +kernel
theorem dX1_inhibitExplains_94 : decode cX1_inhibitExplains 94 = .ok (.getfield 35, 3) := by decide +kernel
theorem dX1_inhibitExplains_97 : decode cX1_inhibitExplains 97 = .ok (.if_icmp .ge 36, 3) := by decide +kernel
theorem dX1_inhibitExplains_100 : decode cX1_inhibitExplains 100 = .ok (.aload_n 0, 1) := by decide +kernel
theorem dX1_inhibitExplains_101 : decode cX1_inhibitExplains 101 = .ok (.aload_n 0, 1) := by decide +kernel
theorem dX1_inhibitExplains_102 : decode cX1_inhibitExplains 102 = .ok (.getfield 35, 3) := by decide +kernel
theorem dX1_inhibitExplains_105 : decode cX1_inhibitExplains 105 = .ok (.iload 5, 2) := by decide +kernel
theorem dX1_inhibitExplains_107 : decode cX1_inhibitExplains 107 = .ok (.imul, 1) := by decide +kernel
theorem dX1_inhibitExplains_108 : decode cX1_inhibitExplains 108 = .ok (.iload 7, 2) := by decide +kernel
theorem dX1_inhibitExplains_110 : decode cX1_inhibitExplains 110 = .ok (.iadd, 1) := by decide +kernel
theorem dX1_inhibitExplains_111 : decode cX1_inhibitExplains 111 = .ok (.invokevirtual 114, 3) := by decide +kernel
theorem dX1_inhibitExplains_114 : decode cX1_inhibitExplains 114 = .ok (.aload_n 0, 1) := by decide +kernel
theorem dX1_inhibitExplains_115 : decode cX1_inhibitExplains 115 = .ok (.iload 7, 2) := by decide +kernel
theorem dX1_inhibitExplains_117 : decode cX1_inhibitExplains 117 = .ok (.iload 6, 2) := by decide +kernel
theorem dX1_inhibitExplains_119 : decode cX1_inhibitExplains 119 = .ok (.invokevirtual 94, 3) := by decide +kernel
theorem dX1_inhibitExplains_122 : decode cX1_inhibitExplains 122 = .ok (.if_icmp .eq 5, 3) := by decide +kernel
theorem dX1_inhibitExplains_125 : decode cX1_inhibitExplains 125 = .ok (.iconst 0, 1) := by decide +kernel
theorem dX1_inhibitExplains_126 : decode cX1_inhibitExplains 126 = .ok (.ireturn, 1) := by decide +kernel
theorem dX1_inhibitExplains_127 : decode cX1_inhibitExplains 127 = .ok (.iinc 7 1, 3) := by decide +kernel
theorem dX1_inhibitExplains_130 : decode cX1_inhibitExplains 130 = .ok (.goto (-39), 3) := by decide +kernel
theorem dX1_inhibitExplains_133 : decode cX1_inhibitExplains 133 = .ok (.iconst 1, 1) := by decide +kernel
theorem dX1_inhibitExplains_134 : decode cX1_inhibitExplains 134 = .ok (.ireturn, 1) := by decide +kernel
theorem dX1_senseExplains_0 : decode cX1_senseExplains 0 = .ok (.iload_n 3, 1) := by decide +kernel
theorem dX1_senseExplains_1 : decode cX1_senseExplains 1 = .ok (.iconst 1, 1) := by decide +kernel
theorem dX1_senseExplains_2 : decode cX1_senseExplains 2 = .ok (.iload_n 2, 1) := by decide +kernel
theorem dX1_senseExplains_3 : decode cX1_senseExplains 3 = .ok (.ishl, 1) := by decide +kernel
theorem dX1_senseExplains_4 : decode cX1_senseExplains 4 = .ok (.if_icmp .eq 5, 3) := by decide +kernel
theorem dX1_senseExplains_7 : decode cX1_senseExplains 7 = .ok (.iconst 0, 1) := by decide +kernel
theorem dX1_senseExplains_8 : decode cX1_senseExplains 8 = .ok (.ireturn, 1) := by decide +kernel
theorem dX1_senseExplains_9 : decode cX1_senseExplains 9 = .ok (.iconst 0, 1) := by decide +kernel
theorem dX1_senseExplains_10 : decode cX1_senseExplains 10 = .ok (.istore 4, 2) := by decide +kernel
theorem dX1_senseExplains_12 : decode cX1_senseExplains 12 = .ok (.iload 4, 2) := by decide +kernel
theorem dX1_senseExplains_14 : decode cX1_senseExplains 14 = .ok (.aload_n 0, 1) := by decide +kernel
theorem dX1_senseExplains_15 : decode cX1_senseExplains 15 = .ok (.getfield 35, 3) := by decide +kernel
theorem dX1_senseExplains_18 : decode cX1_senseExplains 18 = .ok (.if_icmp .ge 74, 3) := by decide +kernel
theorem dX1_senseExplains_21 : decode cX1_senseExplains 21 = .ok (.iload_n 1, 1) := by decide +kernel
theorem dX1_senseExplains_22 : decode cX1_senseExplains 22 = .ok (.aload_n 0, 1) := by decide +kernel
theorem dX1_senseExplains_23 : decode cX1_senseExplains 23 = .ok (.iload 4, 2) := by decide +kernel
theorem dX1_senseExplains_25 : decode cX1_senseExplains 25 = .ok (.iconst 0, 1) := by decide +kernel
theorem dX1_senseExplains_26 : decode cX1_senseExplains 26 = .ok (.invokevirtual 98, 3) := by decide +kernel
theorem dX1_senseExplains_29 : decode cX1_senseExplains 29 = .ok (.isub, 1) := by decide +kernel
theorem dX1_senseExplains_30 : decode cX1_senseExplains 30 = .ok (.istore 5, 2) := by decide +kernel
theorem dX1_senseExplains_32 : decode cX1_senseExplains 32 = .ok (.iload 5, 2) := by decide +kernel
theorem dX1_senseExplains_34 : decode cX1_senseExplains 34 = .ok (.ifCond .lt 19, 3) := by decide +kernel
theorem dX1_senseExplains_37 : decode cX1_senseExplains 37 = .ok (.iload 5, 2) := by decide +kernel
theorem dX1_senseExplains_39 : decode cX1_senseExplains 39 = .ok (.aload_n 0, 1) := by decide +kernel
theorem dX1_senseExplains_40 : decode cX1_senseExplains 40 = .ok (.getfield 32, 3) := by decide +kernel
theorem dX1_senseExplains_43 : decode cX1_senseExplains 43 = .ok (.if_icmp .gt 10, 3) := by decide +kernel
theorem dX1_senseExplains_46 : decode cX1_senseExplains 46 = .ok (.iconst 1, 1) := by decide +kernel
theorem dX1_senseExplains_47 : decode cX1_senseExplains 47 = .ok (.iload 5, 2) := by decide +kernel
theorem dX1_senseExplains_49 : decode cX1_senseExplains 49 = .ok (.ishl, 1) := by decide +kernel
theorem dX1_senseExplains_50 : decode cX1_senseExplains 50 = .ok (.goto 4, 3) := by decide +kernel
theorem dX1_senseExplains_53 : decode cX1_senseExplains 53 = .ok (.iconst 0, 1) := by decide +kernel
theorem dX1_senseExplains_54 : decode cX1_senseExplains 54 = .ok (.istore 6, 2) := by decide +kernel
theorem dX1_senseExplains_56 : decode cX1_senseExplains 56 = .ok (.aload_n 0, 1) := by decide +kernel
theorem dX1_senseExplains_57 : decode cX1_senseExplains 57 = .ok (.aload_n 0, 1) := by decide +kernel
theorem dX1_senseExplains_58 : decode cX1_senseExplains 58 = .ok (.getfield 35, 3) := by decide +kernel
theorem dX1_senseExplains_61 : decode cX1_senseExplains 61 = .ok (.iload_n 2, 1) := by decide +kernel
theorem dX1_senseExplains_62 : decode cX1_senseExplains 62 = .ok (.imul, 1) := by decide +kernel
theorem dX1_senseExplains_63 : decode cX1_senseExplains 63 = .ok (.iload 4, 2) := by decide +kernel
theorem dX1_senseExplains_65 : decode cX1_senseExplains 65 = .ok (.iadd, 1) := by decide +kernel
theorem dX1_senseExplains_66 : decode cX1_senseExplains 66 = .ok (.invokevirtual 114, 3) := by decide +kernel
theorem dX1_senseExplains_69 : decode cX1_senseExplains 69 = .ok (.aload_n 0, 1) := by decide +kernel
theorem dX1_senseExplains_70 : decode cX1_senseExplains 70 = .ok (.iload 4, 2) := by decide +kernel
theorem dX1_senseExplains_72 : decode cX1_senseExplains 72 = .ok (.iconst 1, 1) := by decide +kernel
theorem dX1_senseExplains_73 : decode cX1_senseExplains 73 = .ok (.iload_n 2, 1) := by decide +kernel
theorem dX1_senseExplains_74 : decode cX1_senseExplains 74 = .ok (.ishl, 1) := by decide +kernel
theorem dX1_senseExplains_75 : decode cX1_senseExplains 75 = .ok (.invokevirtual 94, 3) := by decide +kernel
theorem dX1_senseExplains_78 : decode cX1_senseExplains 78 = .ok (.iload 6, 2) := by decide +kernel
theorem dX1_senseExplains_80 : decode cX1_senseExplains 80 = .ok (.ixor, 1) := by decide +kernel
theorem dX1_senseExplains_81 : decode cX1_senseExplains 81 = .ok (.if_icmp .eq 5, 3) := by decide +kernel
theorem dX1_senseExplains_84 : decode cX1_senseExplains 84 = .ok (.iconst 0, 1) := by decide +kernel
theorem dX1_senseExplains_85 : decode cX1_senseExplains 85 = .ok (.ireturn, 1) := by decide +kernel
theorem dX1_senseExplains_86 : decode cX1_senseExplains 86 = .ok (.iinc 4 1, 3) := by decide +kernel
theorem dX1_senseExplains_89 : decode cX1_senseExplains 89 = .ok (.goto (-77), 3) := by decide +kernel
theorem dX1_senseExplains_92 : decode cX1_senseExplains 92 = .ok (.iconst 1, 1) := by decide +kernel
theorem dX1_senseExplains_93 : decode cX1_senseExplains 93 = .ok (.ireturn, 1) := by decide +kernel
theorem dX1_patchAt_0 : decode cX1_patchAt 0 = .ok (.aload_n 0, 1) := by decide +kernel
theorem dX1_patchAt_1 : decode cX1_patchAt 1 = .ok (.getfield 21, 3) := by decide +kernel
theorem dX1_patchAt_4 : decode cX1_patchAt 4 = .ok (.iload_n 1, 1) := by decide +kernel
theorem dX1_patchAt_5 : decode cX1_patchAt 5 = .ok (.iaload, 1) := by decide +kernel
theorem dX1_patchAt_6 : decode cX1_patchAt 6 = .ok (.ireturn, 1) := by decide +kernel
theorem dX1_putPatch_0 : decode cX1_putPatch 0 = .ok (.aload_n 0, 1) := by decide +kernel
theorem dX1_putPatch_1 : decode cX1_putPatch 1 = .ok (.getfield 21, 3) := by decide +kernel
theorem dX1_putPatch_4 : decode cX1_putPatch 4 = .ok (.iload_n 1, 1) := by decide +kernel
theorem dX1_putPatch_5 : decode cX1_putPatch 5 = .ok (.iload_n 2, 1) := by decide +kernel
theorem dX1_putPatch_6 : decode cX1_putPatch 6 = .ok (.iastore, 1) := by decide +kernel
theorem dX1_putPatch_7 : decode cX1_putPatch 7 = .ok (.return_, 1) := by decide +kernel
theorem dX1_patchCount_0 : decode cX1_patchCount 0 = .ok (.iconst 0, 1) := by decide +kernel
theorem dX1_patchCount_1 : decode cX1_patchCount 1 = .ok (.istore_n 1, 1) := by decide +kernel
theorem dX1_patchCount_2 : decode cX1_patchCount 2 = .ok (.iconst 0, 1) := by decide +kernel
theorem dX1_patchCount_3 : decode cX1_patchCount 3 = .ok (.istore_n 2, 1) := by decide +kernel
theorem dX1_patchCount_4 : decode cX1_patchCount 4 = .ok (.iload_n 2, 1) := by decide +kernel
theorem dX1_patchCount_5 : decode cX1_patchCount 5 = .ok (.aload_n 0, 1) := by decide +kernel
theorem dX1_patchCount_6 : decode cX1_patchCount 6 = .ok (.invokevirtual 42, 3) := by decide +kernel
theorem dX1_patchCount_9 : decode cX1_patchCount 9 = .ok (.if_icmp .ge 22, 3) := by decide +kernel
theorem dX1_patchCount_12 : decode cX1_patchCount 12 = .ok (.aload_n 0, 1) := by decide +kernel
theorem dX1_patchCount_13 : decode cX1_patchCount 13 = .ok (.getfield 21, 3) := by decide +kernel
theorem dX1_patchCount_16 : decode cX1_patchCount 16 = .ok (.iload_n 2, 1) := by decide +kernel
theorem dX1_patchCount_17 : decode cX1_patchCount 17 = .ok (.iaload, 1) := by decide +kernel
theorem dX1_patchCount_18 : decode cX1_patchCount 18 = .ok (.iconst (-1), 1) := by decide +kernel
theorem dX1_patchCount_19 : decode cX1_patchCount 19 = .ok (.if_icmp .eq 6, 3) := by decide +kernel
theorem dX1_patchCount_22 : decode cX1_patchCount 22 = .ok (.iinc 1 1, 3) := by decide +kernel
theorem dX1_patchCount_25 : decode cX1_patchCount 25 = .ok (.iinc 2 1, 3) := by decide +kernel
theorem dX1_patchCount_28 : decode cX1_patchCount 28 = .ok (.goto (-24), 3) := by decide +kernel
theorem dX1_patchCount_31 : decode cX1_patchCount 31 = .ok (.iload_n 1, 1) := by decide +kernel
theorem dX1_patchCount_32 : decode cX1_patchCount 32 = .ok (.ireturn, 1) := by decide +kernel
theorem dX1_mendPatches_0 : decode cX1_mendPatches 0 = .ok (.iconst 0, 1) := by decide +kernel
theorem dX1_mendPatches_1 : decode cX1_mendPatches 1 = .ok (.istore_n 1, 1) := by decide +kernel
theorem dX1_mendPatches_2 : decode cX1_mendPatches 2 = .ok (.iload_n 1, 1) := by decide +kernel
theorem dX1_mendPatches_3 : decode cX1_mendPatches 3 = .ok (.aload_n 0, 1) := by decide +kernel
theorem dX1_mendPatches_4 : decode cX1_mendPatches 4 = .ok (.invokevirtual 42, 3) := by decide +kernel
theorem dX1_mendPatches_7 : decode cX1_mendPatches 7 = .ok (.if_icmp .ge 30, 3) := by decide +kernel
theorem dX1_mendPatches_10 : decode cX1_mendPatches 10 = .ok (.aload_n 0, 1) := by decide +kernel
theorem dX1_mendPatches_11 : decode cX1_mendPatches 11 = .ok (.getfield 21, 3) := by decide +kernel
theorem dX1_mendPatches_14 : decode cX1_mendPatches 14 = .ok (.iload_n 1, 1) := by decide +kernel
theorem dX1_mendPatches_15 : decode cX1_mendPatches 15 = .ok (.iaload, 1) := by decide +kernel
theorem dX1_mendPatches_16 : decode cX1_mendPatches 16 = .ok (.iconst (-1), 1) := by decide +kernel
theorem dX1_mendPatches_17 : decode cX1_mendPatches 17 = .ok (.if_icmp .eq 14, 3) := by decide +kernel
theorem dX1_mendPatches_20 : decode cX1_mendPatches 20 = .ok (.aload_n 0, 1) := by decide +kernel
theorem dX1_mendPatches_21 : decode cX1_mendPatches 21 = .ok (.getfield 21, 3) := by decide +kernel
theorem dX1_mendPatches_24 : decode cX1_mendPatches 24 = .ok (.iload_n 1, 1) := by decide +kernel
theorem dX1_mendPatches_25 : decode cX1_mendPatches 25 = .ok (.aload_n 0, 1) := by decide +kernel
theorem dX1_mendPatches_26 : decode cX1_mendPatches 26 = .ok (.iload_n 1, 1) := by decide +kernel
theorem dX1_mendPatches_27 : decode cX1_mendPatches 27 = .ok (.invokevirtual 131, 3) := by decide +kernel
theorem dX1_mendPatches_30 : decode cX1_mendPatches 30 = .ok (.iastore, 1) := by decide +kernel
theorem dX1_mendPatches_31 : decode cX1_mendPatches 31 = .ok (.iinc 1 1, 3) := by decide +kernel
theorem dX1_mendPatches_34 : decode cX1_mendPatches 34 = .ok (.goto (-32), 3) := by decide +kernel
theorem dX1_mendPatches_37 : decode cX1_mendPatches 37 = .ok (.return_, 1) := by decide +kernel
theorem dX1_addPatches_0 : decode cX1_addPatches 0 = .ok (.iconst 4, 1) := by decide +kernel
theorem dX1_addPatches_1 : decode cX1_addPatches 1 = .ok (.aload_n 0, 1) := by decide +kernel
theorem dX1_addPatches_2 : decode cX1_addPatches 2 = .ok (.invokevirtual 67, 3) := by decide +kernel
theorem dX1_addPatches_5 : decode cX1_addPatches 5 = .ok (.isub, 1) := by decide +kernel
theorem dX1_addPatches_6 : decode cX1_addPatches 6 = .ok (.istore_n 1, 1) := by decide +kernel
theorem dX1_addPatches_7 : decode cX1_addPatches 7 = .ok (.iconst 0, 1) := by decide +kernel
theorem dX1_addPatches_8 : decode cX1_addPatches 8 = .ok (.istore_n 2, 1) := by decide +kernel
theorem dX1_addPatches_9 : decode cX1_addPatches 9 = .ok (.iload_n 2, 1) := by decide +kernel
theorem dX1_addPatches_10 : decode cX1_addPatches 10 = .ok (.aload_n 0, 1) := by decide +kernel
theorem dX1_addPatches_11 : decode cX1_addPatches 11 = .ok (.invokevirtual 42, 3) := by decide +kernel
theorem dX1_addPatches_14 : decode cX1_addPatches 14 = .ok (.if_icmp .ge 35, 3) := by decide +kernel
theorem dX1_addPatches_17 : decode cX1_addPatches 17 = .ok (.iload_n 1, 1) := by decide +kernel
theorem dX1_addPatches_18 : decode cX1_addPatches 18 = .ok (.ifCond .le 31, 3) := by decide +kernel
theorem dX1_addPatches_21 : decode cX1_addPatches 21 = .ok (.aload_n 0, 1) := by decide +kernel
theorem dX1_addPatches_22 : decode cX1_addPatches 22 = .ok (.iload_n 2, 1) := by decide +kernel
theorem dX1_addPatches_23 : decode cX1_addPatches 23 = .ok (.invokevirtual 121, 3) := by decide +kernel
theorem dX1_addPatches_26 : decode cX1_addPatches 26 = .ok (.ifCond .eq 17, 3) := by decide +kernel
theorem dX1_addPatches_29 : decode cX1_addPatches 29 = .ok (.aload_n 0, 1) := by decide +kernel
theorem dX1_addPatches_30 : decode cX1_addPatches 30 = .ok (.getfield 21, 3) := by decide +kernel
theorem dX1_addPatches_33 : decode cX1_addPatches 33 = .ok (.iload_n 2, 1) := by decide +kernel
theorem dX1_addPatches_34 : decode cX1_addPatches 34 = .ok (.aload_n 0, 1) := by decide +kernel
theorem dX1_addPatches_35 : decode cX1_addPatches 35 = .ok (.iload_n 2, 1) := by decide +kernel
theorem dX1_addPatches_36 : decode cX1_addPatches 36 = .ok (.invokevirtual 131, 3) := by decide +kernel
theorem dX1_addPatches_39 : decode cX1_addPatches 39 = .ok (.iastore, 1) := by decide +kernel
theorem dX1_addPatches_40 : decode cX1_addPatches 40 = .ok (.iinc 1 (-1), 3) := by decide +kernel
theorem dX1_addPatches_43 : decode cX1_addPatches 43 = .ok (.iinc 2 1, 3) := by decide +kernel
theorem dX1_addPatches_46 : decode cX1_addPatches 46 = .ok (.goto (-37), 3) := by decide +kernel
theorem dX1_addPatches_49 : decode cX1_addPatches 49 = .ok (.return_, 1) := by decide +kernel
theorem dX1_hash_0 : decode cX1_hash 0 = .ok (.ldc2_w 153, 3) := by decide +kernel
theorem dX1_hash_3 : decode cX1_hash 3 = .ok (.lstore_n 1, 1) := by decide +kernel
theorem dX1_hash_4 : decode cX1_hash 4 = .ok (.iconst 0, 1) := by decide +kernel
theorem dX1_hash_5 : decode cX1_hash 5 = .ok (.istore_n 3, 1) := by decide +kernel
theorem dX1_hash_6 : decode cX1_hash 6 = .ok (.iload_n 3, 1) := by decide +kernel
theorem dX1_hash_7 : decode cX1_hash 7 = .ok (.bipush 9, 2) := by decide +kernel
theorem dX1_hash_9 : decode cX1_hash 9 = .ok (.if_icmp .ge 22, 3) := by decide +kernel
theorem dX1_hash_12 : decode cX1_hash 12 = .ok (.ldc2_w 155, 3) := by decide +kernel
theorem dX1_hash_15 : decode cX1_hash 15 = .ok (.lload_n 1, 1) := by decide +kernel
theorem dX1_hash_16 : decode cX1_hash 16 = .ok (.lmul, 1) := by decide +kernel
theorem dX1_hash_17 : decode cX1_hash 17 = .ok (.aload_n 0, 1) := by decide +kernel
theorem dX1_hash_18 : decode cX1_hash 18 = .ok (.iload_n 3, 1) := by decide +kernel
theorem dX1_hash_19 : decode cX1_hash 19 = .ok (.invokevirtual 157, 3) := by decide +kernel
theorem dX1_hash_22 : decode cX1_hash 22 = .ok (.i2l, 1) := by decide +kernel
theorem dX1_hash_23 : decode cX1_hash 23 = .ok (.ladd, 1) := by decide +kernel
theorem dX1_hash_24 : decode cX1_hash 24 = .ok (.lstore_n 1, 1) := by decide +kernel
theorem dX1_hash_25 : decode cX1_hash 25 = .ok (.iinc 3 1, 3) := by decide +kernel
theorem dX1_hash_28 : decode cX1_hash 28 = .ok (.goto (-22), 3) := by decide +kernel
theorem dX1_hash_31 : decode cX1_hash 31 = .ok (.iconst 0, 1) := by decide +kernel
theorem dX1_hash_32 : decode cX1_hash 32 = .ok (.istore_n 3, 1) := by decide +kernel
theorem dX1_hash_33 : decode cX1_hash 33 = .ok (.iload_n 3, 1) := by decide +kernel
theorem dX1_hash_34 : decode cX1_hash 34 = .ok (.aload_n 0, 1) := by decide +kernel
theorem dX1_hash_35 : decode cX1_hash 35 = .ok (.getfield 28, 3) := by decide +kernel
theorem dX1_hash_38 : decode cX1_hash 38 = .ok (.if_icmp .ge 22, 3) := by decide +kernel
theorem dX1_hash_41 : decode cX1_hash 41 = .ok (.ldc2_w 155, 3) := by decide +kernel
theorem dX1_hash_44 : decode cX1_hash 44 = .ok (.lload_n 1, 1) := by decide +kernel
theorem dX1_hash_45 : decode cX1_hash 45 = .ok (.lmul, 1) := by decide +kernel
theorem dX1_hash_46 : decode cX1_hash 46 = .ok (.aload_n 0, 1) := by decide +kernel
theorem dX1_hash_47 : decode cX1_hash 47 = .ok (.iload_n 3, 1) := by decide +kernel
theorem dX1_hash_48 : decode cX1_hash 48 = .ok (.invokevirtual 85, 3) := by decide +kernel
theorem dX1_hash_51 : decode cX1_hash 51 = .ok (.i2l, 1) := by decide +kernel
theorem dX1_hash_52 : decode cX1_hash 52 = .ok (.ladd, 1) := by decide +kernel
theorem dX1_hash_53 : decode cX1_hash 53 = .ok (.lstore_n 1, 1) := by decide +kernel
theorem dX1_hash_54 : decode cX1_hash 54 = .ok (.iinc 3 1, 3) := by decide +kernel
theorem dX1_hash_57 : decode cX1_hash 57 = .ok (.goto (-24), 3) := by decide +kernel
theorem dX1_hash_60 : decode cX1_hash 60 = .ok (.iconst 0, 1) := by decide +kernel
theorem dX1_hash_61 : decode cX1_hash 61 = .ok (.istore_n 3, 1) := by decide +kernel
theorem dX1_hash_62 : decode cX1_hash 62 = .ok (.iload_n 3, 1) := by decide +kernel
theorem dX1_hash_63 : decode cX1_hash 63 = .ok (.aload_n 0, 1) := by decide +kernel
theorem dX1_hash_64 : decode cX1_hash 64 = .ok (.invokevirtual 42, 3) := by decide +kernel
theorem dX1_hash_67 : decode cX1_hash 67 = .ok (.if_icmp .ge 70, 3) := by decide +kernel
theorem dX1_hash_70 : decode cX1_hash 70 = .ok (.ldc2_w 155, 3) := by decide +kernel
theorem dX1_hash_73 : decode cX1_hash 73 = .ok (.lload_n 1, 1) := by decide +kernel
theorem dX1_hash_74 : decode cX1_hash 74 = .ok (.lmul, 1) := by decide +kernel
theorem dX1_hash_75 : decode cX1_hash 75 = .ok (.aload_n 0, 1) := by decide +kernel
theorem dX1_hash_76 : decode cX1_hash 76 = .ok (.iload_n 3, 1) := by decide +kernel
theorem dX1_hash_77 : decode cX1_hash 77 = .ok (.invokevirtual 131, 3) := by decide +kernel
theorem dX1_hash_80 : decode cX1_hash 80 = .ok (.i2l, 1) := by decide +kernel
theorem dX1_hash_81 : decode cX1_hash 81 = .ok (.ladd, 1) := by decide +kernel
theorem dX1_hash_82 : decode cX1_hash 82 = .ok (.lstore_n 1, 1) := by decide +kernel
theorem dX1_hash_83 : decode cX1_hash 83 = .ok (.ldc2_w 155, 3) := by decide +kernel
theorem dX1_hash_86 : decode cX1_hash 86 = .ok (.lload_n 1, 1) := by decide +kernel
theorem dX1_hash_87 : decode cX1_hash 87 = .ok (.lmul, 1) := by decide +kernel
theorem dX1_hash_88 : decode cX1_hash 88 = .ok (.aload_n 0, 1) := by decide +kernel
theorem dX1_hash_89 : decode cX1_hash 89 = .ok (.iload_n 3, 1) := by decide +kernel
theorem dX1_hash_90 : decode cX1_hash 90 = .ok (.invokevirtual 134, 3) := by decide +kernel
theorem dX1_hash_93 : decode cX1_hash 93 = .ok (.i2l, 1) := by decide +kernel
theorem dX1_hash_94 : decode cX1_hash 94 = .ok (.ladd, 1) := by decide +kernel
theorem dX1_hash_95 : decode cX1_hash 95 = .ok (.lstore_n 1, 1) := by decide +kernel
theorem dX1_hash_96 : decode cX1_hash 96 = .ok (.ldc2_w 155, 3) := by decide +kernel
theorem dX1_hash_99 : decode cX1_hash 99 = .ok (.lload_n 1, 1) := by decide +kernel
theorem dX1_hash_100 : decode cX1_hash 100 = .ok (.lmul, 1) := by decide +kernel
theorem dX1_hash_101 : decode cX1_hash 101 = .ok (.aload_n 0, 1) := by decide +kernel
theorem dX1_hash_102 : decode cX1_hash 102 = .ok (.iload_n 3, 1) := by decide +kernel
theorem dX1_hash_103 : decode cX1_hash 103 = .ok (.invokevirtual 125, 3) := by decide +kernel
theorem dX1_hash_106 : decode cX1_hash 106 = .ok (.ifCond .eq 7, 3) := by decide +kernel
theorem dX1_hash_109 : decode cX1_hash 109 = .ok (.iconst 1, 1) := by decide +kernel
theorem dX1_hash_110 : decode cX1_hash 110 = .ok (.goto 4, 3) := by decide +kernel
theorem dX1_hash_113 : decode cX1_hash 113 = .ok (.iconst 0, 1) := by decide +kernel
theorem dX1_hash_114 : decode cX1_hash 114 = .ok (.i2l, 1) := by decide +kernel
theorem dX1_hash_115 : decode cX1_hash 115 = .ok (.ladd, 1) := by decide +kernel
theorem dX1_hash_116 : decode cX1_hash 116 = .ok (.lstore_n 1, 1) := by decide +kernel
theorem dX1_hash_117 : decode cX1_hash 117 = .ok (.ldc2_w 155, 3) := by decide +kernel
theorem dX1_hash_120 : decode cX1_hash 120 = .ok (.lload_n 1, 1) := by decide +kernel
theorem dX1_hash_121 : decode cX1_hash 121 = .ok (.lmul, 1) := by decide +kernel
theorem dX1_hash_122 : decode cX1_hash 122 = .ok (.aload_n 0, 1) := by decide +kernel
theorem dX1_hash_123 : decode cX1_hash 123 = .ok (.getfield 21, 3) := by decide +kernel
theorem dX1_hash_126 : decode cX1_hash 126 = .ok (.iload_n 3, 1) := by decide +kernel
theorem dX1_hash_127 : decode cX1_hash 127 = .ok (.iaload, 1) := by decide +kernel
theorem dX1_hash_128 : decode cX1_hash 128 = .ok (.i2l, 1) := by decide +kernel
theorem dX1_hash_129 : decode cX1_hash 129 = .ok (.ladd, 1) := by decide +kernel
theorem dX1_hash_130 : decode cX1_hash 130 = .ok (.lstore_n 1, 1) := by decide +kernel
theorem dX1_hash_131 : decode cX1_hash 131 = .ok (.iinc 3 1, 3) := by decide +kernel
theorem dX1_hash_134 : decode cX1_hash 134 = .ok (.goto (-72), 3) := by decide +kernel
theorem dX1_hash_137 : decode cX1_hash 137 = .ok (.iconst 0, 1) := by decide +kernel
theorem dX1_hash_138 : decode cX1_hash 138 = .ok (.istore_n 3, 1) := by decide +kernel
theorem dX1_hash_139 : decode cX1_hash 139 = .ok (.iload_n 3, 1) := by decide +kernel
theorem dX1_hash_140 : decode cX1_hash 140 = .ok (.aload_n 0, 1) := by decide +kernel
theorem dX1_hash_141 : decode cX1_hash 141 = .ok (.invokevirtual 55, 3) := by decide +kernel
theorem dX1_hash_144 : decode cX1_hash 144 = .ok (.if_icmp .ge 42, 3) := by decide +kernel
theorem dX1_hash_147 : decode cX1_hash 147 = .ok (.iconst 0, 1) := by decide +kernel
theorem dX1_hash_148 : decode cX1_hash 148 = .ok (.istore 4, 2) := by decide +kernel
theorem dX1_hash_150 : decode cX1_hash 150 = .ok (.iload 4, 2) := by decide +kernel
theorem dX1_hash_152 : decode cX1_hash 152 = .ok (.aload_n 0, 1) := by decide +kernel
theorem dX1_hash_153 : decode cX1_hash 153 = .ok (.getfield 28, 3) := by decide +kernel
theorem dX1_hash_156 : decode cX1_hash 156 = .ok (.if_icmp .ge 24, 3) := by decide +kernel
theorem dX1_hash_159 : decode cX1_hash 159 = .ok (.ldc2_w 155, 3) := by decide +kernel
theorem dX1_hash_162 : decode cX1_hash 162 = .ok (.lload_n 1, 1) := by decide +kernel
theorem dX1_hash_163 : decode cX1_hash 163 = .ok (.lmul, 1) := by decide +kernel
theorem dX1_hash_164 : decode cX1_hash 164 = .ok (.aload_n 0, 1) := by decide +kernel
theorem dX1_hash_165 : decode cX1_hash 165 = .ok (.iload_n 3, 1) := by decide +kernel
theorem dX1_hash_166 : decode cX1_hash 166 = .ok (.iload 4, 2) := by decide +kernel
theorem dX1_hash_168 : decode cX1_hash 168 = .ok (.invokevirtual 160, 3) := by decide +kernel
theorem dX1_hash_171 : decode cX1_hash 171 = .ok (.i2l, 1) := by decide +kernel
theorem dX1_hash_172 : decode cX1_hash 172 = .ok (.ladd, 1) := by decide +kernel
theorem dX1_hash_173 : decode cX1_hash 173 = .ok (.lstore_n 1, 1) := by decide +kernel
theorem dX1_hash_174 : decode cX1_hash 174 = .ok (.iinc 4 1, 3) := by decide +kernel
theorem dX1_hash_177 : decode cX1_hash 177 = .ok (.goto (-27), 3) := by decide +kernel
theorem dX1_hash_180 : decode cX1_hash 180 = .ok (.iinc 3 1, 3) := by decide +kernel
theorem dX1_hash_183 : decode cX1_hash 183 = .ok (.goto (-44), 3) := by decide +kernel
theorem dX1_hash_186 : decode cX1_hash 186 = .ok (.lload_n 1, 1) := by decide +kernel
theorem dX1_hash_187 : decode cX1_hash 187 = .ok (.lreturn, 1) := by decide +kernel
