theorem dX3_textFault_1 : decode cX3_textFault 1 = .ok (.getfield 26, 3) := by decide +kernel
theorem dX3_textFault_4 : decode cX3_textFault 4 = .ok (.aload_n 0, 1) := by decide +kernel
theorem dX3_textFault_5 : decode cX3_textFault 5 = .ok (.getfield 12, 3) := by decide +kernel
theorem dX3_textFault_8 : decode cX3_textFault 8 = .ok (.invokevirtual 30, 3) := by decide +kernel
theorem dX3_textFault_11 : decode cX3_textFault 11 = .ok (.aload_n 0, 1) := by decide +kernel
theorem dX3_textFault_12 : decode cX3_textFault 12 = .ok (.getfield 12, 3) := by decide +kernel
theorem dX3_textFault_15 : decode cX3_textFault 15 = .ok (.invokevirtual 141, 3) := by decide +kernel
theorem dX3_textFault_18 : decode cX3_textFault 18 = .ok (.invokevirtual 144, 3) := by decide +kernel
theorem dX3_textFault_21 : decode cX3_textFault 21 = .ok (.ireturn, 1) := by decide +kernel
theorem dX3_load_0 : decode cX3_load 0 = .ok (.aload_n 0, 1) := by decide +kernel
theorem dX3_load_1 : decode cX3_load 1 = .ok (.getfield 26, 3) := by decide +kernel
theorem dX3_load_4 : decode cX3_load 4 = .ok (.aload_n 0, 1) := by decide +kernel
theorem dX3_load_5 : decode cX3_load 5 = .ok (.getfield 12, 3) := by decide +kernel
theorem dX3_load_8 : decode cX3_load 8 = .ok (.invokevirtual 30, 3) := by decide +kernel
theorem dX3_load_11 : decode cX3_load 11 = .ok (.aload_n 0, 1) := by decide +kernel
theorem dX3_load_12 : decode cX3_load 12 = .ok (.getfield 12, 3) := by decide +kernel
theorem dX3_load_15 : decode cX3_load 15 = .ok (.invokevirtual 141, 3) := by decide +kernel
theorem dX3_load_18 : decode cX3_load 18 = .ok (.invokevirtual 144, 3) := by decide +kernel
theorem dX3_load_21 : decode cX3_load 21 = .ok (.iconst (-1), 1) := by decide +kernel
theorem dX3_load_22 : decode cX3_load 22 = .ok (.if_icmp .eq 6, 3) := by decide +kernel
theorem dX3_load_25 : decode cX3_load 25 = .ok (.bipush (-4), 2) := by decide +kernel
theorem dX3_load_27 : decode cX3_load 27 = .ok (.ireturn, 1) := by decide +kernel
theorem dX3_load_28 : decode cX3_load 28 = .ok (.aload_n 0, 1) := by decide +kernel
theorem dX3_load_29 : decode cX3_load 29 = .ok (.getfield 19, 3) := by decide +kernel
theorem dX3_load_32 : decode cX3_load 32 = .ok (.aload_n 0, 1) := by decide +kernel
theorem dX3_load_33 : decode cX3_load 33 = .ok (.getfield 12, 3) := by decide +kernel
theorem dX3_load_36 : decode cX3_load 36 = .ok (.invokevirtual 34, 3) := by decide +kernel
theorem dX3_load_39 : decode cX3_load 39 = .ok (.aload_n 0, 1) := by decide +kernel
theorem dX3_load_40 : decode cX3_load 40 = .ok (.getfield 26, 3) := by decide +kernel
theorem dX3_load_43 : decode cX3_load 43 = .ok (.invokevirtual 147, 3) := by decide +kernel
theorem dX3_load_46 : decode cX3_load 46 = .ok (.istore_n 1, 1) := by decide +kernel
theorem dX3_load_47 : decode cX3_load 47 = .ok (.iconst 0, 1) := by decide +kernel
theorem dX3_load_48 : decode cX3_load 48 = .ok (.istore_n 2, 1) := by decide +kernel
theorem dX3_load_49 : decode cX3_load 49 = .ok (.iload_n 2, 1) := by decide +kernel
theorem dX3_load_50 : decode cX3_load 50 = .ok (.iload_n 1, 1) := by decide +kernel
theorem dX3_load_51 : decode cX3_load 51 = .ok (.if_icmp .ge 25, 3) := by decide +kernel
theorem dX3_load_54 : decode cX3_load 54 = .ok (.aload_n 0, 1) := by decide +kernel
theorem dX3_load_55 : decode cX3_load 55 = .ok (.getfield 12, 3) := by decide +kernel
theorem dX3_load_58 : decode cX3_load 58 = .ok (.iload_n 2, 1) := by decide +kernel
theorem dX3_load_59 : decode cX3_load 59 = .ok (.aload_n 0, 1) := by decide +kernel
theorem dX3_load_60 : decode cX3_load 60 = .ok (.getfield 26, 3) := by decide +kernel
theorem dX3_load_63 : decode cX3_load 63 = .ok (.iload_n 2, 1) := by decide +kernel
theorem dX3_load_64 : decode cX3_load 64 = .ok (.invokevirtual 150, 3) := by decide +kernel
theorem dX3_load_67 : decode cX3_load 67 = .ok (.invokevirtual 69, 3) := by decide +kernel
theorem dX3_load_70 : decode cX3_load 70 = .ok (.iinc 2 1, 3) := by decide +kernel
theorem dX3_load_73 : decode cX3_load 73 = .ok (.goto (-24), 3) := by decide +kernel
theorem dX3_load_76 : decode cX3_load 76 = .ok (.iload_n 1, 1) := by decide +kernel
theorem dX3_load_77 : decode cX3_load 77 = .ok (.ireturn, 1) := by decide +kernel
theorem dX3_digest_0 : decode cX3_digest 0 = .ok (.aload_n 0, 1) := by decide +kernel
theorem dX3_digest_1 : decode cX3_digest 1 = .ok (.getfield 12, 3) := by decide +kernel
theorem dX3_digest_4 : decode cX3_digest 4 = .ok (.invokevirtual 153, 3) := by decide +kernel
theorem dX3_digest_7 : decode cX3_digest 7 = .ok (.lreturn, 1) := by decide +kernel
theorem dJ6_bitCount_0f7a4_0 : decode cJ6_bitCount_0f7a4 0 = .ok (.iload_n 0, 1) := by decide +kernel
theorem dJ6_bitCount_0f7a4_1 : decode cJ6_bitCount_0f7a4 1 = .ok (.iload_n 0, 1) := by decide +kernel
theorem dJ6_bitCount_0f7a4_2 : decode cJ6_bitCount_0f7a4 2 = .ok (.iconst 1, 1) := by decide +kernel
theorem dJ6_bitCount_0f7a4_3 : decode cJ6_bitCount_0f7a4 3 = .ok (.iushr, 1) := by decide +kernel
theorem dJ6_bitCount_0f7a4_4 : decode cJ6_bitCount_0f7a4 4 = .ok (.ldc_w 265, 3) := by decide +kernel
theorem dJ6_bitCount_0f7a4_7 : decode cJ6_bitCount_0f7a4 7 = .ok (.iand, 1) := by decide +kernel
theorem dJ6_bitCount_0f7a4_8 : decode cJ6_bitCount_0f7a4 8 = .ok (.isub, 1) := by decide +kernel
theorem dJ6_bitCount_0f7a4_9 : decode cJ6_bitCount_0f7a4 9 = .ok (.istore_n 0, 1) := by decide +kernel
theorem dJ6_bitCount_0f7a4_10 : decode cJ6_bitCount_0f7a4 10 = .ok (.iload_n 0, 1) := by decide +kernel
theorem dJ6_bitCount_0f7a4_11 : decode cJ6_bitCount_0f7a4 11 = .ok (.ldc_w 266, 3) := by decide +kernel
theorem dJ6_bitCount_0f7a4_14 : decode cJ6_bitCount_0f7a4 14 = .ok (.iand, 1) := by decide +kernel
theorem dJ6_bitCount_0f7a4_15 : decode cJ6_bitCount_0f7a4 15 = .ok (.iload_n 0, 1) := by decide +kernel
theorem dJ6_bitCount_0f7a4_16 : decode cJ6_bitCount_0f7a4 16 = .ok (.iconst 2, 1) := by decide +kernel
theorem dJ6_bitCount_0f7a4_17 : decode cJ6_bitCount_0f7a4 17 = .ok (.iushr, 1) := by decide +kernel
theorem dJ6_bitCount_0f7a4_18 : decode cJ6_bitCount_0f7a4 18 = .ok (.ldc_w 266, 3) := by decide +kernel
theorem dJ6_bitCount_0f7a4_21 : decode cJ6_bitCount_0f7a4 21 = .ok (.iand, 1) := by decide +kernel
theorem dJ6_bitCount_0f7a4_22 : decode cJ6_bitCount_0f7a4 22 = .ok (.iadd, 1) := by decide +kernel
theorem dJ6_bitCount_0f7a4_23 : decode cJ6_bitCount_0f7a4 23 = .ok (.istore_n 0, 1) := by decide +kernel
theorem dJ6_bitCount_0f7a4_24 : decode cJ6_bitCount_0f7a4 24 = .ok (.iload_n 0, 1) := by decide +kernel
theorem dJ6_bitCount_0f7a4_25 : decode cJ6_bitCount_0f7a4 25 = .ok (.iload_n 0, 1) := by decide +kernel
theorem dJ6_bitCount_0f7a4_26 : decode cJ6_bitCount_0f7a4 26 = .ok (.iconst 4, 1) := by decide +kernel
theorem dJ6_bitCount_0f7a4_27 : decode cJ6_bitCount_0f7a4 27 = .ok (.iushr, 1) := by decide +kernel
theorem dJ6_bitCount_0f7a4_28 : decode cJ6_bitCount_0f7a4 28 = .ok (.iadd, 1) := by decide +kernel
theorem dJ6_bitCount_0f7a4_29 : decode cJ6_bitCount_0f7a4 29 = .ok (.ldc_w 267, 3) := by decide +kernel
theorem dJ6_bitCount_0f7a4_32 : decode cJ6_bitCount_0f7a4 32 = .ok (.iand, 1) := by decide +kernel
theorem dJ6_bitCount_0f7a4_33 : decode cJ6_bitCount_0f7a4 33 = .ok (.istore_n 0, 1) := by decide +kernel
theorem dJ6_bitCount_0f7a4_34 : decode cJ6_bitCount_0f7a4 34 = .ok (.iload_n 0, 1) := by decide +kernel
theorem dJ6_bitCount_0f7a4_35 : decode cJ6_bitCount_0f7a4 35 = .ok (.iload_n 0, 1) := by decide +kernel
theorem dJ6_bitCount_0f7a4_36 : decode cJ6_bitCount_0f7a4 36 = .ok (.bipush 8, 2) := by decide +kernel
theorem dJ6_bitCount_0f7a4_38 : decode cJ6_bitCount_0f7a4 38 = .ok (.iushr, 1) := by decide +kernel
theorem dJ6_bitCount_0f7a4_39 : decode cJ6_bitCount_0f7a4 39 = .ok (.iadd, 1) := by decide +kernel
theorem dJ6_bitCount_0f7a4_40 : decode cJ6_bitCount_0f7a4 40 = .ok (.istore_n 0, 1) := by decide +kernel
theorem dJ6_bitCount_0f7a4_41 : decode cJ6_bitCount_0f7a4 41 = .ok (.iload_n 0, 1) := by decide +kernel
theorem dJ6_bitCount_0f7a4_42 : decode cJ6_bitCount_0f7a4 42 = .ok (.iload_n 0, 1) := by decide +kernel
theorem dJ6_bitCount_0f7a4_43 : decode cJ6_bitCount_0f7a4 43 = .ok (.bipush 16, 2) := by decide +kernel
theorem dJ6_bitCount_0f7a4_45 : decode cJ6_bitCount_0f7a4 45 = .ok (.iushr, 1) := by decide +kernel
theorem dJ6_bitCount_0f7a4_46 : decode cJ6_bitCount_0f7a4 46 = .ok (.iadd, 1) := by decide +kernel
theorem dJ6_bitCount_0f7a4_47 : decode cJ6_bitCount_0f7a4 47 = .ok (.istore_n 0, 1) := by decide +kernel
theorem dJ6_bitCount_0f7a4_48 : decode cJ6_bitCount_0f7a4 48 = .ok (.iload_n 0, 1) := by decide +kernel
theorem dJ6_bitCount_0f7a4_49 : decode cJ6_bitCount_0f7a4 49 = .ok (.bipush 63, 2) := by decide +kernel
theorem dJ6_bitCount_0f7a4_51 : decode cJ6_bitCount_0f7a4 51 = .ok (.iand, 1) := by decide +kernel
theorem dJ6_bitCount_0f7a4_52 : decode cJ6_bitCount_0f7a4 52 = .ok (.ireturn, 1) := by decide +kernel
