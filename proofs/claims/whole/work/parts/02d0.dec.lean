theorem dX4_init_0 : decode cX4_init 0 = .ok (.aload_n 0, 1) := by decide +kernel
theorem dX4_init_1 : decode cX4_init 1 = .ok (.invokespecial 1, 3) := by decide +kernel
theorem dX4_init_4 : decode cX4_init 4 = .ok (.aload_n 0, 1) := by decide +kernel
theorem dX4_init_5 : decode cX4_init 5 = .ok (.sipush 1134, 3) := by decide +kernel
theorem dX4_init_8 : decode cX4_init 8 = .ok (.newarray .int, 2) := by decide +kernel
theorem dX4_init_10 : decode cX4_init 10 = .ok (.putfield 7, 3) := by decide +kernel
theorem dX4_init_13 : decode cX4_init 13 = .ok (.aload_n 0, 1) := by decide +kernel
theorem dX4_init_14 : decode cX4_init 14 = .ok (.bipush 41, 2) := by decide +kernel
theorem dX4_init_16 : decode cX4_init 16 = .ok (.newarray .int, 2) := by decide +kernel
theorem dX4_init_18 : decode cX4_init 18 = .ok (.putfield 13, 3) := by decide +kernel
theorem dX4_init_21 : decode cX4_init 21 = .ok (.aload_n 0, 1) := by decide +kernel
theorem dX4_init_22 : decode cX4_init 22 = .ok (.bipush 48, 2) := by decide +kernel
theorem dX4_init_24 : decode cX4_init 24 = .ok (.newarray .int, 2) := by decide +kernel
theorem dX4_init_26 : decode cX4_init 26 = .ok (.putfield 16, 3) := by decide +kernel
theorem dX4_init_29 : decode cX4_init 29 = .ok (.aload_n 0, 1) := by decide +kernel
theorem dX4_init_30 : decode cX4_init 30 = .ok (.bipush 100, 2) := by decide +kernel
theorem dX4_init_32 : decode cX4_init 32 = .ok (.newarray .int, 2) := by decide +kernel
theorem dX4_init_34 : decode cX4_init 34 = .ok (.putfield 19, 3) := by decide +kernel
theorem dX4_init_37 : decode cX4_init 37 = .ok (.aload_n 0, 1) := by decide +kernel
theorem dX4_init_38 : decode cX4_init 38 = .ok (.bipush 8, 2) := by decide +kernel
theorem dX4_init_40 : decode cX4_init 40 = .ok (.bipush 6, 2) := by decide +kernel
theorem dX4_init_42 : decode cX4_init 42 = .ok (.iconst 2, 1) := by decide +kernel
theorem dX4_init_43 : decode cX4_init 43 = .ok (.invokevirtual 22, 3) := by decide +kernel
theorem dX4_init_46 : decode cX4_init 46 = .ok (.return_, 1) := by decide +kernel
theorem dX4_in_0 : decode cX4_in 0 = .ok (.iload_n 0, 1) := by decide +kernel
theorem dX4_in_1 : decode cX4_in 1 = .ok (.iload_n 1, 1) := by decide +kernel
theorem dX4_in_2 : decode cX4_in 2 = .ok (.if_icmp .lt 12, 3) := by decide +kernel
theorem dX4_in_5 : decode cX4_in 5 = .ok (.iload_n 0, 1) := by decide +kernel
theorem dX4_in_6 : decode cX4_in 6 = .ok (.iload_n 2, 1) := by decide +kernel
theorem dX4_in_7 : decode cX4_in 7 = .ok (.if_icmp .gt 7, 3) := by decide +kernel
theorem dX4_in_10 : decode cX4_in 10 = .ok (.iconst 1, 1) := by decide +kernel
theorem dX4_in_11 : decode cX4_in 11 = .ok (.goto 4, 3) := by decide +kernel
theorem dX4_in_14 : decode cX4_in 14 = .ok (.iconst 0, 1) := by decide +kernel
theorem dX4_in_15 : decode cX4_in 15 = .ok (.ireturn, 1) := by decide +kernel
theorem dX4_copies_0 : decode cX4_copies 0 = .ok (.iconst 0, 1) := by decide +kernel
theorem dX4_copies_1 : decode cX4_copies 1 = .ok (.istore_n 3, 1) := by decide +kernel
theorem dX4_copies_2 : decode cX4_copies 2 = .ok (.iload_n 3, 1) := by decide +kernel
theorem dX4_copies_3 : decode cX4_copies 3 = .ok (.sipush 189, 3) := by decide +kernel
theorem dX4_copies_6 : decode cX4_copies 6 = .ok (.if_icmp .ge 33, 3) := by decide +kernel
theorem dX4_copies_9 : decode cX4_copies 9 = .ok (.aload_n 0, 1) := by decide +kernel
theorem dX4_copies_10 : decode cX4_copies 10 = .ok (.getfield 7, 3) := by decide +kernel
theorem dX4_copies_13 : decode cX4_copies 13 = .ok (.sipush 189, 3) := by decide +kernel
theorem dX4_copies_16 : decode cX4_copies 16 = .ok (.iload_n 2, 1) := by decide +kernel
theorem dX4_copies_17 : decode cX4_copies 17 = .ok (.imul, 1) := by decide +kernel
theorem dX4_copies_18 : decode cX4_copies 18 = .ok (.iload_n 3, 1) := by decide +kernel
theorem dX4_copies_19 : decode cX4_copies 19 = .ok (.iadd, 1) := by decide +kernel
theorem dX4_copies_20 : decode cX4_copies 20 = .ok (.aload_n 0, 1) := by decide +kernel
theorem dX4_copies_21 : decode cX4_copies 21 = .ok (.getfield 7, 3) := by decide +kernel
theorem dX4_copies_24 : decode cX4_copies 24 = .ok (.sipush 189, 3) := by decide +kernel
theorem dX4_copies_27 : decode cX4_copies 27 = .ok (.iload_n 1, 1) := by decide +kernel
theorem dX4_copies_28 : decode cX4_copies 28 = .ok (.imul, 1) := by decide +kernel
theorem dX4_copies_29 : decode cX4_copies 29 = .ok (.iload_n 3, 1) := by decide +kernel
theorem dX4_copies_30 : decode cX4_copies 30 = .ok (.iadd, 1) := by decide +kernel
theorem dX4_copies_31 : decode cX4_copies 31 = .ok (.iaload, 1) := by decide +kernel
theorem dX4_copies_32 : decode cX4_copies 32 = .ok (.iastore, 1) := by decide +kernel
theorem dX4_copies_33 : decode cX4_copies 33 = .ok (.iinc 3 1, 3) := by decide +kernel
theorem dX4_copies_36 : decode cX4_copies 36 = .ok (.goto (-34), 3) := by decide +kernel
theorem dX4_copies_39 : decode cX4_copies 39 = .ok (.return_, 1) := by decide +kernel
theorem dX4_saves_0 : decode cX4_saves 0 = .ok (.iconst 1, 1) := by decide +kernel
theorem dX4_saves_1 : decode cX4_saves 1 = .ok (.istore_n 1, 1) := by decide +kernel
theorem dX4_saves_2 : decode cX4_saves 2 = .ok (.iload_n 1, 1) := by decide +kernel
theorem dX4_saves_3 : decode cX4_saves 3 = .ok (.iconst 5, 1) := by decide +kernel
theorem dX4_saves_4 : decode cX4_saves 4 = .ok (.if_icmp .ge 25, 3) := by decide +kernel
theorem dX4_saves_7 : decode cX4_saves 7 = .ok (.aload_n 0, 1) := by decide +kernel
theorem dX4_saves_8 : decode cX4_saves 8 = .ok (.getfield 26, 3) := by decide +kernel
theorem dX4_saves_11 : decode cX4_saves 11 = .ok (.iconst 5, 1) := by decide +kernel
theorem dX4_saves_12 : decode cX4_saves 12 = .ok (.if_icmp .ne 17, 3) := by decide +kernel
theorem dX4_saves_15 : decode cX4_saves 15 = .ok (.aload_n 0, 1) := by decide +kernel
theorem dX4_saves_16 : decode cX4_saves 16 = .ok (.iload_n 1, 1) := by decide +kernel
theorem dX4_saves_17 : decode cX4_saves 17 = .ok (.iconst 1, 1) := by decide +kernel
theorem dX4_saves_18 : decode cX4_saves 18 = .ok (.iadd, 1) := by decide +kernel
theorem dX4_saves_19 : decode cX4_saves 19 = .ok (.iload_n 1, 1) := by decide +kernel
theorem dX4_saves_20 : decode cX4_saves 20 = .ok (.invokevirtual 30, 3) := by decide +kernel
theorem dX4_saves_23 : decode cX4_saves 23 = .ok (.iinc 1 1, 3) := by decide +kernel
theorem dX4_saves_26 : decode cX4_saves 26 = .ok (.goto (-24), 3) := by decide +kernel
theorem dX4_saves_29 : decode cX4_saves 29 = .ok (.aload_n 0, 1) := by decide +kernel
theorem dX4_saves_30 : decode cX4_saves 30 = .ok (.dup, 1) := by decide +kernel
theorem dX4_saves_31 : decode cX4_saves 31 = .ok (.getfield 26, 3) := by decide +kernel
theorem dX4_saves_34 : decode cX4_saves 34 = .ok (.aload_n 0, 1) := by decide +kernel
theorem dX4_saves_35 : decode cX4_saves 35 = .ok (.getfield 26, 3) := by decide +kernel
theorem dX4_saves_38 : decode cX4_saves 38 = .ok (.iconst 5, 1) := by decide +kernel
theorem dX4_saves_39 : decode cX4_saves 39 = .ok (.if_icmp .ne 7, 3) := by decide +kernel
theorem dX4_saves_42 : decode cX4_saves 42 = .ok (.iconst 1, 1) := by decide +kernel
theorem dX4_saves_43 : decode cX4_saves 43 = .ok (.goto 4, 3) := by decide +kernel
theorem dX4_saves_46 : decode cX4_saves 46 = .ok (.iconst 0, 1) := by decide +kernel
theorem dX4_saves_47 : decode cX4_saves 47 = .ok (.isub, 1) := by decide +kernel
theorem dX4_saves_48 : decode cX4_saves 48 = .ok (.putfield 26, 3) := by decide +kernel
theorem dX4_saves_51 : decode cX4_saves 51 = .ok (.aload_n 0, 1) := by decide +kernel
theorem dX4_saves_52 : decode cX4_saves 52 = .ok (.dup, 1) := by decide +kernel
theorem dX4_saves_53 : decode cX4_saves 53 = .ok (.getfield 26, 3) := by decide +kernel
theorem dX4_saves_56 : decode cX4_saves 56 = .ok (.iconst 1, 1) := by decide +kernel
theorem dX4_saves_57 : decode cX4_saves 57 = .ok (.iadd, 1) := by decide +kernel
theorem dX4_saves_58 : decode cX4_saves 58 = .ok (.putfield 26, 3) := by decide +kernel
theorem dX4_saves_61 : decode cX4_saves 61 = .ok (.aload_n 0, 1) := by decide +kernel
theorem dX4_saves_62 : decode cX4_saves 62 = .ok (.iconst 0, 1) := by decide +kernel
theorem dX4_saves_63 : decode cX4_saves 63 = .ok (.aload_n 0, 1) := by decide +kernel
theorem dX4_saves_64 : decode cX4_saves 64 = .ok (.getfield 26, 3) := by decide +kernel
theorem dX4_saves_67 : decode cX4_saves 67 = .ok (.invokevirtual 30, 3) := by decide +kernel
theorem dX4_saves_70 : decode cX4_saves 70 = .ok (.return_, 1) := by decide +kernel
theorem dX4_begins_0 : decode cX4_begins 0 = .ok (.iconst 0, 1) := by decide +kernel
theorem dX4_begins_1 : decode cX4_begins 1 = .ok (.istore 4, 2) := by decide +kernel
theorem dX4_begins_3 : decode cX4_begins 3 = .ok (.iload 4, 2) := by decide +kernel
theorem dX4_begins_5 : decode cX4_begins 5 = .ok (.sipush 189, 3) := by decide +kernel
theorem dX4_begins_8 : decode cX4_begins 8 = .ok (.if_icmp .ge 29, 3) := by decide +kernel
theorem dX4_begins_11 : decode cX4_begins 11 = .ok (.aload_n 0, 1) := by decide +kernel
theorem dX4_begins_12 : decode cX4_begins 12 = .ok (.getfield 7, 3) := by decide +kernel
theorem dX4_begins_15 : decode cX4_begins 15 = .ok (.iload 4, 2) := by decide +kernel
theorem dX4_begins_17 : decode cX4_begins 17 = .ok (.iload 4, 2) := by decide +kernel
theorem dX4_begins_19 : decode cX4_begins 19 = .ok (.sipush 141, 3) := by decide +kernel
theorem dX4_begins_22 : decode cX4_begins 22 = .ok (.if_icmp .lt 7, 3) := by decide +kernel
theorem dX4_begins_25 : decode cX4_begins 25 = .ok (.iconst (-1), 1) := by decide +kernel
theorem dX4_begins_26 : decode cX4_begins 26 = .ok (.goto 4, 3) := by decide +kernel
theorem dX4_begins_29 : decode cX4_begins 29 = .ok (.iconst 0, 1) := by decide +kernel
theorem dX4_begins_30 : decode cX4_begins 30 = .ok (.iastore, 1) := by decide +kernel
theorem dX4_begins_31 : decode cX4_begins 31 = .ok (.iinc 4 1, 3) := by decide +kernel
theorem dX4_begins_34 : decode cX4_begins 34 = .ok (.goto (-31), 3) := by decide +kernel
theorem dX4_begins_37 : decode cX4_begins 37 = .ok (.aload_n 0, 1) := by decide +kernel
theorem dX4_begins_38 : decode cX4_begins 38 = .ok (.getfield 7, 3) := by decide +kernel
theorem dX4_begins_41 : decode cX4_begins 41 = .ok (.iconst 0, 1) := by decide +kernel
theorem dX4_begins_42 : decode cX4_begins 42 = .ok (.iload_n 1, 1) := by decide +kernel
theorem dX4_begins_43 : decode cX4_begins 43 = .ok (.iastore, 1) := by decide +kernel
theorem dX4_begins_44 : decode cX4_begins 44 = .ok (.aload_n 0, 1) := by decide +kernel
theorem dX4_begins_45 : decode cX4_begins 45 = .ok (.getfield 7, 3) := by decide +kernel
theorem dX4_begins_48 : decode cX4_begins 48 = .ok (.iconst 1, 1) := by decide +kernel
theorem dX4_begins_49 : decode cX4_begins 49 = .ok (.iload_n 2, 1) := by decide +kernel
theorem dX4_begins_50 : decode cX4_begins 50 = .ok (.iastore, 1) := by decide +kernel
theorem dX4_begins_51 : decode cX4_begins 51 = .ok (.aload_n 0, 1) := by decide +kernel
theorem dX4_begins_52 : decode cX4_begins 52 = .ok (.getfield 7, 3) := by decide +kernel
theorem dX4_begins_55 : decode cX4_begins 55 = .ok (.iconst 2, 1) := by decide +kernel
theorem dX4_begins_56 : decode cX4_begins 56 = .ok (.iload_n 3, 1) := by decide +kernel
theorem dX4_begins_57 : decode cX4_begins 57 = .ok (.iastore, 1) := by decide +kernel
theorem dX4_begins_58 : decode cX4_begins 58 = .ok (.iconst 0, 1) := by decide +kernel
theorem dX4_begins_59 : decode cX4_begins 59 = .ok (.istore 4, 2) := by decide +kernel
theorem dX4_begins_61 : decode cX4_begins 61 = .ok (.iload 4, 2) := by decide +kernel
theorem dX4_begins_63 : decode cX4_begins 63 = .ok (.iload_n 1, 1) := by decide +kernel
theorem dX4_begins_64 : decode cX4_begins 64 = .ok (.if_icmp .ge 20, 3) := by decide +kernel
theorem dX4_begins_67 : decode cX4_begins 67 = .ok (.aload_n 0, 1) := by decide +kernel
theorem dX4_begins_68 : decode cX4_begins 68 = .ok (.getfield 7, 3) := by decide +kernel
theorem dX4_begins_71 : decode cX4_begins 71 = .ok (.iconst 3, 1) := by decide +kernel
theorem dX4_begins_72 : decode cX4_begins 72 = .ok (.iload 4, 2) := by decide +kernel
theorem dX4_begins_74 : decode cX4_begins 74 = .ok (.iadd, 1) := by decide +kernel
theorem dX4_begins_75 : decode cX4_begins 75 = .ok (.iload 4, 2) := by decide +kernel
theorem dX4_begins_77 : decode cX4_begins 77 = .ok (.iastore, 1) := by decide +kernel
theorem dX4_begins_78 : decode cX4_begins 78 = .ok (.iinc 4 1, 3) := by decide +kernel
theorem dX4_begins_81 : decode cX4_begins 81 = .ok (.goto (-20), 3) := by decide +kernel
theorem dX4_begins_84 : decode cX4_begins 84 = .ok (.return_, 1) := by decide +kernel
theorem dX4_addresses_0 : decode cX4_addresses 0 = .ok (.aload_n 0, 1) := by decide +kernel
theorem dX4_addresses_1 : decode cX4_addresses 1 = .ok (.getfield 7, 3) := by decide +kernel
theorem dX4_addresses_4 : decode cX4_addresses 4 = .ok (.iconst 0, 1) := by decide +kernel
theorem dX4_addresses_5 : decode cX4_addresses 5 = .ok (.iaload, 1) := by decide +kernel
theorem dX4_addresses_6 : decode cX4_addresses 6 = .ok (.aload_n 0, 1) := by decide +kernel
theorem dX4_addresses_7 : decode cX4_addresses 7 = .ok (.getfield 7, 3) := by decide +kernel
theorem dX4_addresses_10 : decode cX4_addresses 10 = .ok (.iconst 2, 1) := by decide +kernel
theorem dX4_addresses_11 : decode cX4_addresses 11 = .ok (.iaload, 1) := by decide +kernel
theorem dX4_addresses_12 : decode cX4_addresses 12 = .ok (.imul, 1) := by decide +kernel
theorem dX4_addresses_13 : decode cX4_addresses 13 = .ok (.ireturn, 1) := by decide +kernel
theorem dX4_wires_0 : decode cX4_wires 0 = .ok (.bipush 8, 2) := by decide +kernel
theorem dX4_wires_2 : decode cX4_wires 2 = .ok (.aload_n 0, 1) := by decide +kernel
theorem dX4_wires_3 : decode cX4_wires 3 = .ok (.getfield 7, 3) := by decide +kernel
theorem dX4_wires_6 : decode cX4_wires 6 = .ok (.iconst 2, 1) := by decide +kernel
theorem dX4_wires_7 : decode cX4_wires 7 = .ok (.iaload, 1) := by decide +kernel
theorem dX4_wires_8 : decode cX4_wires 8 = .ok (.aload_n 0, 1) := by decide +kernel
theorem dX4_wires_9 : decode cX4_wires 9 = .ok (.getfield 7, 3) := by decide +kernel
theorem dX4_wires_12 : decode cX4_wires 12 = .ok (.iconst 1, 1) := by decide +kernel
theorem dX4_wires_13 : decode cX4_wires 13 = .ok (.iaload, 1) := by decide +kernel
theorem dX4_wires_14 : decode cX4_wires 14 = .ok (.iconst 1, 1) := by decide +kernel
theorem dX4_wires_15 : decode cX4_wires 15 = .ok (.iadd, 1) := by decide +kernel
theorem dX4_wires_16 : decode cX4_wires 16 = .ok (.imul, 1) := by decide +kernel
theorem dX4_wires_17 : decode cX4_wires 17 = .ok (.iadd, 1) := by decide +kernel
theorem dX4_wires_18 : decode cX4_wires 18 = .ok (.ireturn, 1) := by decide +kernel
theorem dX4_isRing_0 : decode cX4_isRing 0 = .ok (.iload_n 1, 1) := by decide +kernel
theorem dX4_isRing_1 : decode cX4_isRing 1 = .ok (.iconst 0, 1) := by decide +kernel
theorem dX4_isRing_2 : decode cX4_isRing 2 = .ok (.aload_n 0, 1) := by decide +kernel
theorem dX4_isRing_3 : decode cX4_isRing 3 = .ok (.getfield 7, 3) := by decide +kernel
theorem dX4_isRing_6 : decode cX4_isRing 6 = .ok (.iconst 0, 1) := by decide +kernel
theorem dX4_isRing_7 : decode cX4_isRing 7 = .ok (.iaload, 1) := by decide +kernel
theorem dX4_isRing_8 : decode cX4_isRing 8 = .ok (.iconst 1, 1) := by decide +kernel
theorem dX4_isRing_9 : decode cX4_isRing 9 = .ok (.isub, 1) := by decide +kernel
theorem dX4_isRing_10 : decode cX4_isRing 10 = .ok (.invokestatic 34, 3) := by decide +kernel
theorem dX4_isRing_13 : decode cX4_isRing 13 = .ok (.ireturn, 1) := by decide +kernel
theorem dX4_isWire_0 : decode cX4_isWire 0 = .ok (.iload_n 1, 1) := by decide +kernel
theorem dX4_isWire_1 : decode cX4_isWire 1 = .ok (.iconst 0, 1) := by decide +kernel
theorem dX4_isWire_2 : decode cX4_isWire 2 = .ok (.aload_n 0, 1) := by decide +kernel
theorem dX4_isWire_3 : decode cX4_isWire 3 = .ok (.invokevirtual 38, 3) := by decide +kernel
theorem dX4_isWire_6 : decode cX4_isWire 6 = .ok (.iconst 1, 1) := by decide +kernel
theorem dX4_isWire_7 : decode cX4_isWire 7 = .ok (.isub, 1) := by decide +kernel
theorem dX4_isWire_8 : decode cX4_isWire 8 = .ok (.invokestatic 34, 3) := by decide +kernel
theorem dX4_isWire_11 : decode cX4_isWire 11 = .ok (.ireturn, 1) := by decide +kernel
theorem dX4_isAddress_0 : decode cX4_isAddress 0 = .ok (.iload_n 1, 1) := by decide +kernel
theorem dX4_isAddress_1 : decode cX4_isAddress 1 = .ok (.iconst 0, 1) := by decide +kernel
theorem dX4_isAddress_2 : decode cX4_isAddress 2 = .ok (.aload_n 0, 1) := by decide +kernel
theorem dX4_isAddress_3 : decode cX4_isAddress 3 = .ok (.invokevirtual 42, 3) := by decide +kernel
theorem dX4_isAddress_6 : decode cX4_isAddress 6 = .ok (.iconst 1, 1) := by decide +kernel
theorem dX4_isAddress_7 : decode cX4_isAddress 7 = .ok (.isub, 1) := by decide +kernel
theorem dX4_isAddress_8 : decode cX4_isAddress 8 = .ok (.invokestatic 34, 3) := by decide +kernel
theorem dX4_isAddress_11 : decode cX4_isAddress 11 = .ok (.ireturn, 1) := by decide +kernel
theorem dX4_isWord_0 : decode cX4_isWord 0 = .ok (.iload_n 1, 1) := by decide +kernel
theorem dX4_isWord_1 : decode cX4_isWord 1 = .ok (.iconst 0, 1) := by decide +kernel
theorem dX4_isWord_2 : decode cX4_isWord 2 = .ok (.iconst 1, 1) := by decide +kernel
theorem dX4_isWord_3 : decode cX4_isWord 3 = .ok (.aload_n 0, 1) := by decide +kernel
theorem dX4_isWord_4 : decode cX4_isWord 4 = .ok (.getfield 7, 3) := by decide +kernel
theorem dX4_isWord_7 : decode cX4_isWord 7 = .ok (.iconst 1, 1) := by decide +kernel
theorem dX4_isWord_8 : decode cX4_isWord 8 = .ok (.iaload, 1) := by decide +kernel
theorem dX4_isWord_9 : decode cX4_isWord 9 = .ok (.ishl, 1) := by decide +kernel
theorem dX4_isWord_10 : decode cX4_isWord 10 = .ok (.iconst 1, 1) := by decide +kernel
theorem dX4_isWord_11 : decode cX4_isWord 11 = .ok (.isub, 1) := by decide +kernel
theorem dX4_isWord_12 : decode cX4_isWord 12 = .ok (.invokestatic 34, 3) := by decide +kernel
theorem dX4_isWord_15 : decode cX4_isWord 15 = .ok (.ireturn, 1) := by decide +kernel
theorem dX4_ones_0 : decode cX4_ones 0 = .ok (.iconst 0, 1) := by decide +kernel
theorem dX4_ones_1 : decode cX4_ones 1 = .ok (.istore_n 1, 1) := by decide +kernel
theorem dX4_ones_2 : decode cX4_ones 2 = .ok (.iconst 0, 1) := by decide +kernel
theorem dX4_ones_3 : decode cX4_ones 3 = .ok (.istore_n 2, 1) := by decide +kernel
theorem dX4_ones_4 : decode cX4_ones 4 = .ok (.iload_n 2, 1) := by decide +kernel
theorem dX4_ones_5 : decode cX4_ones 5 = .ok (.bipush 16, 2) := by decide +kernel
theorem dX4_ones_7 : decode cX4_ones 7 = .ok (.if_icmp .ge 17, 3) := by decide +kernel
theorem dX4_ones_10 : decode cX4_ones 10 = .ok (.iload_n 1, 1) := by decide +kernel
theorem dX4_ones_11 : decode cX4_ones 11 = .ok (.iload_n 0, 1) := by decide +kernel
theorem dX4_ones_12 : decode cX4_ones 12 = .ok (.iload_n 2, 1) := by decide +kernel
theorem dX4_ones_13 : decode cX4_ones 13 = .ok (.ishr, 1) := by decide +kernel
theorem dX4_ones_14 : decode cX4_ones 14 = .ok (.iconst 1, 1) := by decide +kernel
theorem dX4_ones_15 : decode cX4_ones 15 = .ok (.iand, 1) := by decide +kernel
theorem dX4_ones_16 : decode cX4_ones 16 = .ok (.iadd, 1) := by decide +kernel
theorem dX4_ones_17 : decode cX4_ones 17 = .ok (.istore_n 1, 1) := by decide +kernel
theorem dX4_ones_18 : decode cX4_ones 18 = .ok (.iinc 2 1, 3) := by decide +kernel
theorem dX4_ones_21 : decode cX4_ones 21 = .ok (.goto (-17), 3) := by decide +kernel
theorem dX4_ones_24 : decode cX4_ones 24 = .ok (.iload_n 1, 1) := by decide +kernel
theorem dX4_ones_25 : decode cX4_ones 25 = .ok (.ireturn, 1) := by decide +kernel
theorem dX4_bit_0 : decode cX4_bit 0 = .ok (.aload_n 0, 1) := by decide +kernel
theorem dX4_bit_1 : decode cX4_bit 1 = .ok (.getfield 7, 3) := by decide +kernel
theorem dX4_bit_4 : decode cX4_bit 4 = .ok (.bipush 19, 2) := by decide +kernel
theorem dX4_bit_6 : decode cX4_bit 6 = .ok (.iload_n 1, 1) := by decide +kernel
theorem dX4_bit_7 : decode cX4_bit 7 = .ok (.iadd, 1) := by decide +kernel
theorem dX4_bit_8 : decode cX4_bit 8 = .ok (.iaload, 1) := by decide +kernel
theorem dX4_bit_9 : decode cX4_bit 9 = .ok (.istore_n 3, 1) := by decide +kernel
theorem dX4_bit_10 : decode cX4_bit 10 = .ok (.iload_n 2, 1) := by decide +kernel
theorem dX4_bit_11 : decode cX4_bit 11 = .ok (.aload_n 0, 1) := by decide +kernel
theorem dX4_bit_12 : decode cX4_bit 12 = .ok (.getfield 7, 3) := by decide +kernel
theorem dX4_bit_15 : decode cX4_bit 15 = .ok (.iconst 1, 1) := by decide +kernel
theorem dX4_bit_16 : decode cX4_bit 16 = .ok (.iaload, 1) := by decide +kernel
theorem dX4_bit_17 : decode cX4_bit 17 = .ok (.if_icmp .ge 11, 3) := by decide +kernel
theorem dX4_bit_20 : decode cX4_bit 20 = .ok (.iload_n 3, 1) := by decide +kernel
theorem dX4_bit_21 : decode cX4_bit 21 = .ok (.iload_n 2, 1) := by decide +kernel
theorem dX4_bit_22 : decode cX4_bit 22 = .ok (.ishr, 1) := by decide +kernel
theorem dX4_bit_23 : decode cX4_bit 23 = .ok (.iconst 1, 1) := by decide +kernel
theorem dX4_bit_24 : decode cX4_bit 24 = .ok (.iand, 1) := by decide +kernel
theorem dX4_bit_25 : decode cX4_bit 25 = .ok (.goto 11, 3) := by decide +kernel
theorem dX4_bit_28 : decode cX4_bit 28 = .ok (.iconst 1, 1) := by decide +kernel
theorem dX4_bit_29 : decode cX4_bit 29 = .ok (.iload_n 3, 1) := by decide +kernel
theorem dX4_bit_30 : decode cX4_bit 30 = .ok (.invokestatic 45, 3) := by decide +kernel
theorem dX4_bit_33 : decode cX4_bit 33 = .ok (.iconst 2, 1) := by decide +kernel
theorem dX4_bit_34 : decode cX4_bit 34 = .ok (.irem, 1) := by decide +kernel
theorem dX4_bit_35 : decode cX4_bit 35 = .ok (.isub, 1) := by decide +kernel
theorem dX4_bit_36 : decode cX4_bit 36 = .ok (.ireturn, 1) := by decide +kernel
theorem dX4_told_0 : decode cX4_told 0 = .ok (.iload_n 1, 1) := by decide +kernel
theorem dX4_told_1 : decode cX4_told 1 = .ok (.bipush 8, 2) := by decide +kernel
theorem dX4_told_3 : decode cX4_told 3 = .ok (.isub, 1) := by decide +kernel
theorem dX4_told_4 : decode cX4_told 4 = .ok (.aload_n 0, 1) := by decide +kernel
theorem dX4_told_5 : decode cX4_told 5 = .ok (.getfield 7, 3) := by decide +kernel
theorem dX4_told_8 : decode cX4_told 8 = .ok (.iconst 1, 1) := by decide +kernel
theorem dX4_told_9 : decode cX4_told 9 = .ok (.iaload, 1) := by decide +kernel
theorem dX4_told_10 : decode cX4_told 10 = .ok (.iconst 1, 1) := by decide +kernel
theorem dX4_told_11 : decode cX4_told 11 = .ok (.iadd, 1) := by decide +kernel
theorem dX4_told_12 : decode cX4_told 12 = .ok (.idiv, 1) := by decide +kernel
theorem dX4_told_13 : decode cX4_told 13 = .ok (.istore_n 2, 1) := by decide +kernel
theorem dX4_told_14 : decode cX4_told 14 = .ok (.iload_n 1, 1) := by decide +kernel
theorem dX4_told_15 : decode cX4_told 15 = .ok (.bipush 8, 2) := by decide +kernel
theorem dX4_told_17 : decode cX4_told 17 = .ok (.isub, 1) := by decide +kernel
theorem dX4_told_18 : decode cX4_told 18 = .ok (.aload_n 0, 1) := by decide +kernel
theorem dX4_told_19 : decode cX4_told 19 = .ok (.getfield 7, 3) := by decide +kernel
theorem dX4_told_22 : decode cX4_told 22 = .ok (.iconst 1, 1) := by decide +kernel
theorem dX4_told_23 : decode cX4_told 23 = .ok (.iaload, 1) := by decide +kernel
theorem dX4_told_24 : decode cX4_told 24 = .ok (.iconst 1, 1) := by decide +kernel
theorem dX4_told_25 : decode cX4_told 25 = .ok (.iadd, 1) := by decide +kernel
theorem dX4_told_26 : decode cX4_told 26 = .ok (.irem, 1) := by decide +kernel
theorem dX4_told_27 : decode cX4_told 27 = .ok (.istore_n 3, 1) := by decide +kernel
theorem dX4_told_28 : decode cX4_told 28 = .ok (.iconst 0, 1) := by decide +kernel
theorem dX4_told_29 : decode cX4_told 29 = .ok (.istore 4, 2) := by decide +kernel
theorem dX4_told_31 : decode cX4_told 31 = .ok (.iconst 0, 1) := by decide +kernel
theorem dX4_told_32 : decode cX4_told 32 = .ok (.istore 5, 2) := by decide +kernel
theorem dX4_told_34 : decode cX4_told 34 = .ok (.iload 5, 2) := by decide +kernel
theorem dX4_told_36 : decode cX4_told 36 = .ok (.aload_n 0, 1) := by decide +kernel
theorem dX4_told_37 : decode cX4_told 37 = .ok (.getfield 7, 3) := by decide +kernel
theorem dX4_told_40 : decode cX4_told 40 = .ok (.iconst 0, 1) := by decide +kernel
theorem dX4_told_41 : decode cX4_told 41 = .ok (.iaload, 1) := by decide +kernel
theorem dX4_told_42 : decode cX4_told 42 = .ok (.if_icmp .ge 33, 3) := by decide +kernel
theorem dX4_told_45 : decode cX4_told 45 = .ok (.iload 4, 2) := by decide +kernel
theorem dX4_told_47 : decode cX4_told 47 = .ok (.aload_n 0, 1) := by decide +kernel
theorem dX4_told_48 : decode cX4_told 48 = .ok (.aload_n 0, 1) := by decide +kernel
theorem dX4_told_49 : decode cX4_told 49 = .ok (.getfield 7, 3) := by decide +kernel
theorem dX4_told_52 : decode cX4_told 52 = .ok (.iconst 2, 1) := by decide +kernel
theorem dX4_told_53 : decode cX4_told 53 = .ok (.iaload, 1) := by decide +kernel
theorem dX4_told_54 : decode cX4_told 54 = .ok (.iload 5, 2) := by decide +kernel
theorem dX4_told_56 : decode cX4_told 56 = .ok (.imul, 1) := by decide +kernel
theorem dX4_told_57 : decode cX4_told 57 = .ok (.iload_n 2, 1) := by decide +kernel
theorem dX4_told_58 : decode cX4_told 58 = .ok (.iadd, 1) := by decide +kernel
theorem dX4_told_59 : decode cX4_told 59 = .ok (.iload_n 3, 1) := by decide +kernel
theorem dX4_told_60 : decode cX4_told 60 = .ok (.invokevirtual 49, 3) := by decide +kernel
theorem dX4_told_63 : decode cX4_told 63 = .ok (.iload 5, 2) := by decide +kernel
theorem dX4_told_65 : decode cX4_told 65 = .ok (.ishl, 1) := by decide +kernel
theorem dX4_told_66 : decode cX4_told 66 = .ok (.ior, 1) := by decide +kernel
theorem dX4_told_67 : decode cX4_told 67 = .ok (.istore 4, 2) := by decide +kernel
theorem dX4_told_69 : decode cX4_told 69 = .ok (.iinc 5 1, 3) := by decide +kernel
theorem dX4_told_72 : decode cX4_told 72 = .ok (.goto (-38), 3) := by decide +kernel
theorem dX4_told_75 : decode cX4_told 75 = .ok (.iload 4, 2) := by decide +kernel
theorem dX4_told_77 : decode cX4_told 77 = .ok (.ireturn, 1) := by decide +kernel
theorem dX4_allRings_0 : decode cX4_allRings 0 = .ok (.iconst 1, 1) := by decide +kernel
theorem dX4_allRings_1 : decode cX4_allRings 1 = .ok (.aload_n 0, 1) := by decide +kernel
theorem dX4_allRings_2 : decode cX4_allRings 2 = .ok (.getfield 7, 3) := by decide +kernel
theorem dX4_allRings_5 : decode cX4_allRings 5 = .ok (.iconst 0, 1) := by decide +kernel
theorem dX4_allRings_6 : decode cX4_allRings 6 = .ok (.iaload, 1) := by decide +kernel
theorem dX4_allRings_7 : decode cX4_allRings 7 = .ok (.ishl, 1) := by decide +kernel
theorem dX4_allRings_8 : decode cX4_allRings 8 = .ok (.iconst 1, 1) := by decide +kernel
theorem dX4_allRings_9 : decode cX4_allRings 9 = .ok (.isub, 1) := by decide +kernel
theorem dX4_allRings_10 : decode cX4_allRings 10 = .ok (.ireturn, 1) := by decide +kernel
theorem dX4_right_0 : decode cX4_right 0 = .ok (.iload_n 1, 1) := by decide +kernel
theorem dX4_right_1 : decode cX4_right 1 = .ok (.bipush 8, 2) := by decide +kernel
theorem dX4_right_3 : decode cX4_right 3 = .ok (.if_icmp .lt 40, 3) := by decide +kernel
theorem dX4_right_6 : decode cX4_right 6 = .ok (.aload_n 0, 1) := by decide +kernel
theorem dX4_right_7 : decode cX4_right 7 = .ok (.getfield 7, 3) := by decide +kernel
theorem dX4_right_10 : decode cX4_right 10 = .ok (.bipush 67, 2) := by decide +kernel
theorem dX4_right_12 : decode cX4_right 12 = .ok (.iload_n 1, 1) := by decide +kernel
theorem dX4_right_13 : decode cX4_right 13 = .ok (.iadd, 1) := by decide +kernel
theorem dX4_right_14 : decode cX4_right 14 = .ok (.bipush 8, 2) := by decide +kernel
theorem dX4_right_16 : decode cX4_right 16 = .ok (.isub, 1) := by decide +kernel
theorem dX4_right_17 : decode cX4_right 17 = .ok (.iaload, 1) := by decide +kernel
theorem dX4_right_18 : decode cX4_right 18 = .ok (.iconst 1, 1) := by decide +kernel
theorem dX4_right_19 : decode cX4_right 19 = .ok (.if_icmp .ne 18, 3) := by decide +kernel
theorem dX4_right_22 : decode cX4_right 22 = .ok (.aload_n 0, 1) := by decide +kernel
theorem dX4_right_23 : decode cX4_right 23 = .ok (.invokevirtual 53, 3) := by decide +kernel
theorem dX4_right_26 : decode cX4_right 26 = .ok (.aload_n 0, 1) := by decide +kernel
theorem dX4_right_27 : decode cX4_right 27 = .ok (.iload_n 1, 1) := by decide +kernel
theorem dX4_right_28 : decode cX4_right 28 = .ok (.invokevirtual 56, 3) := by decide +kernel
theorem dX4_right_31 : decode cX4_right 31 = .ok (.iconst (-1), 1) := by decide +kernel
theorem dX4_right_32 : decode cX4_right 32 = .ok (.ixor, 1) := by decide +kernel
theorem dX4_right_33 : decode cX4_right 33 = .ok (.iand, 1) := by decide +kernel
theorem dX4_right_34 : decode cX4_right 34 = .ok (.goto 8, 3) := by decide +kernel
theorem dX4_right_37 : decode cX4_right 37 = .ok (.aload_n 0, 1) := by decide +kernel
theorem dX4_right_38 : decode cX4_right 38 = .ok (.iload_n 1, 1) := by decide +kernel
theorem dX4_right_39 : decode cX4_right 39 = .ok (.invokevirtual 56, 3) := by decide +kernel
theorem dX4_right_42 : decode cX4_right 42 = .ok (.ireturn, 1) := by decide +kernel
theorem dX4_right_43 : decode cX4_right 43 = .ok (.iconst 0, 1) := by decide +kernel
theorem dX4_right_44 : decode cX4_right 44 = .ok (.istore_n 2, 1) := by decide +kernel
theorem dX4_right_45 : decode cX4_right 45 = .ok (.iconst 0, 1) := by decide +kernel
theorem dX4_right_46 : decode cX4_right 46 = .ok (.istore_n 3, 1) := by decide +kernel
theorem dX4_right_47 : decode cX4_right 47 = .ok (.iload_n 3, 1) := by decide +kernel
theorem dX4_right_48 : decode cX4_right 48 = .ok (.aload_n 0, 1) := by decide +kernel
theorem dX4_right_49 : decode cX4_right 49 = .ok (.getfield 7, 3) := by decide +kernel
theorem dX4_right_52 : decode cX4_right 52 = .ok (.iconst 0, 1) := by decide +kernel
theorem dX4_right_53 : decode cX4_right 53 = .ok (.iaload, 1) := by decide +kernel
theorem dX4_right_54 : decode cX4_right 54 = .ok (.if_icmp .ge 39, 3) := by decide +kernel
theorem dX4_right_57 : decode cX4_right 57 = .ok (.iload_n 2, 1) := by decide +kernel
theorem dX4_right_58 : decode cX4_right 58 = .ok (.aload_n 0, 1) := by decide +kernel
theorem dX4_right_59 : decode cX4_right 59 = .ok (.getfield 7, 3) := by decide +kernel
theorem dX4_right_62 : decode cX4_right 62 = .ok (.iconst 3, 1) := by decide +kernel
theorem dX4_right_63 : decode cX4_right 63 = .ok (.iload_n 3, 1) := by decide +kernel
theorem dX4_right_64 : decode cX4_right 64 = .ok (.iadd, 1) := by decide +kernel
theorem dX4_right_65 : decode cX4_right 65 = .ok (.iaload, 1) := by decide +kernel
theorem dX4_right_66 : decode cX4_right 66 = .ok (.iload_n 1, 1) := by decide +kernel
theorem dX4_right_67 : decode cX4_right 67 = .ok (.iconst 2, 1) := by decide +kernel
theorem dX4_right_68 : decode cX4_right 68 = .ok (.idiv, 1) := by decide +kernel
theorem dX4_right_69 : decode cX4_right 69 = .ok (.ishr, 1) := by decide +kernel
theorem dX4_right_70 : decode cX4_right 70 = .ok (.iconst 1, 1) := by decide +kernel
theorem dX4_right_71 : decode cX4_right 71 = .ok (.iand, 1) := by decide +kernel
theorem dX4_right_72 : decode cX4_right 72 = .ok (.iload_n 1, 1) := by decide +kernel
theorem dX4_right_73 : decode cX4_right 73 = .ok (.iconst 2, 1) := by decide +kernel
theorem dX4_right_74 : decode cX4_right 74 = .ok (.irem, 1) := by decide +kernel
theorem dX4_right_75 : decode cX4_right 75 = .ok (.if_icmp .ne 9, 3) := by decide +kernel
theorem dX4_right_78 : decode cX4_right 78 = .ok (.iconst 1, 1) := by decide +kernel
theorem dX4_right_79 : decode cX4_right 79 = .ok (.iload_n 3, 1) := by decide +kernel
theorem dX4_right_80 : decode cX4_right 80 = .ok (.ishl, 1) := by decide +kernel
theorem dX4_right_81 : decode cX4_right 81 = .ok (.goto 4, 3) := by decide +kernel
theorem dX4_right_84 : decode cX4_right 84 = .ok (.iconst 0, 1) := by decide +kernel
theorem dX4_right_85 : decode cX4_right 85 = .ok (.ior, 1) := by decide +kernel
theorem dX4_right_86 : decode cX4_right 86 = .ok (.istore_n 2, 1) := by decide +kernel
theorem dX4_right_87 : decode cX4_right 87 = .ok (.iinc 3 1, 3) := by decide +kernel
theorem dX4_right_90 : decode cX4_right 90 = .ok (.goto (-43), 3) := by decide +kernel
theorem dX4_right_93 : decode cX4_right 93 = .ok (.iload_n 2, 1) := by decide +kernel
theorem dX4_right_94 : decode cX4_right 94 = .ok (.ireturn, 1) := by decide +kernel
theorem dX4_costOf_0 : decode cX4_costOf 0 = .ok (.aload_n 0, 1) := by decide +kernel
theorem dX4_costOf_1 : decode cX4_costOf 1 = .ok (.iload_n 1, 1) := by decide +kernel
theorem dX4_costOf_2 : decode cX4_costOf 2 = .ok (.invokevirtual 59, 3) := by decide +kernel
theorem dX4_costOf_5 : decode cX4_costOf 5 = .ok (.invokestatic 45, 3) := by decide +kernel
theorem dX4_costOf_8 : decode cX4_costOf 8 = .ok (.iload_n 1, 1) := by decide +kernel
theorem dX4_costOf_9 : decode cX4_costOf 9 = .ok (.bipush 8, 2) := by decide +kernel
theorem dX4_costOf_11 : decode cX4_costOf 11 = .ok (.if_icmp .lt 18, 3) := by decide +kernel
theorem dX4_costOf_14 : decode cX4_costOf 14 = .ok (.aload_n 0, 1) := by decide +kernel
theorem dX4_costOf_15 : decode cX4_costOf 15 = .ok (.getfield 7, 3) := by decide +kernel
theorem dX4_costOf_18 : decode cX4_costOf 18 = .ok (.bipush 67, 2) := by decide +kernel
theorem dX4_costOf_20 : decode cX4_costOf 20 = .ok (.iload_n 1, 1) := by decide +kernel
theorem dX4_costOf_21 : decode cX4_costOf 21 = .ok (.iadd, 1) := by decide +kernel
theorem dX4_costOf_22 : decode cX4_costOf 22 = .ok (.bipush 8, 2) := by decide +kernel
theorem dX4_costOf_24 : decode cX4_costOf 24 = .ok (.isub, 1) := by decide +kernel
theorem dX4_costOf_25 : decode cX4_costOf 25 = .ok (.iaload, 1) := by decide +kernel
theorem dX4_costOf_26 : decode cX4_costOf 26 = .ok (.goto 4, 3) := by decide +kernel
theorem dX4_costOf_29 : decode cX4_costOf 29 = .ok (.iconst 0, 1) := by decide +kernel
theorem dX4_costOf_30 : decode cX4_costOf 30 = .ok (.iadd, 1) := by decide +kernel
theorem dX4_costOf_31 : decode cX4_costOf 31 = .ok (.ireturn, 1) := by decide +kernel
theorem dX4_patches_0 : decode cX4_patches 0 = .ok (.iconst 0, 1) := by decide +kernel
theorem dX4_patches_1 : decode cX4_patches 1 = .ok (.istore_n 1, 1) := by decide +kernel
theorem dX4_patches_2 : decode cX4_patches 2 = .ok (.iconst 0, 1) := by decide +kernel
theorem dX4_patches_3 : decode cX4_patches 3 = .ok (.istore_n 2, 1) := by decide +kernel
theorem dX4_patches_4 : decode cX4_patches 4 = .ok (.iload_n 2, 1) := by decide +kernel
theorem dX4_patches_5 : decode cX4_patches 5 = .ok (.aload_n 0, 1) := by decide +kernel
theorem dX4_patches_6 : decode cX4_patches 6 = .ok (.invokevirtual 42, 3) := by decide +kernel
theorem dX4_patches_9 : decode cX4_patches 9 = .ok (.if_icmp .ge 31, 3) := by decide +kernel
theorem dX4_patches_12 : decode cX4_patches 12 = .ok (.iload_n 1, 1) := by decide +kernel
theorem dX4_patches_13 : decode cX4_patches 13 = .ok (.aload_n 0, 1) := by decide +kernel
theorem dX4_patches_14 : decode cX4_patches 14 = .ok (.getfield 7, 3) := by decide +kernel
theorem dX4_patches_17 : decode cX4_patches 17 = .ok (.sipush 141, 3) := by decide +kernel
theorem dX4_patches_20 : decode cX4_patches 20 = .ok (.iload_n 2, 1) := by decide +kernel
theorem dX4_patches_21 : decode cX4_patches 21 = .ok (.iadd, 1) := by decide +kernel
theorem dX4_patches_22 : decode cX4_patches 22 = .ok (.iaload, 1) := by decide +kernel
theorem dX4_patches_23 : decode cX4_patches 23 = .ok (.iconst (-1), 1) := by decide +kernel
theorem dX4_patches_24 : decode cX4_patches 24 = .ok (.if_icmp .eq 7, 3) := by decide +kernel
theorem dX4_patches_27 : decode cX4_patches 27 = .ok (.iconst 1, 1) := by decide +kernel
theorem dX4_patches_28 : decode cX4_patches 28 = .ok (.goto 4, 3) := by decide +kernel
theorem dX4_patches_31 : decode cX4_patches 31 = .ok (.iconst 0, 1) := by decide +kernel
theorem dX4_patches_32 : decode cX4_patches 32 = .ok (.iadd, 1) := by decide +kernel
theorem dX4_patches_33 : decode cX4_patches 33 = .ok (.istore_n 1, 1) := by decide +kernel
theorem dX4_patches_34 : decode cX4_patches 34 = .ok (.iinc 2 1, 3) := by decide +kernel
theorem dX4_patches_37 : decode cX4_patches 37 = .ok (.goto (-33), 3) := by decide +kernel
theorem dX4_patches_40 : decode cX4_patches 40 = .ok (.iload_n 1, 1) := by decide +kernel
theorem dX4_patches_41 : decode cX4_patches 41 = .ok (.ireturn, 1) := by decide +kernel
theorem dX4_begin_0 : decode cX4_begin 0 = .ok (.iload_n 1, 1) := by decide +kernel
theorem dX4_begin_1 : decode cX4_begin 1 = .ok (.iconst 2, 1) := by decide +kernel
theorem dX4_begin_2 : decode cX4_begin 2 = .ok (.bipush 16, 2) := by decide +kernel
theorem dX4_begin_4 : decode cX4_begin 4 = .ok (.invokestatic 34, 3) := by decide +kernel
theorem dX4_begin_7 : decode cX4_begin 7 = .ok (.ifCond .eq 22, 3) := by decide +kernel
theorem dX4_begin_10 : decode cX4_begin 10 = .ok (.iload_n 2, 1) := by decide +kernel
theorem dX4_begin_11 : decode cX4_begin 11 = .ok (.iconst 1, 1) := by decide +kernel
theorem dX4_begin_12 : decode cX4_begin 12 = .ok (.bipush 10, 2) := by decide +kernel
theorem dX4_begin_14 : decode cX4_begin 14 = .ok (.invokestatic 34, 3) := by decide +kernel
theorem dX4_begin_17 : decode cX4_begin 17 = .ok (.ifCond .eq 12, 3) := by decide +kernel
theorem dX4_begin_20 : decode cX4_begin 20 = .ok (.iload_n 3, 1) := by decide +kernel
theorem dX4_begin_21 : decode cX4_begin 21 = .ok (.iconst 1, 1) := by decide +kernel
theorem dX4_begin_22 : decode cX4_begin 22 = .ok (.iconst 3, 1) := by decide +kernel
theorem dX4_begin_23 : decode cX4_begin 23 = .ok (.invokestatic 34, 3) := by decide +kernel
theorem dX4_begin_26 : decode cX4_begin 26 = .ok (.ifCond .ne 6, 3) := by decide +kernel
theorem dX4_begin_29 : decode cX4_begin 29 = .ok (.bipush (-3), 2) := by decide +kernel
theorem dX4_begin_31 : decode cX4_begin 31 = .ok (.ireturn, 1) := by decide +kernel
theorem dX4_begin_32 : decode cX4_begin 32 = .ok (.aload_n 0, 1) := by decide +kernel
theorem dX4_begin_33 : decode cX4_begin 33 = .ok (.invokevirtual 62, 3) := by decide +kernel
theorem dX4_begin_36 : decode cX4_begin 36 = .ok (.aload_n 0, 1) := by decide +kernel
theorem dX4_begin_37 : decode cX4_begin 37 = .ok (.invokevirtual 42, 3) := by decide +kernel
theorem dX4_begin_40 : decode cX4_begin 40 = .ok (.istore 4, 2) := by decide +kernel
theorem dX4_begin_42 : decode cX4_begin 42 = .ok (.aload_n 0, 1) := by decide +kernel
theorem dX4_begin_43 : decode cX4_begin 43 = .ok (.iload_n 1, 1) := by decide +kernel
theorem dX4_begin_44 : decode cX4_begin 44 = .ok (.iload_n 2, 1) := by decide +kernel
theorem dX4_begin_45 : decode cX4_begin 45 = .ok (.iload_n 3, 1) := by decide +kernel
theorem dX4_begin_46 : decode cX4_begin 46 = .ok (.invokevirtual 22, 3) := by decide +kernel
theorem dX4_begin_49 : decode cX4_begin 49 = .ok (.iload 4, 2) := by decide +kernel
theorem dX4_begin_51 : decode cX4_begin 51 = .ok (.ireturn, 1) := by decide +kernel
theorem dX4_count_0 : decode cX4_count 0 = .ok (.iload_n 1, 1) := by decide +kernel
theorem dX4_count_1 : decode cX4_count 1 = .ok (.iconst 0, 1) := by decide +kernel
theorem dX4_count_2 : decode cX4_count 2 = .ok (.bipush 8, 2) := by decide +kernel
theorem dX4_count_4 : decode cX4_count 4 = .ok (.invokestatic 34, 3) := by decide +kernel
theorem dX4_count_7 : decode cX4_count 7 = .ok (.ifCond .ne 6, 3) := by decide +kernel
theorem dX4_count_10 : decode cX4_count 10 = .ok (.bipush (-3), 2) := by decide +kernel
theorem dX4_count_12 : decode cX4_count 12 = .ok (.ireturn, 1) := by decide +kernel
theorem dX4_count_13 : decode cX4_count 13 = .ok (.iload_n 1, 1) := by decide +kernel
theorem dX4_count_14 : decode cX4_count 14 = .ok (.iconst 3, 1) := by decide +kernel
theorem dX4_count_15 : decode cX4_count 15 = .ok (.if_icmp .ge 10, 3) := by decide +kernel
theorem dX4_count_18 : decode cX4_count 18 = .ok (.aload_n 0, 1) := by decide +kernel
theorem dX4_count_19 : decode cX4_count 19 = .ok (.getfield 7, 3) := by decide +kernel
theorem dX4_count_22 : decode cX4_count 22 = .ok (.iload_n 1, 1) := by decide +kernel
theorem dX4_count_23 : decode cX4_count 23 = .ok (.iaload, 1) := by decide +kernel
theorem dX4_count_24 : decode cX4_count 24 = .ok (.ireturn, 1) := by decide +kernel
theorem dX4_count_25 : decode cX4_count 25 = .ok (.iconst 0, 1) := by decide +kernel
theorem dX4_count_26 : decode cX4_count 26 = .ok (.istore_n 2, 1) := by decide +kernel
theorem dX4_count_27 : decode cX4_count 27 = .ok (.iconst 0, 1) := by decide +kernel
theorem dX4_count_28 : decode cX4_count 28 = .ok (.istore_n 3, 1) := by decide +kernel
theorem dX4_count_29 : decode cX4_count 29 = .ok (.iload_n 3, 1) := by decide +kernel
theorem dX4_count_30 : decode cX4_count 30 = .ok (.aload_n 0, 1) := by decide +kernel
theorem dX4_count_31 : decode cX4_count 31 = .ok (.invokevirtual 38, 3) := by decide +kernel
theorem dX4_count_34 : decode cX4_count 34 = .ok (.if_icmp .ge 74, 3) := by decide +kernel
theorem dX4_count_37 : decode cX4_count 37 = .ok (.iload_n 2, 1) := by decide +kernel
theorem dX4_count_38 : decode cX4_count 38 = .ok (.iload_n 1, 1) := by decide +kernel
theorem dX4_count_39 : decode cX4_count 39 = .ok (.iconst 5, 1) := by decide +kernel
theorem dX4_count_40 : decode cX4_count 40 = .ok (.if_icmp .ne 24, 3) := by decide +kernel
theorem dX4_count_43 : decode cX4_count 43 = .ok (.iload_n 3, 1) := by decide +kernel
theorem dX4_count_44 : decode cX4_count 44 = .ok (.bipush 8, 2) := by decide +kernel
theorem dX4_count_46 : decode cX4_count 46 = .ok (.if_icmp .lt 18, 3) := by decide +kernel
theorem dX4_count_49 : decode cX4_count 49 = .ok (.aload_n 0, 1) := by decide +kernel
theorem dX4_count_50 : decode cX4_count 50 = .ok (.getfield 7, 3) := by decide +kernel
theorem dX4_count_53 : decode cX4_count 53 = .ok (.bipush 67, 2) := by decide +kernel
theorem dX4_count_55 : decode cX4_count 55 = .ok (.iload_n 3, 1) := by decide +kernel
theorem dX4_count_56 : decode cX4_count 56 = .ok (.iadd, 1) := by decide +kernel
theorem dX4_count_57 : decode cX4_count 57 = .ok (.bipush 8, 2) := by decide +kernel
theorem dX4_count_59 : decode cX4_count 59 = .ok (.isub, 1) := by decide +kernel
theorem dX4_count_60 : decode cX4_count 60 = .ok (.iaload, 1) := by decide +kernel
theorem dX4_count_61 : decode cX4_count 61 = .ok (.goto 39, 3) := by decide +kernel
theorem dX4_count_64 : decode cX4_count 64 = .ok (.iload_n 1, 1) := by decide +kernel
theorem dX4_count_65 : decode cX4_count 65 = .ok (.bipush 6, 2) := by decide +kernel
theorem dX4_count_67 : decode cX4_count 67 = .ok (.if_icmp .ne 18, 3) := by decide +kernel
theorem dX4_count_70 : decode cX4_count 70 = .ok (.aload_n 0, 1) := by decide +kernel
theorem dX4_count_71 : decode cX4_count 71 = .ok (.getfield 7, 3) := by decide +kernel
theorem dX4_count_74 : decode cX4_count 74 = .ok (.bipush 100, 2) := by decide +kernel
theorem dX4_count_76 : decode cX4_count 76 = .ok (.iload_n 3, 1) := by decide +kernel
theorem dX4_count_77 : decode cX4_count 77 = .ok (.iadd, 1) := by decide +kernel
theorem dX4_count_78 : decode cX4_count 78 = .ok (.iaload, 1) := by decide +kernel
theorem dX4_count_79 : decode cX4_count 79 = .ok (.invokestatic 45, 3) := by decide +kernel
theorem dX4_count_82 : decode cX4_count 82 = .ok (.goto 18, 3) := by decide +kernel
theorem dX4_count_85 : decode cX4_count 85 = .ok (.iload_n 1, 1) := by decide +kernel
theorem dX4_count_86 : decode cX4_count 86 = .ok (.bipush 8, 2) := by decide +kernel
theorem dX4_count_88 : decode cX4_count 88 = .ok (.if_icmp .ne 11, 3) := by decide +kernel
theorem dX4_count_91 : decode cX4_count 91 = .ok (.aload_n 0, 1) := by decide +kernel
theorem dX4_count_92 : decode cX4_count 92 = .ok (.iload_n 3, 1) := by decide +kernel
theorem dX4_count_93 : decode cX4_count 93 = .ok (.invokevirtual 65, 3) := by decide +kernel
theorem dX4_count_96 : decode cX4_count 96 = .ok (.goto 4, 3) := by decide +kernel
theorem dX4_count_99 : decode cX4_count 99 = .ok (.iconst 0, 1) := by decide +kernel
theorem dX4_count_100 : decode cX4_count 100 = .ok (.iadd, 1) := by decide +kernel
theorem dX4_count_101 : decode cX4_count 101 = .ok (.istore_n 2, 1) := by decide +kernel
theorem dX4_count_102 : decode cX4_count 102 = .ok (.iinc 3 1, 3) := by decide +kernel
theorem dX4_count_105 : decode cX4_count 105 = .ok (.goto (-76), 3) := by decide +kernel
theorem dX4_count_108 : decode cX4_count 108 = .ok (.iload_n 1, 1) := by decide +kernel
theorem dX4_count_109 : decode cX4_count 109 = .ok (.iconst 3, 1) := by decide +kernel
theorem dX4_count_110 : decode cX4_count 110 = .ok (.if_icmp .ne 10, 3) := by decide +kernel
theorem dX4_count_113 : decode cX4_count 113 = .ok (.aload_n 0, 1) := by decide +kernel
theorem dX4_count_114 : decode cX4_count 114 = .ok (.invokevirtual 42, 3) := by decide +kernel
theorem dX4_count_117 : decode cX4_count 117 = .ok (.goto 29, 3) := by decide +kernel
theorem dX4_count_120 : decode cX4_count 120 = .ok (.iload_n 1, 1) := by decide +kernel
theorem dX4_count_121 : decode cX4_count 121 = .ok (.iconst 4, 1) := by decide +kernel
theorem dX4_count_122 : decode cX4_count 122 = .ok (.if_icmp .ne 10, 3) := by decide +kernel
theorem dX4_count_125 : decode cX4_count 125 = .ok (.aload_n 0, 1) := by decide +kernel
theorem dX4_count_126 : decode cX4_count 126 = .ok (.invokevirtual 38, 3) := by decide +kernel
theorem dX4_count_129 : decode cX4_count 129 = .ok (.goto 17, 3) := by decide +kernel
theorem dX4_count_132 : decode cX4_count 132 = .ok (.iload_n 1, 1) := by decide +kernel
theorem dX4_count_133 : decode cX4_count 133 = .ok (.bipush 7, 2) := by decide +kernel
theorem dX4_count_135 : decode cX4_count 135 = .ok (.if_icmp .ne 10, 3) := by decide +kernel
theorem dX4_count_138 : decode cX4_count 138 = .ok (.aload_n 0, 1) := by decide +kernel
theorem dX4_count_139 : decode cX4_count 139 = .ok (.invokevirtual 68, 3) := by decide +kernel
theorem dX4_count_142 : decode cX4_count 142 = .ok (.goto 4, 3) := by decide +kernel
theorem dX4_count_145 : decode cX4_count 145 = .ok (.iload_n 2, 1) := by decide +kernel
theorem dX4_count_146 : decode cX4_count 146 = .ok (.ireturn, 1) := by decide +kernel
theorem dX4_setCode_0 : decode cX4_setCode 0 = .ok (.aload_n 0, 1) := by decide +kernel
theorem dX4_setCode_1 : decode cX4_setCode 1 = .ok (.iload_n 1, 1) := by decide +kernel
theorem dX4_setCode_2 : decode cX4_setCode 2 = .ok (.invokevirtual 71, 3) := by decide +kernel
theorem dX4_setCode_5 : decode cX4_setCode 5 = .ok (.ifCond .ne 6, 3) := by decide +kernel
theorem dX4_setCode_8 : decode cX4_setCode 8 = .ok (.bipush (-2), 2) := by decide +kernel
theorem dX4_setCode_10 : decode cX4_setCode 10 = .ok (.ireturn, 1) := by decide +kernel
theorem dX4_setCode_11 : decode cX4_setCode 11 = .ok (.iload_n 2, 1) := by decide +kernel
theorem dX4_setCode_12 : decode cX4_setCode 12 = .ok (.iconst 0, 1) := by decide +kernel
theorem dX4_setCode_13 : decode cX4_setCode 13 = .ok (.bipush 15, 2) := by decide +kernel
theorem dX4_setCode_15 : decode cX4_setCode 15 = .ok (.invokestatic 34, 3) := by decide +kernel
theorem dX4_setCode_18 : decode cX4_setCode 18 = .ok (.ifCond .ne 6, 3) := by decide +kernel
theorem dX4_setCode_21 : decode cX4_setCode 21 = .ok (.bipush (-3), 2) := by decide +kernel
theorem dX4_setCode_23 : decode cX4_setCode 23 = .ok (.ireturn, 1) := by decide +kernel
theorem dX4_setCode_24 : decode cX4_setCode 24 = .ok (.iconst 0, 1) := by decide +kernel
theorem dX4_setCode_25 : decode cX4_setCode 25 = .ok (.istore_n 3, 1) := by decide +kernel
theorem dX4_setCode_26 : decode cX4_setCode 26 = .ok (.iload_n 3, 1) := by decide +kernel
theorem dX4_setCode_27 : decode cX4_setCode 27 = .ok (.aload_n 0, 1) := by decide +kernel
theorem dX4_setCode_28 : decode cX4_setCode 28 = .ok (.getfield 7, 3) := by decide +kernel
theorem dX4_setCode_31 : decode cX4_setCode 31 = .ok (.iconst 0, 1) := by decide +kernel
theorem dX4_setCode_32 : decode cX4_setCode 32 = .ok (.iaload, 1) := by decide +kernel
theorem dX4_setCode_33 : decode cX4_setCode 33 = .ok (.if_icmp .ge 29, 3) := by decide +kernel
theorem dX4_setCode_36 : decode cX4_setCode 36 = .ok (.iload_n 3, 1) := by decide +kernel
theorem dX4_setCode_37 : decode cX4_setCode 37 = .ok (.iload_n 1, 1) := by decide +kernel
theorem dX4_setCode_38 : decode cX4_setCode 38 = .ok (.if_icmp .eq 18, 3) := by decide +kernel
theorem dX4_setCode_41 : decode cX4_setCode 41 = .ok (.aload_n 0, 1) := by decide +kernel
theorem dX4_setCode_42 : decode cX4_setCode 42 = .ok (.getfield 7, 3) := by decide +kernel
theorem dX4_setCode_45 : decode cX4_setCode 45 = .ok (.iconst 3, 1) := by decide +kernel
theorem dX4_setCode_46 : decode cX4_setCode 46 = .ok (.iload_n 3, 1) := by decide +kernel
theorem dX4_setCode_47 : decode cX4_setCode 47 = .ok (.iadd, 1) := by decide +kernel
theorem dX4_setCode_48 : decode cX4_setCode 48 = .ok (.iaload, 1) := by decide +kernel
theorem dX4_setCode_49 : decode cX4_setCode 49 = .ok (.iload_n 2, 1) := by decide +kernel
theorem dX4_setCode_50 : decode cX4_setCode 50 = .ok (.if_icmp .ne 6, 3) := by decide +kernel
theorem dX4_setCode_53 : decode cX4_setCode 53 = .ok (.bipush (-4), 2) := by decide +kernel
theorem dX4_setCode_55 : decode cX4_setCode 55 = .ok (.ireturn, 1) := by decide +kernel
theorem dX4_setCode_56 : decode cX4_setCode 56 = .ok (.iinc 3 1, 3) := by decide +kernel
theorem dX4_setCode_59 : decode cX4_setCode 59 = .ok (.goto (-33), 3) := by decide +kernel
theorem dX4_setCode_62 : decode cX4_setCode 62 = .ok (.aload_n 0, 1) := by decide +kernel
theorem dX4_setCode_63 : decode cX4_setCode 63 = .ok (.invokevirtual 62, 3) := by decide +kernel
theorem dX4_setCode_66 : decode cX4_setCode 66 = .ok (.aload_n 0, 1) := by decide +kernel
theorem dX4_setCode_67 : decode cX4_setCode 67 = .ok (.getfield 7, 3) := by decide +kernel
theorem dX4_setCode_70 : decode cX4_setCode 70 = .ok (.iconst 3, 1) := by decide +kernel
theorem dX4_setCode_71 : decode cX4_setCode 71 = .ok (.iload_n 1, 1) := by decide +kernel
theorem dX4_setCode_72 : decode cX4_setCode 72 = .ok (.iadd, 1) := by decide +kernel
theorem dX4_setCode_73 : decode cX4_setCode 73 = .ok (.iaload, 1) := by decide +kernel
theorem dX4_setCode_74 : decode cX4_setCode 74 = .ok (.istore_n 3, 1) := by decide +kernel
theorem dX4_setCode_75 : decode cX4_setCode 75 = .ok (.aload_n 0, 1) := by decide +kernel
theorem dX4_setCode_76 : decode cX4_setCode 76 = .ok (.getfield 7, 3) := by decide +kernel
theorem dX4_setCode_79 : decode cX4_setCode 79 = .ok (.iconst 3, 1) := by decide +kernel
theorem dX4_setCode_80 : decode cX4_setCode 80 = .ok (.iload_n 1, 1) := by decide +kernel
theorem dX4_setCode_81 : decode cX4_setCode 81 = .ok (.iadd, 1) := by decide +kernel
theorem dX4_setCode_82 : decode cX4_setCode 82 = .ok (.iload_n 2, 1) := by decide +kernel
theorem dX4_setCode_83 : decode cX4_setCode 83 = .ok (.iastore, 1) := by decide +kernel
theorem dX4_setCode_84 : decode cX4_setCode 84 = .ok (.iload_n 3, 1) := by decide +kernel
theorem dX4_setCode_85 : decode cX4_setCode 85 = .ok (.ireturn, 1) := by decide +kernel
theorem dX4_code_0 : decode cX4_code 0 = .ok (.aload_n 0, 1) := by decide +kernel
theorem dX4_code_1 : decode cX4_code 1 = .ok (.iload_n 1, 1) := by decide +kernel
theorem dX4_code_2 : decode cX4_code 2 = .ok (.invokevirtual 71, 3) := by decide +kernel
theorem dX4_code_5 : decode cX4_code 5 = .ok (.ifCond .eq 14, 3) := by decide +kernel
theorem dX4_code_8 : decode cX4_code 8 = .ok (.aload_n 0, 1) := by decide +kernel
theorem dX4_code_9 : decode cX4_code 9 = .ok (.getfield 7, 3) := by decide +kernel
theorem dX4_code_12 : decode cX4_code 12 = .ok (.iconst 3, 1) := by decide +kernel
theorem dX4_code_13 : decode cX4_code 13 = .ok (.iload_n 1, 1) := by decide +kernel
theorem dX4_code_14 : decode cX4_code 14 = .ok (.iadd, 1) := by decide +kernel
theorem dX4_code_15 : decode cX4_code 15 = .ok (.iaload, 1) := by decide +kernel
theorem dX4_code_16 : decode cX4_code 16 = .ok (.goto 5, 3) := by decide +kernel
theorem dX4_code_19 : decode cX4_code 19 = .ok (.bipush (-2), 2) := by decide +kernel
theorem dX4_code_21 : decode cX4_code 21 = .ok (.ireturn, 1) := by decide +kernel
theorem dX4_weave_0 : decode cX4_weave 0 = .ok (.aload_n 0, 1) := by decide +kernel
theorem dX4_weave_1 : decode cX4_weave 1 = .ok (.iload_n 1, 1) := by decide +kernel
theorem dX4_weave_2 : decode cX4_weave 2 = .ok (.invokevirtual 75, 3) := by decide +kernel
theorem dX4_weave_5 : decode cX4_weave 5 = .ok (.ifCond .ne 6, 3) := by decide +kernel
theorem dX4_weave_8 : decode cX4_weave 8 = .ok (.bipush (-2), 2) := by decide +kernel
theorem dX4_weave_10 : decode cX4_weave 10 = .ok (.ireturn, 1) := by decide +kernel
theorem dX4_weave_11 : decode cX4_weave 11 = .ok (.aload_n 0, 1) := by decide +kernel
theorem dX4_weave_12 : decode cX4_weave 12 = .ok (.iload_n 2, 1) := by decide +kernel
theorem dX4_weave_13 : decode cX4_weave 13 = .ok (.invokevirtual 78, 3) := by decide +kernel
theorem dX4_weave_16 : decode cX4_weave 16 = .ok (.ifCond .ne 6, 3) := by decide +kernel
theorem dX4_weave_19 : decode cX4_weave 19 = .ok (.bipush (-3), 2) := by decide +kernel
theorem dX4_weave_21 : decode cX4_weave 21 = .ok (.ireturn, 1) := by decide +kernel
theorem dX4_weave_22 : decode cX4_weave 22 = .ok (.aload_n 0, 1) := by decide +kernel
theorem dX4_weave_23 : decode cX4_weave 23 = .ok (.invokevirtual 62, 3) := by decide +kernel
theorem dX4_weave_26 : decode cX4_weave 26 = .ok (.aload_n 0, 1) := by decide +kernel
theorem dX4_weave_27 : decode cX4_weave 27 = .ok (.getfield 7, 3) := by decide +kernel
theorem dX4_weave_30 : decode cX4_weave 30 = .ok (.bipush 19, 2) := by decide +kernel
theorem dX4_weave_32 : decode cX4_weave 32 = .ok (.iload_n 1, 1) := by decide +kernel
theorem dX4_weave_33 : decode cX4_weave 33 = .ok (.iadd, 1) := by decide +kernel
theorem dX4_weave_34 : decode cX4_weave 34 = .ok (.iaload, 1) := by decide +kernel
theorem dX4_weave_35 : decode cX4_weave 35 = .ok (.istore_n 3, 1) := by decide +kernel
theorem dX4_weave_36 : decode cX4_weave 36 = .ok (.aload_n 0, 1) := by decide +kernel
theorem dX4_weave_37 : decode cX4_weave 37 = .ok (.getfield 7, 3) := by decide +kernel
theorem dX4_weave_40 : decode cX4_weave 40 = .ok (.bipush 19, 2) := by decide +kernel
theorem dX4_weave_42 : decode cX4_weave 42 = .ok (.iload_n 1, 1) := by decide +kernel
theorem dX4_weave_43 : decode cX4_weave 43 = .ok (.iadd, 1) := by decide +kernel
theorem dX4_weave_44 : decode cX4_weave 44 = .ok (.iload_n 2, 1) := by decide +kernel
theorem dX4_weave_45 : decode cX4_weave 45 = .ok (.iastore, 1) := by decide +kernel
theorem dX4_weave_46 : decode cX4_weave 46 = .ok (.iload_n 3, 1) := by decide +kernel
theorem dX4_weave_47 : decode cX4_weave 47 = .ok (.ireturn, 1) := by decide +kernel
theorem dX4_word_0 : decode cX4_word 0 = .ok (.aload_n 0, 1) := by decide +kernel
theorem dX4_word_1 : decode cX4_word 1 = .ok (.iload_n 1, 1) := by decide +kernel
theorem dX4_word_2 : decode cX4_word 2 = .ok (.invokevirtual 75, 3) := by decide +kernel
theorem dX4_word_5 : decode cX4_word 5 = .ok (.ifCond .eq 15, 3) := by decide +kernel
theorem dX4_word_8 : decode cX4_word 8 = .ok (.aload_n 0, 1) := by decide +kernel
theorem dX4_word_9 : decode cX4_word 9 = .ok (.getfield 7, 3) := by decide +kernel
theorem dX4_word_12 : decode cX4_word 12 = .ok (.bipush 19, 2) := by decide +kernel
theorem dX4_word_14 : decode cX4_word 14 = .ok (.iload_n 1, 1) := by decide +kernel
theorem dX4_word_15 : decode cX4_word 15 = .ok (.iadd, 1) := by decide +kernel
theorem dX4_word_16 : decode cX4_word 16 = .ok (.iaload, 1) := by decide +kernel
theorem dX4_word_17 : decode cX4_word 17 = .ok (.goto 5, 3) := by decide +kernel
theorem dX4_word_20 : decode cX4_word 20 = .ok (.bipush (-2), 2) := by decide +kernel
theorem dX4_word_22 : decode cX4_word 22 = .ok (.ireturn, 1) := by decide +kernel
theorem dX4_cross_0 : decode cX4_cross 0 = .ok (.aload_n 0, 1) := by decide +kernel
theorem dX4_cross_1 : decode cX4_cross 1 = .ok (.iload_n 1, 1) := by decide +kernel
theorem dX4_cross_2 : decode cX4_cross 2 = .ok (.invokevirtual 81, 3) := by decide +kernel
theorem dX4_cross_5 : decode cX4_cross 5 = .ok (.ifCond .ne 6, 3) := by decide +kernel
theorem dX4_cross_8 : decode cX4_cross 8 = .ok (.bipush (-2), 2) := by decide +kernel
theorem dX4_cross_10 : decode cX4_cross 10 = .ok (.ireturn, 1) := by decide +kernel
theorem dX4_cross_11 : decode cX4_cross 11 = .ok (.iload_n 1, 1) := by decide +kernel
theorem dX4_cross_12 : decode cX4_cross 12 = .ok (.bipush 8, 2) := by decide +kernel
theorem dX4_cross_14 : decode cX4_cross 14 = .ok (.if_icmp .ge 6, 3) := by decide +kernel
theorem dX4_cross_17 : decode cX4_cross 17 = .ok (.bipush (-4), 2) := by decide +kernel
theorem dX4_cross_19 : decode cX4_cross 19 = .ok (.ireturn, 1) := by decide +kernel
theorem dX4_cross_20 : decode cX4_cross 20 = .ok (.aload_n 0, 1) := by decide +kernel
theorem dX4_cross_21 : decode cX4_cross 21 = .ok (.invokevirtual 62, 3) := by decide +kernel
theorem dX4_cross_24 : decode cX4_cross 24 = .ok (.bipush 67, 2) := by decide +kernel
theorem dX4_cross_26 : decode cX4_cross 26 = .ok (.iload_n 1, 1) := by decide +kernel
theorem dX4_cross_27 : decode cX4_cross 27 = .ok (.iadd, 1) := by decide +kernel
theorem dX4_cross_28 : decode cX4_cross 28 = .ok (.bipush 8, 2) := by decide +kernel
theorem dX4_cross_30 : decode cX4_cross 30 = .ok (.isub, 1) := by decide +kernel
theorem dX4_cross_31 : decode cX4_cross 31 = .ok (.istore_n 2, 1) := by decide +kernel
theorem dX4_cross_32 : decode cX4_cross 32 = .ok (.aload_n 0, 1) := by decide +kernel
theorem dX4_cross_33 : decode cX4_cross 33 = .ok (.getfield 7, 3) := by decide +kernel
theorem dX4_cross_36 : decode cX4_cross 36 = .ok (.iload_n 2, 1) := by decide +kernel
theorem dX4_cross_37 : decode cX4_cross 37 = .ok (.iconst 1, 1) := by decide +kernel
theorem dX4_cross_38 : decode cX4_cross 38 = .ok (.aload_n 0, 1) := by decide +kernel
theorem dX4_cross_39 : decode cX4_cross 39 = .ok (.getfield 7, 3) := by decide +kernel
theorem dX4_cross_42 : decode cX4_cross 42 = .ok (.iload_n 2, 1) := by decide +kernel
theorem dX4_cross_43 : decode cX4_cross 43 = .ok (.iaload, 1) := by decide +kernel
theorem dX4_cross_44 : decode cX4_cross 44 = .ok (.isub, 1) := by decide +kernel
theorem dX4_cross_45 : decode cX4_cross 45 = .ok (.iastore, 1) := by decide +kernel
theorem dX4_cross_46 : decode cX4_cross 46 = .ok (.aload_n 0, 1) := by decide +kernel
theorem dX4_cross_47 : decode cX4_cross 47 = .ok (.getfield 7, 3) := by decide +kernel
theorem dX4_cross_50 : decode cX4_cross 50 = .ok (.iload_n 2, 1) := by decide +kernel
theorem dX4_cross_51 : decode cX4_cross 51 = .ok (.iaload, 1) := by decide +kernel
theorem dX4_cross_52 : decode cX4_cross 52 = .ok (.ireturn, 1) := by decide +kernel
theorem dX4_through_0 : decode cX4_through 0 = .ok (.aload_n 0, 1) := by decide +kernel
theorem dX4_through_1 : decode cX4_through 1 = .ok (.iload_n 1, 1) := by decide +kernel
theorem dX4_through_2 : decode cX4_through 2 = .ok (.invokevirtual 81, 3) := by decide +kernel
theorem dX4_through_5 : decode cX4_through 5 = .ok (.ifCond .eq 33, 3) := by decide +kernel
theorem dX4_through_8 : decode cX4_through 8 = .ok (.aload_n 0, 1) := by decide +kernel
theorem dX4_through_9 : decode cX4_through 9 = .ok (.iload_n 2, 1) := by decide +kernel
theorem dX4_through_10 : decode cX4_through 10 = .ok (.invokevirtual 71, 3) := by decide +kernel
theorem dX4_through_13 : decode cX4_through 13 = .ok (.ifCond .eq 25, 3) := by decide +kernel
theorem dX4_through_16 : decode cX4_through 16 = .ok (.aload_n 0, 1) := by decide +kernel
theorem dX4_through_17 : decode cX4_through 17 = .ok (.iload_n 1, 1) := by decide +kernel
theorem dX4_through_18 : decode cX4_through 18 = .ok (.invokevirtual 59, 3) := by decide +kernel
theorem dX4_through_21 : decode cX4_through 21 = .ok (.aload_n 0, 1) := by decide +kernel
theorem dX4_through_22 : decode cX4_through 22 = .ok (.getfield 7, 3) := by decide +kernel
theorem dX4_through_25 : decode cX4_through 25 = .ok (.bipush 100, 2) := by decide +kernel
theorem dX4_through_27 : decode cX4_through 27 = .ok (.iload_n 1, 1) := by decide +kernel
theorem dX4_through_28 : decode cX4_through 28 = .ok (.iadd, 1) := by decide +kernel
theorem dX4_through_29 : decode cX4_through 29 = .ok (.iaload, 1) := by decide +kernel
theorem dX4_through_30 : decode cX4_through 30 = .ok (.ixor, 1) := by decide +kernel
theorem dX4_through_31 : decode cX4_through 31 = .ok (.iload_n 2, 1) := by decide +kernel
theorem dX4_through_32 : decode cX4_through 32 = .ok (.ishr, 1) := by decide +kernel
theorem dX4_through_33 : decode cX4_through 33 = .ok (.iconst 1, 1) := by decide +kernel
theorem dX4_through_34 : decode cX4_through 34 = .ok (.iand, 1) := by decide +kernel
