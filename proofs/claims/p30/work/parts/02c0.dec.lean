theorem dX1_init_0 : decode cX1_init 0 = .ok (.aload_n 0, 1) := by decide +kernel
theorem dX1_init_1 : decode cX1_init 1 = .ok (.invokespecial 3, 3) := by decide +kernel
theorem dX1_init_4 : decode cX1_init 4 = .ok (.aload_n 0, 1) := by decide +kernel
theorem dX1_init_5 : decode cX1_init 5 = .ok (.bipush 41, 2) := by decide +kernel
theorem dX1_init_7 : decode cX1_init 7 = .ok (.newarray .int, 2) := by decide +kernel
theorem dX1_init_9 : decode cX1_init 9 = .ok (.putfield 9, 3) := by decide +kernel
theorem dX1_init_12 : decode cX1_init 12 = .ok (.aload_n 0, 1) := by decide +kernel
theorem dX1_init_13 : decode cX1_init 13 = .ok (.bipush 41, 2) := by decide +kernel
theorem dX1_init_15 : decode cX1_init 15 = .ok (.newarray .int, 2) := by decide +kernel
theorem dX1_init_17 : decode cX1_init 17 = .ok (.putfield 15, 3) := by decide +kernel
theorem dX1_init_20 : decode cX1_init 20 = .ok (.aload_n 0, 1) := by decide +kernel
theorem dX1_init_21 : decode cX1_init 21 = .ok (.bipush 41, 2) := by decide +kernel
theorem dX1_init_23 : decode cX1_init 23 = .ok (.newarray .int, 2) := by decide +kernel
theorem dX1_init_25 : decode cX1_init 25 = .ok (.putfield 18, 3) := by decide +kernel
theorem dX1_init_28 : decode cX1_init 28 = .ok (.aload_n 0, 1) := by decide +kernel
theorem dX1_init_29 : decode cX1_init 29 = .ok (.bipush 48, 2) := by decide +kernel
theorem dX1_init_31 : decode cX1_init 31 = .ok (.newarray .int, 2) := by decide +kernel
theorem dX1_init_33 : decode cX1_init 33 = .ok (.putfield 21, 3) := by decide +kernel
theorem dX1_init_36 : decode cX1_init 36 = .ok (.aload_n 0, 1) := by decide +kernel
theorem dX1_init_37 : decode cX1_init 37 = .ok (.bipush 8, 2) := by decide +kernel
theorem dX1_init_39 : decode cX1_init 39 = .ok (.bipush 6, 2) := by decide +kernel
theorem dX1_init_41 : decode cX1_init 41 = .ok (.iconst 2, 1) := by decide +kernel
theorem dX1_init_42 : decode cX1_init 42 = .ok (.invokevirtual 24, 3) := by decide +kernel
theorem dX1_init_45 : decode cX1_init 45 = .ok (.return_, 1) := by decide +kernel
theorem dX1_start_0 : decode cX1_start 0 = .ok (.aload_n 0, 1) := by decide +kernel
theorem dX1_start_1 : decode cX1_start 1 = .ok (.iload_n 1, 1) := by decide +kernel
theorem dX1_start_2 : decode cX1_start 2 = .ok (.putfield 28, 3) := by decide +kernel
theorem dX1_start_5 : decode cX1_start 5 = .ok (.aload_n 0, 1) := by decide +kernel
theorem dX1_start_6 : decode cX1_start 6 = .ok (.iload_n 2, 1) := by decide +kernel
theorem dX1_start_7 : decode cX1_start 7 = .ok (.putfield 32, 3) := by decide +kernel
theorem dX1_start_10 : decode cX1_start 10 = .ok (.aload_n 0, 1) := by decide +kernel
theorem dX1_start_11 : decode cX1_start 11 = .ok (.iload_n 3, 1) := by decide +kernel
theorem dX1_start_12 : decode cX1_start 12 = .ok (.putfield 35, 3) := by decide +kernel
theorem dX1_start_15 : decode cX1_start 15 = .ok (.iconst 0, 1) := by decide +kernel
theorem dX1_start_16 : decode cX1_start 16 = .ok (.istore 4, 2) := by decide +kernel
theorem dX1_start_18 : decode cX1_start 18 = .ok (.iload 4, 2) := by decide +kernel
theorem dX1_start_20 : decode cX1_start 20 = .ok (.bipush 41, 2) := by decide +kernel
theorem dX1_start_22 : decode cX1_start 22 = .ok (.if_icmp .ge 33, 3) := by decide +kernel
theorem dX1_start_25 : decode cX1_start 25 = .ok (.aload_n 0, 1) := by decide +kernel
theorem dX1_start_26 : decode cX1_start 26 = .ok (.getfield 9, 3) := by decide +kernel
theorem dX1_start_29 : decode cX1_start 29 = .ok (.iload 4, 2) := by decide +kernel
theorem dX1_start_31 : decode cX1_start 31 = .ok (.iconst 0, 1) := by decide +kernel
theorem dX1_start_32 : decode cX1_start 32 = .ok (.iastore, 1) := by decide +kernel
theorem dX1_start_33 : decode cX1_start 33 = .ok (.aload_n 0, 1) := by decide +kernel
theorem dX1_start_34 : decode cX1_start 34 = .ok (.getfield 15, 3) := by decide +kernel
theorem dX1_start_37 : decode cX1_start 37 = .ok (.iload 4, 2) := by decide +kernel
theorem dX1_start_39 : decode cX1_start 39 = .ok (.iconst 0, 1) := by decide +kernel
theorem dX1_start_40 : decode cX1_start 40 = .ok (.iastore, 1) := by decide +kernel
theorem dX1_start_41 : decode cX1_start 41 = .ok (.aload_n 0, 1) := by decide +kernel
theorem dX1_start_42 : decode cX1_start 42 = .ok (.getfield 18, 3) := by decide +kernel
theorem dX1_start_45 : decode cX1_start 45 = .ok (.iload 4, 2) := by decide +kernel
theorem dX1_start_47 : decode cX1_start 47 = .ok (.iconst 0, 1) := by decide +kernel
theorem dX1_start_48 : decode cX1_start 48 = .ok (.iastore, 1) := by decide +kernel
theorem dX1_start_49 : decode cX1_start 49 = .ok (.iinc 4 1, 3) := by decide +kernel
theorem dX1_start_52 : decode cX1_start 52 = .ok (.goto (-34), 3) := by decide +kernel
theorem dX1_start_55 : decode cX1_start 55 = .ok (.iconst 0, 1) := by decide +kernel
theorem dX1_start_56 : decode cX1_start 56 = .ok (.istore 4, 2) := by decide +kernel
theorem dX1_start_58 : decode cX1_start 58 = .ok (.iload 4, 2) := by decide +kernel
theorem dX1_start_60 : decode cX1_start 60 = .ok (.bipush 48, 2) := by decide +kernel
theorem dX1_start_62 : decode cX1_start 62 = .ok (.if_icmp .ge 17, 3) := by decide +kernel
theorem dX1_start_65 : decode cX1_start 65 = .ok (.aload_n 0, 1) := by decide +kernel
theorem dX1_start_66 : decode cX1_start 66 = .ok (.getfield 21, 3) := by decide +kernel
theorem dX1_start_69 : decode cX1_start 69 = .ok (.iload 4, 2) := by decide +kernel
theorem dX1_start_71 : decode cX1_start 71 = .ok (.iconst (-1), 1) := by decide +kernel
theorem dX1_start_72 : decode cX1_start 72 = .ok (.iastore, 1) := by decide +kernel
theorem dX1_start_73 : decode cX1_start 73 = .ok (.iinc 4 1, 3) := by decide +kernel
theorem dX1_start_76 : decode cX1_start 76 = .ok (.goto (-18), 3) := by decide +kernel
theorem dX1_start_79 : decode cX1_start 79 = .ok (.iconst 0, 1) := by decide +kernel
theorem dX1_start_80 : decode cX1_start 80 = .ok (.istore 4, 2) := by decide +kernel
theorem dX1_start_82 : decode cX1_start 82 = .ok (.iload 4, 2) := by decide +kernel
theorem dX1_start_84 : decode cX1_start 84 = .ok (.aload_n 0, 1) := by decide +kernel
theorem dX1_start_85 : decode cX1_start 85 = .ok (.getfield 28, 3) := by decide +kernel
theorem dX1_start_88 : decode cX1_start 88 = .ok (.if_icmp .ge 17, 3) := by decide +kernel
theorem dX1_start_91 : decode cX1_start 91 = .ok (.aload_n 0, 1) := by decide +kernel
theorem dX1_start_92 : decode cX1_start 92 = .ok (.iload 4, 2) := by decide +kernel
theorem dX1_start_94 : decode cX1_start 94 = .ok (.iload 4, 2) := by decide +kernel
theorem dX1_start_96 : decode cX1_start 96 = .ok (.invokevirtual 38, 3) := by decide +kernel
theorem dX1_start_99 : decode cX1_start 99 = .ok (.iinc 4 1, 3) := by decide +kernel
theorem dX1_start_102 : decode cX1_start 102 = .ok (.goto (-20), 3) := by decide +kernel
theorem dX1_start_105 : decode cX1_start 105 = .ok (.iconst 0, 1) := by decide +kernel
theorem dX1_start_106 : decode cX1_start 106 = .ok (.istore 4, 2) := by decide +kernel
theorem dX1_start_108 : decode cX1_start 108 = .ok (.iload 4, 2) := by decide +kernel
theorem dX1_start_110 : decode cX1_start 110 = .ok (.aload_n 0, 1) := by decide +kernel
theorem dX1_start_111 : decode cX1_start 111 = .ok (.invokevirtual 42, 3) := by decide +kernel
theorem dX1_start_114 : decode cX1_start 114 = .ok (.if_icmp .ge 16, 3) := by decide +kernel
theorem dX1_start_117 : decode cX1_start 117 = .ok (.aload_n 0, 1) := by decide +kernel
theorem dX1_start_118 : decode cX1_start 118 = .ok (.iload 4, 2) := by decide +kernel
theorem dX1_start_120 : decode cX1_start 120 = .ok (.iconst 0, 1) := by decide +kernel
theorem dX1_start_121 : decode cX1_start 121 = .ok (.invokevirtual 46, 3) := by decide +kernel
theorem dX1_start_124 : decode cX1_start 124 = .ok (.iinc 4 1, 3) := by decide +kernel
theorem dX1_start_127 : decode cX1_start 127 = .ok (.goto (-19), 3) := by decide +kernel
theorem dX1_start_130 : decode cX1_start 130 = .ok (.return_, 1) := by decide +kernel
theorem dX1_become_0 : decode cX1_become 0 = .ok (.aload_n 0, 1) := by decide +kernel
theorem dX1_become_1 : decode cX1_become 1 = .ok (.aload_n 1, 1) := by decide +kernel
theorem dX1_become_2 : decode cX1_become 2 = .ok (.getfield 28, 3) := by decide +kernel
theorem dX1_become_5 : decode cX1_become 5 = .ok (.putfield 28, 3) := by decide +kernel
theorem dX1_become_8 : decode cX1_become 8 = .ok (.aload_n 0, 1) := by decide +kernel
theorem dX1_become_9 : decode cX1_become 9 = .ok (.aload_n 1, 1) := by decide +kernel
theorem dX1_become_10 : decode cX1_become 10 = .ok (.getfield 32, 3) := by decide +kernel
theorem dX1_become_13 : decode cX1_become 13 = .ok (.putfield 32, 3) := by decide +kernel
theorem dX1_become_16 : decode cX1_become 16 = .ok (.aload_n 0, 1) := by decide +kernel
theorem dX1_become_17 : decode cX1_become 17 = .ok (.aload_n 1, 1) := by decide +kernel
theorem dX1_become_18 : decode cX1_become 18 = .ok (.getfield 35, 3) := by decide +kernel
theorem dX1_become_21 : decode cX1_become 21 = .ok (.putfield 35, 3) := by decide +kernel
theorem dX1_become_24 : decode cX1_become 24 = .ok (.aload_n 1, 1) := by decide +kernel
theorem dX1_become_25 : decode cX1_become 25 = .ok (.getfield 9, 3) := by decide +kernel
theorem dX1_become_28 : decode cX1_become 28 = .ok (.iconst 0, 1) := by decide +kernel
theorem dX1_become_29 : decode cX1_become 29 = .ok (.aload_n 0, 1) := by decide +kernel
theorem dX1_become_30 : decode cX1_become 30 = .ok (.getfield 9, 3) := by decide +kernel
theorem dX1_become_33 : decode cX1_become 33 = .ok (.iconst 0, 1) := by decide +kernel
theorem dX1_become_34 : decode cX1_become 34 = .ok (.bipush 41, 2) := by decide +kernel
theorem dX1_become_36 : decode cX1_become 36 = .ok (.invokestatic 49, 3) := by decide +kernel
theorem dX1_become_39 : decode cX1_become 39 = .ok (.aload_n 1, 1) := by decide +kernel
theorem dX1_become_40 : decode cX1_become 40 = .ok (.getfield 15, 3) := by decide +kernel
theorem dX1_become_43 : decode cX1_become 43 = .ok (.iconst 0, 1) := by decide +kernel
theorem dX1_become_44 : decode cX1_become 44 = .ok (.aload_n 0, 1) := by decide +kernel
theorem dX1_become_45 : decode cX1_become 45 = .ok (.getfield 15, 3) := by decide +kernel
theorem dX1_become_48 : decode cX1_become 48 = .ok (.iconst 0, 1) := by decide +kernel
theorem dX1_become_49 : decode cX1_become 49 = .ok (.bipush 41, 2) := by decide +kernel
theorem dX1_become_51 : decode cX1_become 51 = .ok (.invokestatic 49, 3) := by decide +kernel
theorem dX1_become_54 : decode cX1_become 54 = .ok (.aload_n 1, 1) := by decide +kernel
theorem dX1_become_55 : decode cX1_become 55 = .ok (.getfield 18, 3) := by decide +kernel
theorem dX1_become_58 : decode cX1_become 58 = .ok (.iconst 0, 1) := by decide +kernel
theorem dX1_become_59 : decode cX1_become 59 = .ok (.aload_n 0, 1) := by decide +kernel
theorem dX1_become_60 : decode cX1_become 60 = .ok (.getfield 18, 3) := by decide +kernel
theorem dX1_become_63 : decode cX1_become 63 = .ok (.iconst 0, 1) := by decide +kernel
theorem dX1_become_64 : decode cX1_become 64 = .ok (.bipush 41, 2) := by decide +kernel
theorem dX1_become_66 : decode cX1_become 66 = .ok (.invokestatic 49, 3) := by decide +kernel
theorem dX1_become_69 : decode cX1_become 69 = .ok (.aload_n 1, 1) := by decide +kernel
theorem dX1_become_70 : decode cX1_become 70 = .ok (.getfield 21, 3) := by decide +kernel
theorem dX1_become_73 : decode cX1_become 73 = .ok (.iconst 0, 1) := by decide +kernel
theorem dX1_become_74 : decode cX1_become 74 = .ok (.aload_n 0, 1) := by decide +kernel
theorem dX1_become_75 : decode cX1_become 75 = .ok (.getfield 21, 3) := by decide +kernel
theorem dX1_become_78 : decode cX1_become 78 = .ok (.iconst 0, 1) := by decide +kernel
theorem dX1_become_79 : decode cX1_become 79 = .ok (.bipush 48, 2) := by decide +kernel
theorem dX1_become_81 : decode cX1_become 81 = .ok (.invokestatic 49, 3) := by decide +kernel
theorem dX1_become_84 : decode cX1_become 84 = .ok (.return_, 1) := by decide +kernel
theorem dX1_addresses_0 : decode cX1_addresses 0 = .ok (.aload_n 0, 1) := by decide +kernel
theorem dX1_addresses_1 : decode cX1_addresses 1 = .ok (.getfield 28, 3) := by decide +kernel
theorem dX1_addresses_4 : decode cX1_addresses 4 = .ok (.aload_n 0, 1) := by decide +kernel
theorem dX1_addresses_5 : decode cX1_addresses 5 = .ok (.getfield 35, 3) := by decide +kernel
theorem dX1_addresses_8 : decode cX1_addresses 8 = .ok (.imul, 1) := by decide +kernel
theorem dX1_addresses_9 : decode cX1_addresses 9 = .ok (.ireturn, 1) := by decide +kernel
theorem dX1_wires_0 : decode cX1_wires 0 = .ok (.bipush 8, 2) := by decide +kernel
theorem dX1_wires_2 : decode cX1_wires 2 = .ok (.aload_n 0, 1) := by decide +kernel
theorem dX1_wires_3 : decode cX1_wires 3 = .ok (.getfield 35, 3) := by decide +kernel
theorem dX1_wires_6 : decode cX1_wires 6 = .ok (.aload_n 0, 1) := by decide +kernel
theorem dX1_wires_7 : decode cX1_wires 7 = .ok (.getfield 32, 3) := by decide +kernel
theorem dX1_wires_10 : decode cX1_wires 10 = .ok (.iconst 1, 1) := by decide +kernel
theorem dX1_wires_11 : decode cX1_wires 11 = .ok (.iadd, 1) := by decide +kernel
theorem dX1_wires_12 : decode cX1_wires 12 = .ok (.imul, 1) := by decide +kernel
theorem dX1_wires_13 : decode cX1_wires 13 = .ok (.iadd, 1) := by decide +kernel
theorem dX1_wires_14 : decode cX1_wires 14 = .ok (.ireturn, 1) := by decide +kernel
theorem dX1_highestWord_0 : decode cX1_highestWord 0 = .ok (.iconst 1, 1) := by decide +kernel
theorem dX1_highestWord_1 : decode cX1_highestWord 1 = .ok (.aload_n 0, 1) := by decide +kernel
theorem dX1_highestWord_2 : decode cX1_highestWord 2 = .ok (.getfield 32, 3) := by decide +kernel
theorem dX1_highestWord_5 : decode cX1_highestWord 5 = .ok (.ishl, 1) := by decide +kernel
theorem dX1_highestWord_6 : decode cX1_highestWord 6 = .ok (.iconst 1, 1) := by decide +kernel
theorem dX1_highestWord_7 : decode cX1_highestWord 7 = .ok (.isub, 1) := by decide +kernel
theorem dX1_highestWord_8 : decode cX1_highestWord 8 = .ok (.ireturn, 1) := by decide +kernel
theorem dX1_hasRing_0 : decode cX1_hasRing 0 = .ok (.iload_n 1, 1) := by decide +kernel
theorem dX1_hasRing_1 : decode cX1_hasRing 1 = .ok (.ifCond .lt 15, 3) := by decide +kernel
theorem dX1_hasRing_4 : decode cX1_hasRing 4 = .ok (.iload_n 1, 1) := by decide +kernel
theorem dX1_hasRing_5 : decode cX1_hasRing 5 = .ok (.aload_n 0, 1) := by decide +kernel
theorem dX1_hasRing_6 : decode cX1_hasRing 6 = .ok (.getfield 28, 3) := by decide +kernel
theorem dX1_hasRing_9 : decode cX1_hasRing 9 = .ok (.if_icmp .ge 7, 3) := by decide +kernel
theorem dX1_hasRing_12 : decode cX1_hasRing 12 = .ok (.iconst 1, 1) := by decide +kernel
theorem dX1_hasRing_13 : decode cX1_hasRing 13 = .ok (.goto 4, 3) := by decide +kernel
theorem dX1_hasRing_16 : decode cX1_hasRing 16 = .ok (.iconst 0, 1) := by decide +kernel
theorem dX1_hasRing_17 : decode cX1_hasRing 17 = .ok (.ireturn, 1) := by decide +kernel
theorem dX1_hasWire_0 : decode cX1_hasWire 0 = .ok (.iload_n 1, 1) := by decide +kernel
theorem dX1_hasWire_1 : decode cX1_hasWire 1 = .ok (.ifCond .lt 15, 3) := by decide +kernel
theorem dX1_hasWire_4 : decode cX1_hasWire 4 = .ok (.iload_n 1, 1) := by decide +kernel
theorem dX1_hasWire_5 : decode cX1_hasWire 5 = .ok (.aload_n 0, 1) := by decide +kernel
theorem dX1_hasWire_6 : decode cX1_hasWire 6 = .ok (.invokevirtual 55, 3) := by decide +kernel
theorem dX1_hasWire_9 : decode cX1_hasWire 9 = .ok (.if_icmp .ge 7, 3) := by decide +kernel
theorem dX1_hasWire_12 : decode cX1_hasWire 12 = .ok (.iconst 1, 1) := by decide +kernel
theorem dX1_hasWire_13 : decode cX1_hasWire 13 = .ok (.goto 4, 3) := by decide +kernel
theorem dX1_hasWire_16 : decode cX1_hasWire 16 = .ok (.iconst 0, 1) := by decide +kernel
theorem dX1_hasWire_17 : decode cX1_hasWire 17 = .ok (.ireturn, 1) := by decide +kernel
theorem dX1_hasAddress_0 : decode cX1_hasAddress 0 = .ok (.iload_n 1, 1) := by decide +kernel
theorem dX1_hasAddress_1 : decode cX1_hasAddress 1 = .ok (.ifCond .lt 15, 3) := by decide +kernel
theorem dX1_hasAddress_4 : decode cX1_hasAddress 4 = .ok (.iload_n 1, 1) := by decide +kernel
theorem dX1_hasAddress_5 : decode cX1_hasAddress 5 = .ok (.aload_n 0, 1) := by decide +kernel
theorem dX1_hasAddress_6 : decode cX1_hasAddress 6 = .ok (.invokevirtual 42, 3) := by decide +kernel
theorem dX1_hasAddress_9 : decode cX1_hasAddress 9 = .ok (.if_icmp .ge 7, 3) := by decide +kernel
theorem dX1_hasAddress_12 : decode cX1_hasAddress 12 = .ok (.iconst 1, 1) := by decide +kernel
theorem dX1_hasAddress_13 : decode cX1_hasAddress 13 = .ok (.goto 4, 3) := by decide +kernel
theorem dX1_hasAddress_16 : decode cX1_hasAddress 16 = .ok (.iconst 0, 1) := by decide +kernel
theorem dX1_hasAddress_17 : decode cX1_hasAddress 17 = .ok (.ireturn, 1) := by decide +kernel
theorem dX1_fits_0 : decode cX1_fits 0 = .ok (.iload_n 1, 1) := by decide +kernel
theorem dX1_fits_1 : decode cX1_fits 1 = .ok (.ifCond .lt 15, 3) := by decide +kernel
theorem dX1_fits_4 : decode cX1_fits 4 = .ok (.iload_n 1, 1) := by decide +kernel
theorem dX1_fits_5 : decode cX1_fits 5 = .ok (.aload_n 0, 1) := by decide +kernel
theorem dX1_fits_6 : decode cX1_fits 6 = .ok (.invokevirtual 58, 3) := by decide +kernel
theorem dX1_fits_9 : decode cX1_fits 9 = .ok (.if_icmp .gt 7, 3) := by decide +kernel
theorem dX1_fits_12 : decode cX1_fits 12 = .ok (.iconst 1, 1) := by decide +kernel
theorem dX1_fits_13 : decode cX1_fits 13 = .ok (.goto 4, 3) := by decide +kernel
theorem dX1_fits_16 : decode cX1_fits 16 = .ok (.iconst 0, 1) := by decide +kernel
theorem dX1_fits_17 : decode cX1_fits 17 = .ok (.ireturn, 1) := by decide +kernel
theorem dX1_ringOf_0 : decode cX1_ringOf 0 = .ok (.iload_n 1, 1) := by decide +kernel
theorem dX1_ringOf_1 : decode cX1_ringOf 1 = .ok (.aload_n 0, 1) := by decide +kernel
theorem dX1_ringOf_2 : decode cX1_ringOf 2 = .ok (.getfield 35, 3) := by decide +kernel
theorem dX1_ringOf_5 : decode cX1_ringOf 5 = .ok (.idiv, 1) := by decide +kernel
theorem dX1_ringOf_6 : decode cX1_ringOf 6 = .ok (.ireturn, 1) := by decide +kernel
theorem dX1_setOf_0 : decode cX1_setOf 0 = .ok (.iload_n 1, 1) := by decide +kernel
theorem dX1_setOf_1 : decode cX1_setOf 1 = .ok (.aload_n 0, 1) := by decide +kernel
theorem dX1_setOf_2 : decode cX1_setOf 2 = .ok (.getfield 35, 3) := by decide +kernel
theorem dX1_setOf_5 : decode cX1_setOf 5 = .ok (.irem, 1) := by decide +kernel
theorem dX1_setOf_6 : decode cX1_setOf 6 = .ok (.ireturn, 1) := by decide +kernel
theorem dX1_senseWire_0 : decode cX1_senseWire 0 = .ok (.bipush 8, 2) := by decide +kernel
theorem dX1_senseWire_2 : decode cX1_senseWire 2 = .ok (.iload_n 1, 1) := by decide +kernel
theorem dX1_senseWire_3 : decode cX1_senseWire 3 = .ok (.aload_n 0, 1) := by decide +kernel
theorem dX1_senseWire_4 : decode cX1_senseWire 4 = .ok (.getfield 32, 3) := by decide +kernel
theorem dX1_senseWire_7 : decode cX1_senseWire 7 = .ok (.iconst 1, 1) := by decide +kernel
theorem dX1_senseWire_8 : decode cX1_senseWire 8 = .ok (.iadd, 1) := by decide +kernel
theorem dX1_senseWire_9 : decode cX1_senseWire 9 = .ok (.imul, 1) := by decide +kernel
theorem dX1_senseWire_10 : decode cX1_senseWire 10 = .ok (.iadd, 1) := by decide +kernel
theorem dX1_senseWire_11 : decode cX1_senseWire 11 = .ok (.iload_n 2, 1) := by decide +kernel
theorem dX1_senseWire_12 : decode cX1_senseWire 12 = .ok (.iadd, 1) := by decide +kernel
theorem dX1_senseWire_13 : decode cX1_senseWire 13 = .ok (.ireturn, 1) := by decide +kernel
theorem dX1_number_0 : decode cX1_number 0 = .ok (.iload_n 1, 1) := by decide +kernel
theorem dX1_number_1 : decode cX1_number 1 = .ok (.tableswitch 87 0 7 #[47, 52, 57, 62, 67, 72, 77, 82], 47) := by decide +kernel
theorem dX1_number_48 : decode cX1_number 48 = .ok (.aload_n 0, 1) := by decide +kernel
theorem dX1_number_49 : decode cX1_number 49 = .ok (.getfield 28, 3) := by decide +kernel
theorem dX1_number_52 : decode cX1_number 52 = .ok (.ireturn, 1) := by decide +kernel
theorem dX1_number_53 : decode cX1_number 53 = .ok (.aload_n 0, 1) := by decide +kernel
theorem dX1_number_54 : decode cX1_number 54 = .ok (.getfield 32, 3) := by decide +kernel
theorem dX1_number_57 : decode cX1_number 57 = .ok (.ireturn, 1) := by decide +kernel
theorem dX1_number_58 : decode cX1_number 58 = .ok (.aload_n 0, 1) := by decide +kernel
theorem dX1_number_59 : decode cX1_number 59 = .ok (.getfield 35, 3) := by decide +kernel
theorem dX1_number_62 : decode cX1_number 62 = .ok (.ireturn, 1) := by decide +kernel
theorem dX1_number_63 : decode cX1_number 63 = .ok (.aload_n 0, 1) := by decide +kernel
theorem dX1_number_64 : decode cX1_number 64 = .ok (.invokevirtual 42, 3) := by decide +kernel
theorem dX1_number_67 : decode cX1_number 67 = .ok (.ireturn, 1) := by decide +kernel
theorem dX1_number_68 : decode cX1_number 68 = .ok (.aload_n 0, 1) := by decide +kernel
theorem dX1_number_69 : decode cX1_number 69 = .ok (.invokevirtual 55, 3) := by decide +kernel
theorem dX1_number_72 : decode cX1_number 72 = .ok (.ireturn, 1) := by decide +kernel
theorem dX1_number_73 : decode cX1_number 73 = .ok (.aload_n 0, 1) := by decide +kernel
theorem dX1_number_74 : decode cX1_number 74 = .ok (.invokevirtual 61, 3) := by decide +kernel
theorem dX1_number_77 : decode cX1_number 77 = .ok (.ireturn, 1) := by decide +kernel
theorem dX1_number_78 : decode cX1_number 78 = .ok (.aload_n 0, 1) := by decide +kernel
theorem dX1_number_79 : decode cX1_number 79 = .ok (.invokevirtual 64, 3) := by decide +kernel
theorem dX1_number_82 : decode cX1_number 82 = .ok (.ireturn, 1) := by decide +kernel
theorem dX1_number_83 : decode cX1_number 83 = .ok (.aload_n 0, 1) := by decide +kernel
theorem dX1_number_84 : decode cX1_number 84 = .ok (.invokevirtual 67, 3) := by decide +kernel
theorem dX1_number_87 : decode cX1_number 87 = .ok (.ireturn, 1) := by decide +kernel
theorem dX1_number_88 : decode cX1_number 88 = .ok (.aload_n 0, 1) := by decide +kernel
theorem dX1_number_89 : decode cX1_number 89 = .ok (.invokevirtual 70, 3) := by decide +kernel
theorem dX1_number_92 : decode cX1_number 92 = .ok (.ireturn, 1) := by decide +kernel
theorem dX1_crossedWires_0 : decode cX1_crossedWires 0 = .ok (.iconst 0, 1) := by decide +kernel
theorem dX1_crossedWires_1 : decode cX1_crossedWires 1 = .ok (.istore_n 1, 1) := by decide +kernel
theorem dX1_crossedWires_2 : decode cX1_crossedWires 2 = .ok (.bipush 8, 2) := by decide +kernel
theorem dX1_crossedWires_4 : decode cX1_crossedWires 4 = .ok (.istore_n 2, 1) := by decide +kernel
theorem dX1_crossedWires_5 : decode cX1_crossedWires 5 = .ok (.iload_n 2, 1) := by decide +kernel
theorem dX1_crossedWires_6 : decode cX1_crossedWires 6 = .ok (.aload_n 0, 1) := by decide +kernel
theorem dX1_crossedWires_7 : decode cX1_crossedWires 7 = .ok (.invokevirtual 55, 3) := by decide +kernel
theorem dX1_crossedWires_10 : decode cX1_crossedWires 10 = .ok (.if_icmp .ge 18, 3) := by decide +kernel
theorem dX1_crossedWires_13 : decode cX1_crossedWires 13 = .ok (.iload_n 1, 1) := by decide +kernel
theorem dX1_crossedWires_14 : decode cX1_crossedWires 14 = .ok (.aload_n 0, 1) := by decide +kernel
theorem dX1_crossedWires_15 : decode cX1_crossedWires 15 = .ok (.getfield 18, 3) := by decide +kernel
theorem dX1_crossedWires_18 : decode cX1_crossedWires 18 = .ok (.iload_n 2, 1) := by decide +kernel
theorem dX1_crossedWires_19 : decode cX1_crossedWires 19 = .ok (.iaload, 1) := by decide +kernel
theorem dX1_crossedWires_20 : decode cX1_crossedWires 20 = .ok (.iadd, 1) := by decide +kernel
theorem dX1_crossedWires_21 : decode cX1_crossedWires 21 = .ok (.istore_n 1, 1) := by decide +kernel
theorem dX1_crossedWires_22 : decode cX1_crossedWires 22 = .ok (.iinc 2 1, 3) := by decide +kernel
theorem dX1_crossedWires_25 : decode cX1_crossedWires 25 = .ok (.goto (-20), 3) := by decide +kernel
theorem dX1_crossedWires_28 : decode cX1_crossedWires 28 = .ok (.iload_n 1, 1) := by decide +kernel
theorem dX1_crossedWires_29 : decode cX1_crossedWires 29 = .ok (.ireturn, 1) := by decide +kernel
theorem dX1_wrongWeaveCount_0 : decode cX1_wrongWeaveCount 0 = .ok (.iconst 0, 1) := by decide +kernel
theorem dX1_wrongWeaveCount_1 : decode cX1_wrongWeaveCount 1 = .ok (.istore_n 1, 1) := by decide +kernel
theorem dX1_wrongWeaveCount_2 : decode cX1_wrongWeaveCount 2 = .ok (.iconst 0, 1) := by decide +kernel
theorem dX1_wrongWeaveCount_3 : decode cX1_wrongWeaveCount 3 = .ok (.istore_n 2, 1) := by decide +kernel
theorem dX1_wrongWeaveCount_4 : decode cX1_wrongWeaveCount 4 = .ok (.iload_n 2, 1) := by decide +kernel
theorem dX1_wrongWeaveCount_5 : decode cX1_wrongWeaveCount 5 = .ok (.aload_n 0, 1) := by decide +kernel
theorem dX1_wrongWeaveCount_6 : decode cX1_wrongWeaveCount 6 = .ok (.invokevirtual 55, 3) := by decide +kernel
theorem dX1_wrongWeaveCount_9 : decode cX1_wrongWeaveCount 9 = .ok (.if_icmp .ge 21, 3) := by decide +kernel
theorem dX1_wrongWeaveCount_12 : decode cX1_wrongWeaveCount 12 = .ok (.iload_n 1, 1) := by decide +kernel
theorem dX1_wrongWeaveCount_13 : decode cX1_wrongWeaveCount 13 = .ok (.aload_n 0, 1) := by decide +kernel
theorem dX1_wrongWeaveCount_14 : decode cX1_wrongWeaveCount 14 = .ok (.getfield 15, 3) := by decide +kernel
theorem dX1_wrongWeaveCount_17 : decode cX1_wrongWeaveCount 17 = .ok (.iload_n 2, 1) := by decide +kernel
theorem dX1_wrongWeaveCount_18 : decode cX1_wrongWeaveCount 18 = .ok (.iaload, 1) := by decide +kernel
theorem dX1_wrongWeaveCount_19 : decode cX1_wrongWeaveCount 19 = .ok (.invokestatic 73, 3) := by decide +kernel
theorem dX1_wrongWeaveCount_22 : decode cX1_wrongWeaveCount 22 = .ok (.iadd, 1) := by decide +kernel
theorem dX1_wrongWeaveCount_23 : decode cX1_wrongWeaveCount 23 = .ok (.istore_n 1, 1) := by decide +kernel
theorem dX1_wrongWeaveCount_24 : decode cX1_wrongWeaveCount 24 = .ok (.iinc 2 1, 3) := by decide +kernel
theorem dX1_wrongWeaveCount_27 : decode cX1_wrongWeaveCount 27 = .ok (.goto (-23), 3) := by decide +kernel
theorem dX1_wrongWeaveCount_30 : decode cX1_wrongWeaveCount 30 = .ok (.iload_n 1, 1) := by decide +kernel
theorem dX1_wrongWeaveCount_31 : decode cX1_wrongWeaveCount 31 = .ok (.ireturn, 1) := by decide +kernel
theorem dX1_wholeCost_0 : decode cX1_wholeCost 0 = .ok (.iconst 0, 1) := by decide +kernel
theorem dX1_wholeCost_1 : decode cX1_wholeCost 1 = .ok (.istore_n 1, 1) := by decide +kernel
theorem dX1_wholeCost_2 : decode cX1_wholeCost 2 = .ok (.iconst 0, 1) := by decide +kernel
theorem dX1_wholeCost_3 : decode cX1_wholeCost 3 = .ok (.istore_n 2, 1) := by decide +kernel
theorem dX1_wholeCost_4 : decode cX1_wholeCost 4 = .ok (.iload_n 2, 1) := by decide +kernel
theorem dX1_wholeCost_5 : decode cX1_wholeCost 5 = .ok (.aload_n 0, 1) := by decide +kernel
theorem dX1_wholeCost_6 : decode cX1_wholeCost 6 = .ok (.invokevirtual 55, 3) := by decide +kernel
theorem dX1_wholeCost_9 : decode cX1_wholeCost 9 = .ok (.if_icmp .ge 17, 3) := by decide +kernel
theorem dX1_wholeCost_12 : decode cX1_wholeCost 12 = .ok (.iload_n 1, 1) := by decide +kernel
theorem dX1_wholeCost_13 : decode cX1_wholeCost 13 = .ok (.aload_n 0, 1) := by decide +kernel
theorem dX1_wholeCost_14 : decode cX1_wholeCost 14 = .ok (.iload_n 2, 1) := by decide +kernel
theorem dX1_wholeCost_15 : decode cX1_wholeCost 15 = .ok (.invokevirtual 79, 3) := by decide +kernel
theorem dX1_wholeCost_18 : decode cX1_wholeCost 18 = .ok (.iadd, 1) := by decide +kernel
theorem dX1_wholeCost_19 : decode cX1_wholeCost 19 = .ok (.istore_n 1, 1) := by decide +kernel
theorem dX1_wholeCost_20 : decode cX1_wholeCost 20 = .ok (.iinc 2 1, 3) := by decide +kernel
theorem dX1_wholeCost_23 : decode cX1_wholeCost 23 = .ok (.goto (-19), 3) := by decide +kernel
theorem dX1_wholeCost_26 : decode cX1_wholeCost 26 = .ok (.iload_n 1, 1) := by decide +kernel
theorem dX1_wholeCost_27 : decode cX1_wholeCost 27 = .ok (.ireturn, 1) := by decide +kernel
theorem dX1_putBit_0 : decode cX1_putBit 0 = .ok (.aload_n 0, 1) := by decide +kernel
theorem dX1_putBit_1 : decode cX1_putBit 1 = .ok (.getfield 9, 3) := by decide +kernel
theorem dX1_putBit_4 : decode cX1_putBit 4 = .ok (.iload_n 1, 1) := by decide +kernel
theorem dX1_putBit_5 : decode cX1_putBit 5 = .ok (.aload_n 0, 1) := by decide +kernel
theorem dX1_putBit_6 : decode cX1_putBit 6 = .ok (.getfield 9, 3) := by decide +kernel
theorem dX1_putBit_9 : decode cX1_putBit 9 = .ok (.iload_n 1, 1) := by decide +kernel
theorem dX1_putBit_10 : decode cX1_putBit 10 = .ok (.iaload, 1) := by decide +kernel
theorem dX1_putBit_11 : decode cX1_putBit 11 = .ok (.iconst 1, 1) := by decide +kernel
theorem dX1_putBit_12 : decode cX1_putBit 12 = .ok (.iload_n 2, 1) := by decide +kernel
theorem dX1_putBit_13 : decode cX1_putBit 13 = .ok (.ishl, 1) := by decide +kernel
theorem dX1_putBit_14 : decode cX1_putBit 14 = .ok (.iconst (-1), 1) := by decide +kernel
theorem dX1_putBit_15 : decode cX1_putBit 15 = .ok (.ixor, 1) := by decide +kernel
theorem dX1_putBit_16 : decode cX1_putBit 16 = .ok (.iand, 1) := by decide +kernel
theorem dX1_putBit_17 : decode cX1_putBit 17 = .ok (.iload_n 3, 1) := by decide +kernel
theorem dX1_putBit_18 : decode cX1_putBit 18 = .ok (.iload_n 2, 1) := by decide +kernel
theorem dX1_putBit_19 : decode cX1_putBit 19 = .ok (.ishl, 1) := by decide +kernel
theorem dX1_putBit_20 : decode cX1_putBit 20 = .ok (.ior, 1) := by decide +kernel
theorem dX1_putBit_21 : decode cX1_putBit 21 = .ok (.iastore, 1) := by decide +kernel
theorem dX1_putBit_22 : decode cX1_putBit 22 = .ok (.return_, 1) := by decide +kernel
theorem dX1_codeOf_0 : decode cX1_codeOf 0 = .ok (.iconst 0, 1) := by decide +kernel
theorem dX1_codeOf_1 : decode cX1_codeOf 1 = .ok (.istore_n 2, 1) := by decide +kernel
theorem dX1_codeOf_2 : decode cX1_codeOf 2 = .ok (.iconst 0, 1) := by decide +kernel
theorem dX1_codeOf_3 : decode cX1_codeOf 3 = .ok (.istore_n 3, 1) := by decide +kernel
theorem dX1_codeOf_4 : decode cX1_codeOf 4 = .ok (.iload_n 3, 1) := by decide +kernel
theorem dX1_codeOf_5 : decode cX1_codeOf 5 = .ok (.iconst 4, 1) := by decide +kernel
theorem dX1_codeOf_6 : decode cX1_codeOf 6 = .ok (.if_icmp .ge 28, 3) := by decide +kernel
theorem dX1_codeOf_9 : decode cX1_codeOf 9 = .ok (.iload_n 2, 1) := by decide +kernel
theorem dX1_codeOf_10 : decode cX1_codeOf 10 = .ok (.aload_n 0, 1) := by decide +kernel
theorem dX1_codeOf_11 : decode cX1_codeOf 11 = .ok (.getfield 9, 3) := by decide +kernel
theorem dX1_codeOf_14 : decode cX1_codeOf 14 = .ok (.iconst 2, 1) := by decide +kernel
theorem dX1_codeOf_15 : decode cX1_codeOf 15 = .ok (.iload_n 3, 1) := by decide +kernel
theorem dX1_codeOf_16 : decode cX1_codeOf 16 = .ok (.imul, 1) := by decide +kernel
theorem dX1_codeOf_17 : decode cX1_codeOf 17 = .ok (.iconst 1, 1) := by decide +kernel
theorem dX1_codeOf_18 : decode cX1_codeOf 18 = .ok (.iadd, 1) := by decide +kernel
theorem dX1_codeOf_19 : decode cX1_codeOf 19 = .ok (.iaload, 1) := by decide +kernel
theorem dX1_codeOf_20 : decode cX1_codeOf 20 = .ok (.iload_n 1, 1) := by decide +kernel
theorem dX1_codeOf_21 : decode cX1_codeOf 21 = .ok (.ishr, 1) := by decide +kernel
theorem dX1_codeOf_22 : decode cX1_codeOf 22 = .ok (.iconst 1, 1) := by decide +kernel
theorem dX1_codeOf_23 : decode cX1_codeOf 23 = .ok (.iand, 1) := by decide +kernel
theorem dX1_codeOf_24 : decode cX1_codeOf 24 = .ok (.iload_n 3, 1) := by decide +kernel
theorem dX1_codeOf_25 : decode cX1_codeOf 25 = .ok (.ishl, 1) := by decide +kernel
theorem dX1_codeOf_26 : decode cX1_codeOf 26 = .ok (.ior, 1) := by decide +kernel
theorem dX1_codeOf_27 : decode cX1_codeOf 27 = .ok (.istore_n 2, 1) := by decide +kernel
theorem dX1_codeOf_28 : decode cX1_codeOf 28 = .ok (.iinc 3 1, 3) := by decide +kernel
theorem dX1_codeOf_31 : decode cX1_codeOf 31 = .ok (.goto (-27), 3) := by decide +kernel
theorem dX1_codeOf_34 : decode cX1_codeOf 34 = .ok (.iload_n 2, 1) := by decide +kernel
theorem dX1_codeOf_35 : decode cX1_codeOf 35 = .ok (.ireturn, 1) := by decide +kernel
theorem dX1_putCode_0 : decode cX1_putCode 0 = .ok (.iconst 0, 1) := by decide +kernel
theorem dX1_putCode_1 : decode cX1_putCode 1 = .ok (.istore_n 3, 1) := by decide +kernel
theorem dX1_putCode_2 : decode cX1_putCode 2 = .ok (.iload_n 3, 1) := by decide +kernel
theorem dX1_putCode_3 : decode cX1_putCode 3 = .ok (.iconst 4, 1) := by decide +kernel
theorem dX1_putCode_4 : decode cX1_putCode 4 = .ok (.if_icmp .ge 40, 3) := by decide +kernel
theorem dX1_putCode_7 : decode cX1_putCode 7 = .ok (.iload_n 2, 1) := by decide +kernel
theorem dX1_putCode_8 : decode cX1_putCode 8 = .ok (.iload_n 3, 1) := by decide +kernel
theorem dX1_putCode_9 : decode cX1_putCode 9 = .ok (.ishr, 1) := by decide +kernel
theorem dX1_putCode_10 : decode cX1_putCode 10 = .ok (.iconst 1, 1) := by decide +kernel
theorem dX1_putCode_11 : decode cX1_putCode 11 = .ok (.iand, 1) := by decide +kernel
theorem dX1_putCode_12 : decode cX1_putCode 12 = .ok (.istore 4, 2) := by decide +kernel
theorem dX1_putCode_14 : decode cX1_putCode 14 = .ok (.aload_n 0, 1) := by decide +kernel
theorem dX1_putCode_15 : decode cX1_putCode 15 = .ok (.iconst 2, 1) := by decide +kernel
theorem dX1_putCode_16 : decode cX1_putCode 16 = .ok (.iload_n 3, 1) := by decide +kernel
theorem dX1_putCode_17 : decode cX1_putCode 17 = .ok (.imul, 1) := by decide +kernel
theorem dX1_putCode_18 : decode cX1_putCode 18 = .ok (.iload_n 1, 1) := by decide +kernel
theorem dX1_putCode_19 : decode cX1_putCode 19 = .ok (.iconst 1, 1) := by decide +kernel
theorem dX1_putCode_20 : decode cX1_putCode 20 = .ok (.iload 4, 2) := by decide +kernel
theorem dX1_putCode_22 : decode cX1_putCode 22 = .ok (.isub, 1) := by decide +kernel
theorem dX1_putCode_23 : decode cX1_putCode 23 = .ok (.invokevirtual 82, 3) := by decide +kernel
theorem dX1_putCode_26 : decode cX1_putCode 26 = .ok (.aload_n 0, 1) := by decide +kernel
theorem dX1_putCode_27 : decode cX1_putCode 27 = .ok (.iconst 2, 1) := by decide +kernel
theorem dX1_putCode_28 : decode cX1_putCode 28 = .ok (.iload_n 3, 1) := by decide +kernel
theorem dX1_putCode_29 : decode cX1_putCode 29 = .ok (.imul, 1) := by decide +kernel
theorem dX1_putCode_30 : decode cX1_putCode 30 = .ok (.iconst 1, 1) := by decide +kernel
theorem dX1_putCode_31 : decode cX1_putCode 31 = .ok (.iadd, 1) := by decide +kernel
theorem dX1_putCode_32 : decode cX1_putCode 32 = .ok (.iload_n 1, 1) := by decide +kernel
theorem dX1_putCode_33 : decode cX1_putCode 33 = .ok (.iload 4, 2) := by decide +kernel
theorem dX1_putCode_35 : decode cX1_putCode 35 = .ok (.invokevirtual 82, 3) := by decide +kernel
theorem dX1_putCode_38 : decode cX1_putCode 38 = .ok (.iinc 3 1, 3) := by decide +kernel
theorem dX1_putCode_41 : decode cX1_putCode 41 = .ok (.goto (-39), 3) := by decide +kernel
theorem dX1_putCode_44 : decode cX1_putCode 44 = .ok (.return_, 1) := by decide +kernel
theorem dX1_ringWithCode_0 : decode cX1_ringWithCode 0 = .ok (.iconst 0, 1) := by decide +kernel
theorem dX1_ringWithCode_1 : decode cX1_ringWithCode 1 = .ok (.istore_n 2, 1) := by decide +kernel
theorem dX1_ringWithCode_2 : decode cX1_ringWithCode 2 = .ok (.iload_n 2, 1) := by decide +kernel
theorem dX1_ringWithCode_3 : decode cX1_ringWithCode 3 = .ok (.aload_n 0, 1) := by decide +kernel
theorem dX1_ringWithCode_4 : decode cX1_ringWithCode 4 = .ok (.getfield 28, 3) := by decide +kernel
theorem dX1_ringWithCode_7 : decode cX1_ringWithCode 7 = .ok (.if_icmp .ge 20, 3) := by decide +kernel
theorem dX1_ringWithCode_10 : decode cX1_ringWithCode 10 = .ok (.aload_n 0, 1) := by decide +kernel
theorem dX1_ringWithCode_11 : decode cX1_ringWithCode 11 = .ok (.iload_n 2, 1) := by decide +kernel
theorem dX1_ringWithCode_12 : decode cX1_ringWithCode 12 = .ok (.invokevirtual 85, 3) := by decide +kernel
theorem dX1_ringWithCode_15 : decode cX1_ringWithCode 15 = .ok (.iload_n 1, 1) := by decide +kernel
theorem dX1_ringWithCode_16 : decode cX1_ringWithCode 16 = .ok (.if_icmp .ne 5, 3) := by decide +kernel
theorem dX1_ringWithCode_19 : decode cX1_ringWithCode 19 = .ok (.iload_n 2, 1) := by decide +kernel
theorem dX1_ringWithCode_20 : decode cX1_ringWithCode 20 = .ok (.ireturn, 1) := by decide +kernel
theorem dX1_ringWithCode_21 : decode cX1_ringWithCode 21 = .ok (.iinc 2 1, 3) := by decide +kernel
theorem dX1_ringWithCode_24 : decode cX1_ringWithCode 24 = .ok (.goto (-22), 3) := by decide +kernel
theorem dX1_ringWithCode_27 : decode cX1_ringWithCode 27 = .ok (.iconst (-1), 1) := by decide +kernel
theorem dX1_ringWithCode_28 : decode cX1_ringWithCode 28 = .ok (.ireturn, 1) := by decide +kernel
theorem dX1_wordAt_0 : decode cX1_wordAt 0 = .ok (.aload_n 0, 1) := by decide +kernel
theorem dX1_wordAt_1 : decode cX1_wordAt 1 = .ok (.aload_n 0, 1) := by decide +kernel
theorem dX1_wordAt_2 : decode cX1_wordAt 2 = .ok (.iload_n 1, 1) := by decide +kernel
theorem dX1_wordAt_3 : decode cX1_wordAt 3 = .ok (.invokevirtual 88, 3) := by decide +kernel
theorem dX1_wordAt_6 : decode cX1_wordAt 6 = .ok (.iconst 1, 1) := by decide +kernel
theorem dX1_wordAt_7 : decode cX1_wordAt 7 = .ok (.aload_n 0, 1) := by decide +kernel
theorem dX1_wordAt_8 : decode cX1_wordAt 8 = .ok (.iload_n 1, 1) := by decide +kernel
theorem dX1_wordAt_9 : decode cX1_wordAt 9 = .ok (.invokevirtual 91, 3) := by decide +kernel
theorem dX1_wordAt_12 : decode cX1_wordAt 12 = .ok (.ishl, 1) := by decide +kernel
theorem dX1_wordAt_13 : decode cX1_wordAt 13 = .ok (.invokevirtual 94, 3) := by decide +kernel
theorem dX1_wordAt_16 : decode cX1_wordAt 16 = .ok (.aload_n 0, 1) := by decide +kernel
theorem dX1_wordAt_17 : decode cX1_wordAt 17 = .ok (.invokevirtual 58, 3) := by decide +kernel
theorem dX1_wordAt_20 : decode cX1_wordAt 20 = .ok (.iand, 1) := by decide +kernel
theorem dX1_wordAt_21 : decode cX1_wordAt 21 = .ok (.ireturn, 1) := by decide +kernel
theorem dX1_putWord_0 : decode cX1_putWord 0 = .ok (.aload_n 0, 1) := by decide +kernel
theorem dX1_putWord_1 : decode cX1_putWord 1 = .ok (.iload_n 1, 1) := by decide +kernel
theorem dX1_putWord_2 : decode cX1_putWord 2 = .ok (.invokevirtual 91, 3) := by decide +kernel
theorem dX1_putWord_5 : decode cX1_putWord 5 = .ok (.istore_n 3, 1) := by decide +kernel
theorem dX1_putWord_6 : decode cX1_putWord 6 = .ok (.aload_n 0, 1) := by decide +kernel
theorem dX1_putWord_7 : decode cX1_putWord 7 = .ok (.iload_n 1, 1) := by decide +kernel
theorem dX1_putWord_8 : decode cX1_putWord 8 = .ok (.invokevirtual 88, 3) := by decide +kernel
theorem dX1_putWord_11 : decode cX1_putWord 11 = .ok (.istore 4, 2) := by decide +kernel
theorem dX1_putWord_13 : decode cX1_putWord 13 = .ok (.iconst 0, 1) := by decide +kernel
theorem dX1_putWord_14 : decode cX1_putWord 14 = .ok (.istore 5, 2) := by decide +kernel
theorem dX1_putWord_16 : decode cX1_putWord 16 = .ok (.iload 5, 2) := by decide +kernel
theorem dX1_putWord_18 : decode cX1_putWord 18 = .ok (.aload_n 0, 1) := by decide +kernel
theorem dX1_putWord_19 : decode cX1_putWord 19 = .ok (.getfield 32, 3) := by decide +kernel
theorem dX1_putWord_22 : decode cX1_putWord 22 = .ok (.if_icmp .ge 28, 3) := by decide +kernel
theorem dX1_putWord_25 : decode cX1_putWord 25 = .ok (.aload_n 0, 1) := by decide +kernel
theorem dX1_putWord_26 : decode cX1_putWord 26 = .ok (.aload_n 0, 1) := by decide +kernel
theorem dX1_putWord_27 : decode cX1_putWord 27 = .ok (.iload 4, 2) := by decide +kernel
theorem dX1_putWord_29 : decode cX1_putWord 29 = .ok (.iload 5, 2) := by decide +kernel
theorem dX1_putWord_31 : decode cX1_putWord 31 = .ok (.invokevirtual 98, 3) := by decide +kernel
theorem dX1_putWord_34 : decode cX1_putWord 34 = .ok (.iload_n 3, 1) := by decide +kernel
theorem dX1_putWord_35 : decode cX1_putWord 35 = .ok (.iload_n 2, 1) := by decide +kernel
theorem dX1_putWord_36 : decode cX1_putWord 36 = .ok (.iload 5, 2) := by decide +kernel
theorem dX1_putWord_38 : decode cX1_putWord 38 = .ok (.ishr, 1) := by decide +kernel
theorem dX1_putWord_39 : decode cX1_putWord 39 = .ok (.iconst 1, 1) := by decide +kernel
theorem dX1_putWord_40 : decode cX1_putWord 40 = .ok (.iand, 1) := by decide +kernel
theorem dX1_putWord_41 : decode cX1_putWord 41 = .ok (.invokevirtual 82, 3) := by decide +kernel
theorem dX1_putWord_44 : decode cX1_putWord 44 = .ok (.iinc 5 1, 3) := by decide +kernel
theorem dX1_putWord_47 : decode cX1_putWord 47 = .ok (.goto (-31), 3) := by decide +kernel
theorem dX1_putWord_50 : decode cX1_putWord 50 = .ok (.aload_n 0, 1) := by decide +kernel
theorem dX1_putWord_51 : decode cX1_putWord 51 = .ok (.aload_n 0, 1) := by decide +kernel
theorem dX1_putWord_52 : decode cX1_putWord 52 = .ok (.iload 4, 2) := by decide +kernel
theorem dX1_putWord_54 : decode cX1_putWord 54 = .ok (.aload_n 0, 1) := by decide +kernel
theorem dX1_putWord_55 : decode cX1_putWord 55 = .ok (.getfield 32, 3) := by decide +kernel
theorem dX1_putWord_58 : decode cX1_putWord 58 = .ok (.invokevirtual 98, 3) := by decide +kernel
theorem dX1_putWord_61 : decode cX1_putWord 61 = .ok (.iload_n 3, 1) := by decide +kernel
theorem dX1_putWord_62 : decode cX1_putWord 62 = .ok (.iconst 1, 1) := by decide +kernel
theorem dX1_putWord_63 : decode cX1_putWord 63 = .ok (.iload_n 2, 1) := by decide +kernel
theorem dX1_putWord_64 : decode cX1_putWord 64 = .ok (.invokestatic 73, 3) := by decide +kernel
theorem dX1_putWord_67 : decode cX1_putWord 67 = .ok (.iconst 1, 1) := by decide +kernel
theorem dX1_putWord_68 : decode cX1_putWord 68 = .ok (.iand, 1) := by decide +kernel
theorem dX1_putWord_69 : decode cX1_putWord 69 = .ok (.isub, 1) := by decide +kernel
theorem dX1_putWord_70 : decode cX1_putWord 70 = .ok (.invokevirtual 82, 3) := by decide +kernel
theorem dX1_putWord_73 : decode cX1_putWord 73 = .ok (.return_, 1) := by decide +kernel
theorem dX1_turn_0 : decode cX1_turn 0 = .ok (.aload_n 0, 1) := by decide +kernel
theorem dX1_turn_1 : decode cX1_turn 1 = .ok (.getfield 18, 3) := by decide +kernel
theorem dX1_turn_4 : decode cX1_turn 4 = .ok (.iload_n 1, 1) := by decide +kernel
theorem dX1_turn_5 : decode cX1_turn 5 = .ok (.iconst 1, 1) := by decide +kernel
theorem dX1_turn_6 : decode cX1_turn 6 = .ok (.aload_n 0, 1) := by decide +kernel
theorem dX1_turn_7 : decode cX1_turn 7 = .ok (.getfield 18, 3) := by decide +kernel
theorem dX1_turn_10 : decode cX1_turn 10 = .ok (.iload_n 1, 1) := by decide +kernel
theorem dX1_turn_11 : decode cX1_turn 11 = .ok (.iaload, 1) := by decide +kernel
theorem dX1_turn_12 : decode cX1_turn 12 = .ok (.isub, 1) := by decide +kernel
theorem dX1_turn_13 : decode cX1_turn 13 = .ok (.iastore, 1) := by decide +kernel
theorem dX1_turn_14 : decode cX1_turn 14 = .ok (.aload_n 0, 1) := by decide +kernel
theorem dX1_turn_15 : decode cX1_turn 15 = .ok (.getfield 18, 3) := by decide +kernel
theorem dX1_turn_18 : decode cX1_turn 18 = .ok (.iload_n 1, 1) := by decide +kernel
theorem dX1_turn_19 : decode cX1_turn 19 = .ok (.iaload, 1) := by decide +kernel
theorem dX1_turn_20 : decode cX1_turn 20 = .ok (.ireturn, 1) := by decide +kernel
theorem dX1_spoilOrMend_0 : decode cX1_spoilOrMend 0 = .ok (.aload_n 0, 1) := by decide +kernel
theorem dX1_spoilOrMend_1 : decode cX1_spoilOrMend 1 = .ok (.getfield 15, 3) := by decide +kernel
theorem dX1_spoilOrMend_4 : decode cX1_spoilOrMend 4 = .ok (.iload_n 1, 1) := by decide +kernel
theorem dX1_spoilOrMend_5 : decode cX1_spoilOrMend 5 = .ok (.dup2, 1) := by decide +kernel
theorem dX1_spoilOrMend_6 : decode cX1_spoilOrMend 6 = .ok (.iaload, 1) := by decide +kernel
theorem dX1_spoilOrMend_7 : decode cX1_spoilOrMend 7 = .ok (.iconst 1, 1) := by decide +kernel
theorem dX1_spoilOrMend_8 : decode cX1_spoilOrMend 8 = .ok (.iload_n 2, 1) := by decide +kernel
theorem dX1_spoilOrMend_9 : decode cX1_spoilOrMend 9 = .ok (.ishl, 1) := by decide +kernel
theorem dX1_spoilOrMend_10 : decode cX1_spoilOrMend 10 = .ok (.ixor, 1) := by decide +kernel
theorem dX1_spoilOrMend_11 : decode cX1_spoilOrMend 11 = .ok (.iastore, 1) := by decide +kernel
theorem dX1_spoilOrMend_12 : decode cX1_spoilOrMend 12 = .ok (.aload_n 0, 1) := by decide +kernel
theorem dX1_spoilOrMend_13 : decode cX1_spoilOrMend 13 = .ok (.getfield 15, 3) := by decide +kernel
theorem dX1_spoilOrMend_16 : decode cX1_spoilOrMend 16 = .ok (.iload_n 1, 1) := by decide +kernel
theorem dX1_spoilOrMend_17 : decode cX1_spoilOrMend 17 = .ok (.iaload, 1) := by decide +kernel
theorem dX1_spoilOrMend_18 : decode cX1_spoilOrMend 18 = .ok (.iload_n 2, 1) := by decide +kernel
theorem dX1_spoilOrMend_19 : decode cX1_spoilOrMend 19 = .ok (.ishr, 1) := by decide +kernel
theorem dX1_spoilOrMend_20 : decode cX1_spoilOrMend 20 = .ok (.iconst 1, 1) := by decide +kernel
theorem dX1_spoilOrMend_21 : decode cX1_spoilOrMend 21 = .ok (.iand, 1) := by decide +kernel
theorem dX1_spoilOrMend_22 : decode cX1_spoilOrMend 22 = .ok (.ireturn, 1) := by decide +kernel
theorem dX1_rightWeave_0 : decode cX1_rightWeave 0 = .ok (.aload_n 0, 1) := by decide +kernel
theorem dX1_rightWeave_1 : decode cX1_rightWeave 1 = .ok (.getfield 18, 3) := by decide +kernel
theorem dX1_rightWeave_4 : decode cX1_rightWeave 4 = .ok (.iload_n 1, 1) := by decide +kernel
theorem dX1_rightWeave_5 : decode cX1_rightWeave 5 = .ok (.iaload, 1) := by decide +kernel
theorem dX1_rightWeave_6 : decode cX1_rightWeave 6 = .ok (.iconst 1, 1) := by decide +kernel
theorem dX1_rightWeave_7 : decode cX1_rightWeave 7 = .ok (.if_icmp .ne 21, 3) := by decide +kernel
theorem dX1_rightWeave_10 : decode cX1_rightWeave 10 = .ok (.aload_n 0, 1) := by decide +kernel
theorem dX1_rightWeave_11 : decode cX1_rightWeave 11 = .ok (.getfield 9, 3) := by decide +kernel
theorem dX1_rightWeave_14 : decode cX1_rightWeave 14 = .ok (.iload_n 1, 1) := by decide +kernel
theorem dX1_rightWeave_15 : decode cX1_rightWeave 15 = .ok (.iaload, 1) := by decide +kernel
theorem dX1_rightWeave_16 : decode cX1_rightWeave 16 = .ok (.iconst 1, 1) := by decide +kernel
theorem dX1_rightWeave_17 : decode cX1_rightWeave 17 = .ok (.aload_n 0, 1) := by decide +kernel
theorem dX1_rightWeave_18 : decode cX1_rightWeave 18 = .ok (.getfield 28, 3) := by decide +kernel
theorem dX1_rightWeave_21 : decode cX1_rightWeave 21 = .ok (.ishl, 1) := by decide +kernel
theorem dX1_rightWeave_22 : decode cX1_rightWeave 22 = .ok (.iconst 1, 1) := by decide +kernel
theorem dX1_rightWeave_23 : decode cX1_rightWeave 23 = .ok (.isub, 1) := by decide +kernel
theorem dX1_rightWeave_24 : decode cX1_rightWeave 24 = .ok (.ixor, 1) := by decide +kernel
theorem dX1_rightWeave_25 : decode cX1_rightWeave 25 = .ok (.goto 9, 3) := by decide +kernel
theorem dX1_rightWeave_28 : decode cX1_rightWeave 28 = .ok (.aload_n 0, 1) := by decide +kernel
theorem dX1_rightWeave_29 : decode cX1_rightWeave 29 = .ok (.getfield 9, 3) := by decide +kernel
theorem dX1_rightWeave_32 : decode cX1_rightWeave 32 = .ok (.iload_n 1, 1) := by decide +kernel
theorem dX1_rightWeave_33 : decode cX1_rightWeave 33 = .ok (.iaload, 1) := by decide +kernel
theorem dX1_rightWeave_34 : decode cX1_rightWeave 34 = .ok (.ireturn, 1) := by decide +kernel
theorem dX1_goesThrough_0 : decode cX1_goesThrough 0 = .ok (.aload_n 0, 1) := by decide +kernel
theorem dX1_goesThrough_1 : decode cX1_goesThrough 1 = .ok (.iload_n 1, 1) := by decide +kernel
theorem dX1_goesThrough_2 : decode cX1_goesThrough 2 = .ok (.invokevirtual 101, 3) := by decide +kernel
theorem dX1_goesThrough_5 : decode cX1_goesThrough 5 = .ok (.aload_n 0, 1) := by decide +kernel
theorem dX1_goesThrough_6 : decode cX1_goesThrough 6 = .ok (.getfield 15, 3) := by decide +kernel
theorem dX1_goesThrough_9 : decode cX1_goesThrough 9 = .ok (.iload_n 1, 1) := by decide +kernel
theorem dX1_goesThrough_10 : decode cX1_goesThrough 10 = .ok (.iaload, 1) := by decide +kernel
theorem dX1_goesThrough_11 : decode cX1_goesThrough 11 = .ok (.ixor, 1) := by decide +kernel
theorem dX1_goesThrough_12 : decode cX1_goesThrough 12 = .ok (.iload_n 2, 1) := by decide +kernel
theorem dX1_goesThrough_13 : decode cX1_goesThrough 13 = .ok (.ishr, 1) := by decide +kernel
theorem dX1_goesThrough_14 : decode cX1_goesThrough 14 = .ok (.iconst 1, 1) := by decide +kernel
theorem dX1_goesThrough_15 : decode cX1_goesThrough 15 = .ok (.iand, 1) := by decide +kernel
theorem dX1_goesThrough_16 : decode cX1_goesThrough 16 = .ok (.ireturn, 1) := by decide +kernel
theorem dX1_costOf_0 : decode cX1_costOf 0 = .ok (.aload_n 0, 1) := by decide +kernel
theorem dX1_costOf_1 : decode cX1_costOf 1 = .ok (.iload_n 1, 1) := by decide +kernel
theorem dX1_costOf_2 : decode cX1_costOf 2 = .ok (.invokevirtual 101, 3) := by decide +kernel
theorem dX1_costOf_5 : decode cX1_costOf 5 = .ok (.invokestatic 73, 3) := by decide +kernel
theorem dX1_costOf_8 : decode cX1_costOf 8 = .ok (.aload_n 0, 1) := by decide +kernel
theorem dX1_costOf_9 : decode cX1_costOf 9 = .ok (.getfield 18, 3) := by decide +kernel
theorem dX1_costOf_12 : decode cX1_costOf 12 = .ok (.iload_n 1, 1) := by decide +kernel
theorem dX1_costOf_13 : decode cX1_costOf 13 = .ok (.iaload, 1) := by decide +kernel
theorem dX1_costOf_14 : decode cX1_costOf 14 = .ok (.iadd, 1) := by decide +kernel
theorem dX1_costOf_15 : decode cX1_costOf 15 = .ok (.ireturn, 1) := by decide +kernel
theorem dX1_makeCheap_0 : decode cX1_makeCheap 0 = .ok (.iconst 0, 1) := by decide +kernel
theorem dX1_makeCheap_1 : decode cX1_makeCheap 1 = .ok (.istore_n 1, 1) := by decide +kernel
theorem dX1_makeCheap_2 : decode cX1_makeCheap 2 = .ok (.bipush 8, 2) := by decide +kernel
theorem dX1_makeCheap_4 : decode cX1_makeCheap 4 = .ok (.istore_n 2, 1) := by decide +kernel
theorem dX1_makeCheap_5 : decode cX1_makeCheap 5 = .ok (.iload_n 2, 1) := by decide +kernel
theorem dX1_makeCheap_6 : decode cX1_makeCheap 6 = .ok (.aload_n 0, 1) := by decide +kernel
theorem dX1_makeCheap_7 : decode cX1_makeCheap 7 = .ok (.invokevirtual 55, 3) := by decide +kernel
theorem dX1_makeCheap_10 : decode cX1_makeCheap 10 = .ok (.if_icmp .ge 62, 3) := by decide +kernel
theorem dX1_makeCheap_13 : decode cX1_makeCheap 13 = .ok (.aload_n 0, 1) := by decide +kernel
theorem dX1_makeCheap_14 : decode cX1_makeCheap 14 = .ok (.getfield 9, 3) := by decide +kernel
theorem dX1_makeCheap_17 : decode cX1_makeCheap 17 = .ok (.iload_n 2, 1) := by decide +kernel
theorem dX1_makeCheap_18 : decode cX1_makeCheap 18 = .ok (.iaload, 1) := by decide +kernel
theorem dX1_makeCheap_19 : decode cX1_makeCheap 19 = .ok (.invokestatic 73, 3) := by decide +kernel
theorem dX1_makeCheap_22 : decode cX1_makeCheap 22 = .ok (.istore_n 3, 1) := by decide +kernel
theorem dX1_makeCheap_23 : decode cX1_makeCheap 23 = .ok (.aload_n 0, 1) := by decide +kernel
theorem dX1_makeCheap_24 : decode cX1_makeCheap 24 = .ok (.getfield 28, 3) := by decide +kernel
theorem dX1_makeCheap_27 : decode cX1_makeCheap 27 = .ok (.iload_n 3, 1) := by decide +kernel
theorem dX1_makeCheap_28 : decode cX1_makeCheap 28 = .ok (.isub, 1) := by decide +kernel
theorem dX1_makeCheap_29 : decode cX1_makeCheap 29 = .ok (.iconst 1, 1) := by decide +kernel
theorem dX1_makeCheap_30 : decode cX1_makeCheap 30 = .ok (.iadd, 1) := by decide +kernel
theorem dX1_makeCheap_31 : decode cX1_makeCheap 31 = .ok (.istore 4, 2) := by decide +kernel
theorem dX1_makeCheap_33 : decode cX1_makeCheap 33 = .ok (.iload 4, 2) := by decide +kernel
theorem dX1_makeCheap_35 : decode cX1_makeCheap 35 = .ok (.iload_n 3, 1) := by decide +kernel
theorem dX1_makeCheap_36 : decode cX1_makeCheap 36 = .ok (.if_icmp .ge 7, 3) := by decide +kernel
theorem dX1_makeCheap_39 : decode cX1_makeCheap 39 = .ok (.iconst 1, 1) := by decide +kernel
theorem dX1_makeCheap_40 : decode cX1_makeCheap 40 = .ok (.goto 4, 3) := by decide +kernel
theorem dX1_makeCheap_43 : decode cX1_makeCheap 43 = .ok (.iconst 0, 1) := by decide +kernel
theorem dX1_makeCheap_44 : decode cX1_makeCheap 44 = .ok (.istore 5, 2) := by decide +kernel
theorem dX1_makeCheap_46 : decode cX1_makeCheap 46 = .ok (.aload_n 0, 1) := by decide +kernel
theorem dX1_makeCheap_47 : decode cX1_makeCheap 47 = .ok (.getfield 18, 3) := by decide +kernel
theorem dX1_makeCheap_50 : decode cX1_makeCheap 50 = .ok (.iload_n 2, 1) := by decide +kernel
theorem dX1_makeCheap_51 : decode cX1_makeCheap 51 = .ok (.iaload, 1) := by decide +kernel
theorem dX1_makeCheap_52 : decode cX1_makeCheap 52 = .ok (.iload 5, 2) := by decide +kernel
theorem dX1_makeCheap_54 : decode cX1_makeCheap 54 = .ok (.if_icmp .eq 12, 3) := by decide +kernel
theorem dX1_makeCheap_57 : decode cX1_makeCheap 57 = .ok (.aload_n 0, 1) := by decide +kernel
theorem dX1_makeCheap_58 : decode cX1_makeCheap 58 = .ok (.iload_n 2, 1) := by decide +kernel
theorem dX1_makeCheap_59 : decode cX1_makeCheap 59 = .ok (.invokevirtual 104, 3) := by decide +kernel
theorem dX1_makeCheap_62 : decode cX1_makeCheap 62 = .ok (.pop, 1) := by decide +kernel
theorem dX1_makeCheap_63 : decode cX1_makeCheap 63 = .ok (.iinc 1 1, 3) := by decide +kernel
theorem dX1_makeCheap_66 : decode cX1_makeCheap 66 = .ok (.iinc 2 1, 3) := by decide +kernel
theorem dX1_makeCheap_69 : decode cX1_makeCheap 69 = .ok (.goto (-64), 3) := by decide +kernel
theorem dX1_makeCheap_72 : decode cX1_makeCheap 72 = .ok (.iload_n 1, 1) := by decide +kernel
theorem dX1_makeCheap_73 : decode cX1_makeCheap 73 = .ok (.ireturn, 1) := by decide +kernel
theorem dX1_pickedBy_0 : decode cX1_pickedBy 0 = .ok (.iconst 0, 1) := by decide +kernel
theorem dX1_pickedBy_1 : decode cX1_pickedBy 1 = .ok (.istore_n 2, 1) := by decide +kernel
theorem dX1_pickedBy_2 : decode cX1_pickedBy 2 = .ok (.iconst 0, 1) := by decide +kernel
theorem dX1_pickedBy_3 : decode cX1_pickedBy 3 = .ok (.istore_n 3, 1) := by decide +kernel
theorem dX1_pickedBy_4 : decode cX1_pickedBy 4 = .ok (.iload_n 3, 1) := by decide +kernel
theorem dX1_pickedBy_5 : decode cX1_pickedBy 5 = .ok (.iconst 4, 1) := by decide +kernel
theorem dX1_pickedBy_6 : decode cX1_pickedBy 6 = .ok (.if_icmp .ge 40, 3) := by decide +kernel
theorem dX1_pickedBy_9 : decode cX1_pickedBy 9 = .ok (.iconst 2, 1) := by decide +kernel
theorem dX1_pickedBy_10 : decode cX1_pickedBy 10 = .ok (.iload_n 3, 1) := by decide +kernel
theorem dX1_pickedBy_11 : decode cX1_pickedBy 11 = .ok (.imul, 1) := by decide +kernel
theorem dX1_pickedBy_12 : decode cX1_pickedBy 12 = .ok (.iconst 1, 1) := by decide +kernel
theorem dX1_pickedBy_13 : decode cX1_pickedBy 13 = .ok (.iadd, 1) := by decide +kernel
theorem dX1_pickedBy_14 : decode cX1_pickedBy 14 = .ok (.iload_n 1, 1) := by decide +kernel
theorem dX1_pickedBy_15 : decode cX1_pickedBy 15 = .ok (.iload_n 3, 1) := by decide +kernel
theorem dX1_pickedBy_16 : decode cX1_pickedBy 16 = .ok (.ishr, 1) := by decide +kernel
theorem dX1_pickedBy_17 : decode cX1_pickedBy 17 = .ok (.iconst 1, 1) := by decide +kernel
theorem dX1_pickedBy_18 : decode cX1_pickedBy 18 = .ok (.iand, 1) := by decide +kernel
theorem dX1_pickedBy_19 : decode cX1_pickedBy 19 = .ok (.isub, 1) := by decide +kernel
theorem dX1_pickedBy_20 : decode cX1_pickedBy 20 = .ok (.istore 4, 2) := by decide +kernel
theorem dX1_pickedBy_22 : decode cX1_pickedBy 22 = .ok (.iload_n 2, 1) := by decide +kernel
theorem dX1_pickedBy_23 : decode cX1_pickedBy 23 = .ok (.aload_n 0, 1) := by decide +kernel
theorem dX1_pickedBy_24 : decode cX1_pickedBy 24 = .ok (.getfield 9, 3) := by decide +kernel
theorem dX1_pickedBy_27 : decode cX1_pickedBy 27 = .ok (.iload 4, 2) := by decide +kernel
theorem dX1_pickedBy_29 : decode cX1_pickedBy 29 = .ok (.iaload, 1) := by decide +kernel
theorem dX1_pickedBy_30 : decode cX1_pickedBy 30 = .ok (.aload_n 0, 1) := by decide +kernel
theorem dX1_pickedBy_31 : decode cX1_pickedBy 31 = .ok (.getfield 15, 3) := by decide +kernel
theorem dX1_pickedBy_34 : decode cX1_pickedBy 34 = .ok (.iload 4, 2) := by decide +kernel
theorem dX1_pickedBy_36 : decode cX1_pickedBy 36 = .ok (.iaload, 1) := by decide +kernel
theorem dX1_pickedBy_37 : decode cX1_pickedBy 37 = .ok (.ixor, 1) := by decide +kernel
theorem dX1_pickedBy_38 : decode cX1_pickedBy 38 = .ok (.ior, 1) := by decide +kernel
theorem dX1_pickedBy_39 : decode cX1_pickedBy 39 = .ok (.istore_n 2, 1) := by decide +kernel
theorem dX1_pickedBy_40 : decode cX1_pickedBy 40 = .ok (.iinc 3 1, 3) := by decide +kernel
theorem dX1_pickedBy_43 : decode cX1_pickedBy 43 = .ok (.goto (-39), 3) := by decide +kernel
theorem dX1_pickedBy_46 : decode cX1_pickedBy 46 = .ok (.iload_n 2, 1) := by decide +kernel
theorem dX1_pickedBy_47 : decode cX1_pickedBy 47 = .ok (.iconst (-1), 1) := by decide +kernel
theorem dX1_pickedBy_48 : decode cX1_pickedBy 48 = .ok (.ixor, 1) := by decide +kernel
theorem dX1_pickedBy_49 : decode cX1_pickedBy 49 = .ok (.iconst 1, 1) := by decide +kernel
theorem dX1_pickedBy_50 : decode cX1_pickedBy 50 = .ok (.aload_n 0, 1) := by decide +kernel
theorem dX1_pickedBy_51 : decode cX1_pickedBy 51 = .ok (.getfield 28, 3) := by decide +kernel
theorem dX1_pickedBy_54 : decode cX1_pickedBy 54 = .ok (.ishl, 1) := by decide +kernel
theorem dX1_pickedBy_55 : decode cX1_pickedBy 55 = .ok (.iconst 1, 1) := by decide +kernel
theorem dX1_pickedBy_56 : decode cX1_pickedBy 56 = .ok (.isub, 1) := by decide +kernel
theorem dX1_pickedBy_57 : decode cX1_pickedBy 57 = .ok (.iand, 1) := by decide +kernel
theorem dX1_pickedBy_58 : decode cX1_pickedBy 58 = .ok (.ireturn, 1) := by decide +kernel
theorem dX1_bitFrom_0 : decode cX1_bitFrom 0 = .ok (.iload_n 2, 1) := by decide +kernel
theorem dX1_bitFrom_1 : decode cX1_bitFrom 1 = .ok (.iload_n 3, 1) := by decide +kernel
theorem dX1_bitFrom_2 : decode cX1_bitFrom 2 = .ok (.iand, 1) := by decide +kernel
theorem dX1_bitFrom_3 : decode cX1_bitFrom 3 = .ok (.ifCond .ne 7, 3) := by decide +kernel
theorem dX1_bitFrom_6 : decode cX1_bitFrom 6 = .ok (.iconst 0, 1) := by decide +kernel
theorem dX1_bitFrom_7 : decode cX1_bitFrom 7 = .ok (.goto 4, 3) := by decide +kernel
theorem dX1_bitFrom_10 : decode cX1_bitFrom 10 = .ok (.iconst 1, 1) := by decide +kernel
theorem dX1_bitFrom_11 : decode cX1_bitFrom 11 = .ok (.istore 4, 2) := by decide +kernel
theorem dX1_bitFrom_13 : decode cX1_bitFrom 13 = .ok (.iload 4, 2) := by decide +kernel
theorem dX1_bitFrom_15 : decode cX1_bitFrom 15 = .ok (.aload_n 0, 1) := by decide +kernel
theorem dX1_bitFrom_16 : decode cX1_bitFrom 16 = .ok (.getfield 18, 3) := by decide +kernel
theorem dX1_bitFrom_19 : decode cX1_bitFrom 19 = .ok (.iload_n 1, 1) := by decide +kernel
theorem dX1_bitFrom_20 : decode cX1_bitFrom 20 = .ok (.iaload, 1) := by decide +kernel
theorem dX1_bitFrom_21 : decode cX1_bitFrom 21 = .ok (.ixor, 1) := by decide +kernel
theorem dX1_bitFrom_22 : decode cX1_bitFrom 22 = .ok (.ireturn, 1) := by decide +kernel
theorem dX1_rawBits_0 : decode cX1_rawBits 0 = .ok (.aload_n 0, 1) := by decide +kernel
theorem dX1_rawBits_1 : decode cX1_rawBits 1 = .ok (.aload_n 0, 1) := by decide +kernel
theorem dX1_rawBits_2 : decode cX1_rawBits 2 = .ok (.aload_n 0, 1) := by decide +kernel
theorem dX1_rawBits_3 : decode cX1_rawBits 3 = .ok (.iload_n 1, 1) := by decide +kernel
theorem dX1_rawBits_4 : decode cX1_rawBits 4 = .ok (.invokevirtual 91, 3) := by decide +kernel
theorem dX1_rawBits_7 : decode cX1_rawBits 7 = .ok (.invokevirtual 85, 3) := by decide +kernel
theorem dX1_rawBits_10 : decode cX1_rawBits 10 = .ok (.invokevirtual 107, 3) := by decide +kernel
theorem dX1_rawBits_13 : decode cX1_rawBits 13 = .ok (.istore_n 2, 1) := by decide +kernel
theorem dX1_rawBits_14 : decode cX1_rawBits 14 = .ok (.aload_n 0, 1) := by decide +kernel
theorem dX1_rawBits_15 : decode cX1_rawBits 15 = .ok (.iload_n 1, 1) := by decide +kernel
theorem dX1_rawBits_16 : decode cX1_rawBits 16 = .ok (.invokevirtual 88, 3) := by decide +kernel
theorem dX1_rawBits_19 : decode cX1_rawBits 19 = .ok (.istore_n 3, 1) := by decide +kernel
theorem dX1_rawBits_20 : decode cX1_rawBits 20 = .ok (.iconst 0, 1) := by decide +kernel
theorem dX1_rawBits_21 : decode cX1_rawBits 21 = .ok (.istore 4, 2) := by decide +kernel
theorem dX1_rawBits_23 : decode cX1_rawBits 23 = .ok (.iconst 0, 1) := by decide +kernel
theorem dX1_rawBits_24 : decode cX1_rawBits 24 = .ok (.istore 5, 2) := by decide +kernel
theorem dX1_rawBits_26 : decode cX1_rawBits 26 = .ok (.iload 5, 2) := by decide +kernel
theorem dX1_rawBits_28 : decode cX1_rawBits 28 = .ok (.aload_n 0, 1) := by decide +kernel
theorem dX1_rawBits_29 : decode cX1_rawBits 29 = .ok (.getfield 32, 3) := by decide +kernel
theorem dX1_rawBits_32 : decode cX1_rawBits 32 = .ok (.if_icmp .gt 47, 3) := by decide +kernel
theorem dX1_rawBits_35 : decode cX1_rawBits 35 = .ok (.aload_n 0, 1) := by decide +kernel
theorem dX1_rawBits_36 : decode cX1_rawBits 36 = .ok (.iload_n 3, 1) := by decide +kernel
theorem dX1_rawBits_37 : decode cX1_rawBits 37 = .ok (.iload 5, 2) := by decide +kernel
theorem dX1_rawBits_39 : decode cX1_rawBits 39 = .ok (.invokevirtual 98, 3) := by decide +kernel
theorem dX1_rawBits_42 : decode cX1_rawBits 42 = .ok (.istore 6, 2) := by decide +kernel
theorem dX1_rawBits_44 : decode cX1_rawBits 44 = .ok (.iload 4, 2) := by decide +kernel
theorem dX1_rawBits_46 : decode cX1_rawBits 46 = .ok (.aload_n 0, 1) := by decide +kernel
theorem dX1_rawBits_47 : decode cX1_rawBits 47 = .ok (.iload 6, 2) := by decide +kernel
theorem dX1_rawBits_49 : decode cX1_rawBits 49 = .ok (.aload_n 0, 1) := by decide +kernel
theorem dX1_rawBits_50 : decode cX1_rawBits 50 = .ok (.iload 6, 2) := by decide +kernel
theorem dX1_rawBits_52 : decode cX1_rawBits 52 = .ok (.invokevirtual 101, 3) := by decide +kernel
theorem dX1_rawBits_55 : decode cX1_rawBits 55 = .ok (.aload_n 0, 1) := by decide +kernel
theorem dX1_rawBits_56 : decode cX1_rawBits 56 = .ok (.getfield 15, 3) := by decide +kernel
theorem dX1_rawBits_59 : decode cX1_rawBits 59 = .ok (.iload 6, 2) := by decide +kernel
theorem dX1_rawBits_61 : decode cX1_rawBits 61 = .ok (.iaload, 1) := by decide +kernel
theorem dX1_rawBits_62 : decode cX1_rawBits 62 = .ok (.ixor, 1) := by decide +kernel
theorem dX1_rawBits_63 : decode cX1_rawBits 63 = .ok (.iload_n 2, 1) := by decide +kernel
theorem dX1_rawBits_64 : decode cX1_rawBits 64 = .ok (.invokevirtual 110, 3) := by decide +kernel
theorem dX1_rawBits_67 : decode cX1_rawBits 67 = .ok (.iload 5, 2) := by decide +kernel
theorem dX1_rawBits_69 : decode cX1_rawBits 69 = .ok (.ishl, 1) := by decide +kernel
theorem dX1_rawBits_70 : decode cX1_rawBits 70 = .ok (.ior, 1) := by decide +kernel
theorem dX1_rawBits_71 : decode cX1_rawBits 71 = .ok (.istore 4, 2) := by decide +kernel
theorem dX1_rawBits_73 : decode cX1_rawBits 73 = .ok (.iinc 5 1, 3) := by decide +kernel
theorem dX1_rawBits_76 : decode cX1_rawBits 76 = .ok (.goto (-50), 3) := by decide +kernel
theorem dX1_rawBits_79 : decode cX1_rawBits 79 = .ok (.iload 4, 2) := by decide +kernel
theorem dX1_rawBits_81 : decode cX1_rawBits 81 = .ok (.ireturn, 1) := by decide +kernel
theorem dX1_rightBits_0 : decode cX1_rightBits 0 = .ok (.iconst 0, 1) := by decide +kernel
theorem dX1_rightBits_1 : decode cX1_rightBits 1 = .ok (.istore_n 3, 1) := by decide +kernel
theorem dX1_rightBits_2 : decode cX1_rightBits 2 = .ok (.iconst 0, 1) := by decide +kernel
theorem dX1_rightBits_3 : decode cX1_rightBits 3 = .ok (.istore 4, 2) := by decide +kernel
theorem dX1_rightBits_5 : decode cX1_rightBits 5 = .ok (.iload 4, 2) := by decide +kernel
theorem dX1_rightBits_7 : decode cX1_rightBits 7 = .ok (.aload_n 0, 1) := by decide +kernel
theorem dX1_rightBits_8 : decode cX1_rightBits 8 = .ok (.getfield 32, 3) := by decide +kernel
theorem dX1_rightBits_11 : decode cX1_rightBits 11 = .ok (.if_icmp .gt 37, 3) := by decide +kernel
theorem dX1_rightBits_14 : decode cX1_rightBits 14 = .ok (.aload_n 0, 1) := by decide +kernel
theorem dX1_rightBits_15 : decode cX1_rightBits 15 = .ok (.iload_n 1, 1) := by decide +kernel
theorem dX1_rightBits_16 : decode cX1_rightBits 16 = .ok (.iload 4, 2) := by decide +kernel
theorem dX1_rightBits_18 : decode cX1_rightBits 18 = .ok (.invokevirtual 98, 3) := by decide +kernel
