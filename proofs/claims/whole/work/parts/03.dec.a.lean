theorem dX0_init_0 : decode cX0_init 0 = .ok (.aload_n 0, 1) := by decide +kernel
theorem dX0_init_1 : decode cX0_init 1 = .ok (.invokespecial 3, 3) := by decide +kernel
theorem dX0_init_4 : decode cX0_init 4 = .ok (.aload_n 0, 1) := by decide +kernel
theorem dX0_init_5 : decode cX0_init 5 = .ok (.bipush 35, 2) := by decide +kernel
theorem dX0_init_7 : decode cX0_init 7 = .ok (.newarray .int, 2) := by decide +kernel
theorem dX0_init_9 : decode cX0_init 9 = .ok (.putfield 9, 3) := by decide +kernel
theorem dX0_init_12 : decode cX0_init 12 = .ok (.aload_n 0, 1) := by decide +kernel
theorem dX0_init_13 : decode cX0_init 13 = .ok (.iconst 0, 1) := by decide +kernel
theorem dX0_init_14 : decode cX0_init 14 = .ok (.putfield 15, 3) := by decide +kernel
theorem dX0_init_17 : decode cX0_init 17 = .ok (.aload_n 0, 1) := by decide +kernel
theorem dX0_init_18 : decode cX0_init 18 = .ok (.iconst (-1), 1) := by decide +kernel
theorem dX0_init_19 : decode cX0_init 19 = .ok (.putfield 19, 3) := by decide +kernel
theorem dX0_init_22 : decode cX0_init 22 = .ok (.aload_n 0, 1) := by decide +kernel
theorem dX0_init_23 : decode cX0_init 23 = .ok (.iconst 0, 1) := by decide +kernel
theorem dX0_init_24 : decode cX0_init 24 = .ok (.putfield 22, 3) := by decide +kernel
theorem dX0_init_27 : decode cX0_init 27 = .ok (.aload_n 0, 1) := by decide +kernel
theorem dX0_init_28 : decode cX0_init 28 = .ok (.bipush 9, 2) := by decide +kernel
theorem dX0_init_30 : decode cX0_init 30 = .ok (.newarray .int, 2) := by decide +kernel
theorem dX0_init_32 : decode cX0_init 32 = .ok (.putfield 25, 3) := by decide +kernel
theorem dX0_init_35 : decode cX0_init 35 = .ok (.aload_n 0, 1) := by decide +kernel
theorem dX0_init_36 : decode cX0_init 36 = .ok (.bipush 9, 2) := by decide +kernel
theorem dX0_init_38 : decode cX0_init 38 = .ok (.newarray .int, 2) := by decide +kernel
theorem dX0_init_40 : decode cX0_init 40 = .ok (.putfield 28, 3) := by decide +kernel
theorem dX0_init_43 : decode cX0_init 43 = .ok (.aload_n 0, 1) := by decide +kernel
theorem dX0_init_44 : decode cX0_init 44 = .ok (.bipush 9, 2) := by decide +kernel
theorem dX0_init_46 : decode cX0_init 46 = .ok (.newarray .int, 2) := by decide +kernel
theorem dX0_init_48 : decode cX0_init 48 = .ok (.putfield 31, 3) := by decide +kernel
theorem dX0_init_51 : decode cX0_init 51 = .ok (.return_, 1) := by decide +kernel
theorem dX0_parse_0 : decode cX0_parse 0 = .ok (.aload_n 0, 1) := by decide +kernel
theorem dX0_parse_1 : decode cX0_parse 1 = .ok (.aload_n 0, 1) := by decide +kernel
theorem dX0_parse_2 : decode cX0_parse 2 = .ok (.invokevirtual 34, 3) := by decide +kernel
theorem dX0_parse_5 : decode cX0_parse 5 = .ok (.putfield 19, 3) := by decide +kernel
theorem dX0_parse_8 : decode cX0_parse 8 = .ok (.aload_n 0, 1) := by decide +kernel
theorem dX0_parse_9 : decode cX0_parse 9 = .ok (.iconst 0, 1) := by decide +kernel
theorem dX0_parse_10 : decode cX0_parse 10 = .ok (.putfield 22, 3) := by decide +kernel
theorem dX0_parse_13 : decode cX0_parse 13 = .ok (.iconst 0, 1) := by decide +kernel
theorem dX0_parse_14 : decode cX0_parse 14 = .ok (.istore_n 1, 1) := by decide +kernel
theorem dX0_parse_15 : decode cX0_parse 15 = .ok (.aload_n 0, 1) := by decide +kernel
theorem dX0_parse_16 : decode cX0_parse 16 = .ok (.getfield 19, 3) := by decide +kernel
theorem dX0_parse_19 : decode cX0_parse 19 = .ok (.iconst (-1), 1) := by decide +kernel
theorem dX0_parse_20 : decode cX0_parse 20 = .ok (.if_icmp .ne 99, 3) := by decide +kernel
theorem dX0_parse_23 : decode cX0_parse 23 = .ok (.iload_n 1, 1) := by decide +kernel
theorem dX0_parse_24 : decode cX0_parse 24 = .ok (.iconst 2, 1) := by decide +kernel
theorem dX0_parse_25 : decode cX0_parse 25 = .ok (.iadd, 1) := by decide +kernel
theorem dX0_parse_26 : decode cX0_parse 26 = .ok (.aload_n 0, 1) := by decide +kernel
theorem dX0_parse_27 : decode cX0_parse 27 = .ok (.getfield 15, 3) := by decide +kernel
theorem dX0_parse_30 : decode cX0_parse 30 = .ok (.if_icmp .ge 89, 3) := by decide +kernel
theorem dX0_parse_33 : decode cX0_parse 33 = .ok (.aload_n 0, 1) := by decide +kernel
theorem dX0_parse_34 : decode cX0_parse 34 = .ok (.getfield 22, 3) := by decide +kernel
theorem dX0_parse_37 : decode cX0_parse 37 = .ok (.bipush 9, 2) := by decide +kernel
theorem dX0_parse_39 : decode cX0_parse 39 = .ok (.if_icmp .ge 80, 3) := by decide +kernel
theorem dX0_parse_42 : decode cX0_parse 42 = .ok (.aload_n 0, 1) := by decide +kernel
theorem dX0_parse_43 : decode cX0_parse 43 = .ok (.getfield 25, 3) := by decide +kernel
theorem dX0_parse_46 : decode cX0_parse 46 = .ok (.aload_n 0, 1) := by decide +kernel
theorem dX0_parse_47 : decode cX0_parse 47 = .ok (.getfield 22, 3) := by decide +kernel
theorem dX0_parse_50 : decode cX0_parse 50 = .ok (.ldc 38, 2) := by decide +kernel
theorem dX0_parse_52 : decode cX0_parse 52 = .ok (.aload_n 0, 1) := by decide +kernel
theorem dX0_parse_53 : decode cX0_parse 53 = .ok (.getfield 9, 3) := by decide +kernel
theorem dX0_parse_56 : decode cX0_parse 56 = .ok (.iload_n 1, 1) := by decide +kernel
theorem dX0_parse_57 : decode cX0_parse 57 = .ok (.iaload, 1) := by decide +kernel
theorem dX0_parse_58 : decode cX0_parse 58 = .ok (.i2c, 1) := by decide +kernel
theorem dX0_parse_59 : decode cX0_parse 59 = .ok (.invokevirtual 40, 3) := by decide +kernel
theorem dX0_parse_62 : decode cX0_parse 62 = .ok (.iastore, 1) := by decide +kernel
theorem dX0_parse_63 : decode cX0_parse 63 = .ok (.aload_n 0, 1) := by decide +kernel
theorem dX0_parse_64 : decode cX0_parse 64 = .ok (.getfield 28, 3) := by decide +kernel
theorem dX0_parse_67 : decode cX0_parse 67 = .ok (.aload_n 0, 1) := by decide +kernel
theorem dX0_parse_68 : decode cX0_parse 68 = .ok (.getfield 22, 3) := by decide +kernel
theorem dX0_parse_71 : decode cX0_parse 71 = .ok (.aload_n 0, 1) := by decide +kernel
theorem dX0_parse_72 : decode cX0_parse 72 = .ok (.getfield 9, 3) := by decide +kernel
theorem dX0_parse_75 : decode cX0_parse 75 = .ok (.iload_n 1, 1) := by decide +kernel
theorem dX0_parse_76 : decode cX0_parse 76 = .ok (.iconst 1, 1) := by decide +kernel
theorem dX0_parse_77 : decode cX0_parse 77 = .ok (.iadd, 1) := by decide +kernel
theorem dX0_parse_78 : decode cX0_parse 78 = .ok (.iaload, 1) := by decide +kernel
theorem dX0_parse_79 : decode cX0_parse 79 = .ok (.bipush 48, 2) := by decide +kernel
theorem dX0_parse_81 : decode cX0_parse 81 = .ok (.isub, 1) := by decide +kernel
theorem dX0_parse_82 : decode cX0_parse 82 = .ok (.iastore, 1) := by decide +kernel
theorem dX0_parse_83 : decode cX0_parse 83 = .ok (.aload_n 0, 1) := by decide +kernel
theorem dX0_parse_84 : decode cX0_parse 84 = .ok (.getfield 31, 3) := by decide +kernel
theorem dX0_parse_87 : decode cX0_parse 87 = .ok (.aload_n 0, 1) := by decide +kernel
theorem dX0_parse_88 : decode cX0_parse 88 = .ok (.getfield 22, 3) := by decide +kernel
theorem dX0_parse_91 : decode cX0_parse 91 = .ok (.aload_n 0, 1) := by decide +kernel
theorem dX0_parse_92 : decode cX0_parse 92 = .ok (.getfield 9, 3) := by decide +kernel
theorem dX0_parse_95 : decode cX0_parse 95 = .ok (.iload_n 1, 1) := by decide +kernel
theorem dX0_parse_96 : decode cX0_parse 96 = .ok (.iconst 2, 1) := by decide +kernel
theorem dX0_parse_97 : decode cX0_parse 97 = .ok (.iadd, 1) := by decide +kernel
theorem dX0_parse_98 : decode cX0_parse 98 = .ok (.iaload, 1) := by decide +kernel
theorem dX0_parse_99 : decode cX0_parse 99 = .ok (.bipush 48, 2) := by decide +kernel
theorem dX0_parse_101 : decode cX0_parse 101 = .ok (.isub, 1) := by decide +kernel
theorem dX0_parse_102 : decode cX0_parse 102 = .ok (.iastore, 1) := by decide +kernel
theorem dX0_parse_103 : decode cX0_parse 103 = .ok (.aload_n 0, 1) := by decide +kernel
theorem dX0_parse_104 : decode cX0_parse 104 = .ok (.dup, 1) := by decide +kernel
theorem dX0_parse_105 : decode cX0_parse 105 = .ok (.getfield 22, 3) := by decide +kernel
theorem dX0_parse_108 : decode cX0_parse 108 = .ok (.iconst 1, 1) := by decide +kernel
theorem dX0_parse_109 : decode cX0_parse 109 = .ok (.iadd, 1) := by decide +kernel
theorem dX0_parse_110 : decode cX0_parse 110 = .ok (.putfield 22, 3) := by decide +kernel
theorem dX0_parse_113 : decode cX0_parse 113 = .ok (.iinc 1 4, 3) := by decide +kernel
theorem dX0_parse_116 : decode cX0_parse 116 = .ok (.goto (-101), 3) := by decide +kernel
theorem dX0_parse_119 : decode cX0_parse 119 = .ok (.return_, 1) := by decide +kernel
theorem dX0_findFault_0 : decode cX0_findFault 0 = .ok (.iconst 0, 1) := by decide +kernel
theorem dX0_findFault_1 : decode cX0_findFault 1 = .ok (.istore_n 1, 1) := by decide +kernel
theorem dX0_findFault_2 : decode cX0_findFault 2 = .ok (.iload_n 1, 1) := by decide +kernel
theorem dX0_findFault_3 : decode cX0_findFault 3 = .ok (.aload_n 0, 1) := by decide +kernel
theorem dX0_findFault_4 : decode cX0_findFault 4 = .ok (.getfield 15, 3) := by decide +kernel
theorem dX0_findFault_7 : decode cX0_findFault 7 = .ok (.if_icmp .ge 24, 3) := by decide +kernel
theorem dX0_findFault_10 : decode cX0_findFault 10 = .ok (.iload_n 1, 1) := by decide +kernel
theorem dX0_findFault_11 : decode cX0_findFault 11 = .ok (.aload_n 0, 1) := by decide +kernel
theorem dX0_findFault_12 : decode cX0_findFault 12 = .ok (.getfield 9, 3) := by decide +kernel
theorem dX0_findFault_15 : decode cX0_findFault 15 = .ok (.iload_n 1, 1) := by decide +kernel
theorem dX0_findFault_16 : decode cX0_findFault 16 = .ok (.iaload, 1) := by decide +kernel
theorem dX0_findFault_17 : decode cX0_findFault 17 = .ok (.invokestatic 46, 3) := by decide +kernel
theorem dX0_findFault_20 : decode cX0_findFault 20 = .ok (.ifCond .ne 5, 3) := by decide +kernel
theorem dX0_findFault_23 : decode cX0_findFault 23 = .ok (.iload_n 1, 1) := by decide +kernel
theorem dX0_findFault_24 : decode cX0_findFault 24 = .ok (.ireturn, 1) := by decide +kernel
theorem dX0_findFault_25 : decode cX0_findFault 25 = .ok (.iinc 1 1, 3) := by decide +kernel
theorem dX0_findFault_28 : decode cX0_findFault 28 = .ok (.goto (-26), 3) := by decide +kernel
theorem dX0_findFault_31 : decode cX0_findFault 31 = .ok (.aload_n 0, 1) := by decide +kernel
theorem dX0_findFault_32 : decode cX0_findFault 32 = .ok (.getfield 15, 3) := by decide +kernel
theorem dX0_findFault_35 : decode cX0_findFault 35 = .ok (.ifCond .eq 13, 3) := by decide +kernel
theorem dX0_findFault_38 : decode cX0_findFault 38 = .ok (.aload_n 0, 1) := by decide +kernel
theorem dX0_findFault_39 : decode cX0_findFault 39 = .ok (.getfield 15, 3) := by decide +kernel
theorem dX0_findFault_42 : decode cX0_findFault 42 = .ok (.iconst 4, 1) := by decide +kernel
theorem dX0_findFault_43 : decode cX0_findFault 43 = .ok (.irem, 1) := by decide +kernel
theorem dX0_findFault_44 : decode cX0_findFault 44 = .ok (.iconst 3, 1) := by decide +kernel
theorem dX0_findFault_45 : decode cX0_findFault 45 = .ok (.if_icmp .ne 7, 3) := by decide +kernel
theorem dX0_findFault_48 : decode cX0_findFault 48 = .ok (.iconst (-1), 1) := by decide +kernel
theorem dX0_findFault_49 : decode cX0_findFault 49 = .ok (.goto 7, 3) := by decide +kernel
theorem dX0_findFault_52 : decode cX0_findFault 52 = .ok (.aload_n 0, 1) := by decide +kernel
theorem dX0_findFault_53 : decode cX0_findFault 53 = .ok (.getfield 15, 3) := by decide +kernel
theorem dX0_findFault_56 : decode cX0_findFault 56 = .ok (.ireturn, 1) := by decide +kernel
theorem dX0_isDue_0 : decode cX0_isDue 0 = .ok (.iload_n 0, 1) := by decide +kernel
theorem dX0_isDue_1 : decode cX0_isDue 1 = .ok (.iconst 4, 1) := by decide +kernel
theorem dX0_isDue_2 : decode cX0_isDue 2 = .ok (.irem, 1) := by decide +kernel
theorem dX0_isDue_3 : decode cX0_isDue 3 = .ok (.lookupswitch 61 #[(0, 25), (3, 49)], 25) := by decide +kernel
theorem dX0_isDue_28 : decode cX0_isDue 28 = .ok (.iload_n 0, 1) := by decide +kernel
theorem dX0_isDue_29 : decode cX0_isDue 29 = .ok (.iconst 4, 1) := by decide +kernel
theorem dX0_isDue_30 : decode cX0_isDue 30 = .ok (.idiv, 1) := by decide +kernel
theorem dX0_isDue_31 : decode cX0_isDue 31 = .ok (.bipush 9, 2) := by decide +kernel
theorem dX0_isDue_33 : decode cX0_isDue 33 = .ok (.if_icmp .ge 17, 3) := by decide +kernel
theorem dX0_isDue_36 : decode cX0_isDue 36 = .ok (.ldc 38, 2) := by decide +kernel
theorem dX0_isDue_38 : decode cX0_isDue 38 = .ok (.iload_n 1, 1) := by decide +kernel
theorem dX0_isDue_39 : decode cX0_isDue 39 = .ok (.i2c, 1) := by decide +kernel
theorem dX0_isDue_40 : decode cX0_isDue 40 = .ok (.invokevirtual 40, 3) := by decide +kernel
theorem dX0_isDue_43 : decode cX0_isDue 43 = .ok (.ifCond .lt 7, 3) := by decide +kernel
theorem dX0_isDue_46 : decode cX0_isDue 46 = .ok (.iconst 1, 1) := by decide +kernel
theorem dX0_isDue_47 : decode cX0_isDue 47 = .ok (.goto 4, 3) := by decide +kernel
theorem dX0_isDue_50 : decode cX0_isDue 50 = .ok (.iconst 0, 1) := by decide +kernel
theorem dX0_isDue_51 : decode cX0_isDue 51 = .ok (.ireturn, 1) := by decide +kernel
theorem dX0_isDue_52 : decode cX0_isDue 52 = .ok (.iload_n 1, 1) := by decide +kernel
theorem dX0_isDue_53 : decode cX0_isDue 53 = .ok (.bipush 59, 2) := by decide +kernel
theorem dX0_isDue_55 : decode cX0_isDue 55 = .ok (.if_icmp .ne 7, 3) := by decide +kernel
theorem dX0_isDue_58 : decode cX0_isDue 58 = .ok (.iconst 1, 1) := by decide +kernel
theorem dX0_isDue_59 : decode cX0_isDue 59 = .ok (.goto 4, 3) := by decide +kernel
theorem dX0_isDue_62 : decode cX0_isDue 62 = .ok (.iconst 0, 1) := by decide +kernel
theorem dX0_isDue_63 : decode cX0_isDue 63 = .ok (.ireturn, 1) := by decide +kernel
theorem dX0_isDue_64 : decode cX0_isDue 64 = .ok (.iload_n 1, 1) := by decide +kernel
theorem dX0_isDue_65 : decode cX0_isDue 65 = .ok (.bipush 49, 2) := by decide +kernel
theorem dX0_isDue_67 : decode cX0_isDue 67 = .ok (.if_icmp .lt 13, 3) := by decide +kernel
theorem dX0_isDue_70 : decode cX0_isDue 70 = .ok (.iload_n 1, 1) := by decide +kernel
theorem dX0_isDue_71 : decode cX0_isDue 71 = .ok (.bipush 57, 2) := by decide +kernel
theorem dX0_isDue_73 : decode cX0_isDue 73 = .ok (.if_icmp .gt 7, 3) := by decide +kernel
theorem dX0_isDue_76 : decode cX0_isDue 76 = .ok (.iconst 1, 1) := by decide +kernel
theorem dX0_isDue_77 : decode cX0_isDue 77 = .ok (.goto 4, 3) := by decide +kernel
theorem dX0_isDue_80 : decode cX0_isDue 80 = .ok (.iconst 0, 1) := by decide +kernel
theorem dX0_isDue_81 : decode cX0_isDue 81 = .ok (.ireturn, 1) := by decide +kernel
theorem dX0_allBits_0 : decode cX0_allBits 0 = .ok (.iconst 1, 1) := by decide +kernel
theorem dX0_allBits_1 : decode cX0_allBits 1 = .ok (.aload_n 0, 1) := by decide +kernel
theorem dX0_allBits_2 : decode cX0_allBits 2 = .ok (.getfield 22, 3) := by decide +kernel
theorem dX0_allBits_5 : decode cX0_allBits 5 = .ok (.ishl, 1) := by decide +kernel
theorem dX0_allBits_6 : decode cX0_allBits 6 = .ok (.iconst 1, 1) := by decide +kernel
theorem dX0_allBits_7 : decode cX0_allBits 7 = .ok (.isub, 1) := by decide +kernel
theorem dX0_allBits_8 : decode cX0_allBits 8 = .ok (.ireturn, 1) := by decide +kernel
theorem dX0_allSprings_0 : decode cX0_allSprings 0 = .ok (.iconst 0, 1) := by decide +kernel
theorem dX0_allSprings_1 : decode cX0_allSprings 1 = .ok (.istore_n 1, 1) := by decide +kernel
theorem dX0_allSprings_2 : decode cX0_allSprings 2 = .ok (.iconst 0, 1) := by decide +kernel
theorem dX0_allSprings_3 : decode cX0_allSprings 3 = .ok (.istore_n 2, 1) := by decide +kernel
theorem dX0_allSprings_4 : decode cX0_allSprings 4 = .ok (.iload_n 2, 1) := by decide +kernel
theorem dX0_allSprings_5 : decode cX0_allSprings 5 = .ok (.aload_n 0, 1) := by decide +kernel
theorem dX0_allSprings_6 : decode cX0_allSprings 6 = .ok (.getfield 22, 3) := by decide +kernel
theorem dX0_allSprings_9 : decode cX0_allSprings 9 = .ok (.if_icmp .ge 18, 3) := by decide +kernel
theorem dX0_allSprings_12 : decode cX0_allSprings 12 = .ok (.iload_n 1, 1) := by decide +kernel
theorem dX0_allSprings_13 : decode cX0_allSprings 13 = .ok (.aload_n 0, 1) := by decide +kernel
theorem dX0_allSprings_14 : decode cX0_allSprings 14 = .ok (.getfield 31, 3) := by decide +kernel
theorem dX0_allSprings_17 : decode cX0_allSprings 17 = .ok (.iload_n 2, 1) := by decide +kernel
theorem dX0_allSprings_18 : decode cX0_allSprings 18 = .ok (.iaload, 1) := by decide +kernel
theorem dX0_allSprings_19 : decode cX0_allSprings 19 = .ok (.iadd, 1) := by decide +kernel
theorem dX0_allSprings_20 : decode cX0_allSprings 20 = .ok (.istore_n 1, 1) := by decide +kernel
theorem dX0_allSprings_21 : decode cX0_allSprings 21 = .ok (.iinc 2 1, 3) := by decide +kernel
theorem dX0_allSprings_24 : decode cX0_allSprings 24 = .ok (.goto (-20), 3) := by decide +kernel
theorem dX0_allSprings_27 : decode cX0_allSprings 27 = .ok (.iload_n 1, 1) := by decide +kernel
theorem dX0_allSprings_28 : decode cX0_allSprings 28 = .ok (.ireturn, 1) := by decide +kernel
theorem dX0_withLaw_0 : decode cX0_withLaw 0 = .ok (.iconst 0, 1) := by decide +kernel
theorem dX0_withLaw_1 : decode cX0_withLaw 1 = .ok (.istore_n 2, 1) := by decide +kernel
theorem dX0_withLaw_2 : decode cX0_withLaw 2 = .ok (.iconst 0, 1) := by decide +kernel
theorem dX0_withLaw_3 : decode cX0_withLaw 3 = .ok (.istore_n 3, 1) := by decide +kernel
theorem dX0_withLaw_4 : decode cX0_withLaw 4 = .ok (.iload_n 3, 1) := by decide +kernel
theorem dX0_withLaw_5 : decode cX0_withLaw 5 = .ok (.aload_n 0, 1) := by decide +kernel
theorem dX0_withLaw_6 : decode cX0_withLaw 6 = .ok (.getfield 22, 3) := by decide +kernel
theorem dX0_withLaw_9 : decode cX0_withLaw 9 = .ok (.if_icmp .ge 22, 3) := by decide +kernel
theorem dX0_withLaw_12 : decode cX0_withLaw 12 = .ok (.aload_n 0, 1) := by decide +kernel
theorem dX0_withLaw_13 : decode cX0_withLaw 13 = .ok (.getfield 25, 3) := by decide +kernel
theorem dX0_withLaw_16 : decode cX0_withLaw 16 = .ok (.iload_n 3, 1) := by decide +kernel
theorem dX0_withLaw_17 : decode cX0_withLaw 17 = .ok (.iaload, 1) := by decide +kernel
theorem dX0_withLaw_18 : decode cX0_withLaw 18 = .ok (.iload_n 1, 1) := by decide +kernel
theorem dX0_withLaw_19 : decode cX0_withLaw 19 = .ok (.if_icmp .ne 6, 3) := by decide +kernel
theorem dX0_withLaw_22 : decode cX0_withLaw 22 = .ok (.iinc 2 1, 3) := by decide +kernel
theorem dX0_withLaw_25 : decode cX0_withLaw 25 = .ok (.iinc 3 1, 3) := by decide +kernel
theorem dX0_withLaw_28 : decode cX0_withLaw 28 = .ok (.goto (-24), 3) := by decide +kernel
theorem dX0_withLaw_31 : decode cX0_withLaw 31 = .ok (.iload_n 2, 1) := by decide +kernel
theorem dX0_withLaw_32 : decode cX0_withLaw 32 = .ok (.ireturn, 1) := by decide +kernel
theorem dX1_init_0 : decode cX1_init 0 = .ok (.aload_n 0, 1) := by decide +kernel
theorem dX1_init_1 : decode cX1_init 1 = .ok (.invokespecial 3, 3) := by decide +kernel
theorem dX1_init_4 : decode cX1_init 4 = .ok (.aload_n 0, 1) := by decide +kernel
theorem dX1_init_5 : decode cX1_init 5 = .ok (.iconst 0, 1) := by decide +kernel
theorem dX1_init_6 : decode cX1_init 6 = .ok (.putfield 9, 3) := by decide +kernel
theorem dX1_init_9 : decode cX1_init 9 = .ok (.aload_n 0, 1) := by decide +kernel
theorem dX1_init_10 : decode cX1_init 10 = .ok (.bipush 9, 2) := by decide +kernel
theorem dX1_init_12 : decode cX1_init 12 = .ok (.newarray .int, 2) := by decide +kernel
theorem dX1_init_14 : decode cX1_init 14 = .ok (.putfield 15, 3) := by decide +kernel
theorem dX1_init_17 : decode cX1_init 17 = .ok (.aload_n 0, 1) := by decide +kernel
theorem dX1_init_18 : decode cX1_init 18 = .ok (.bipush 9, 2) := by decide +kernel
theorem dX1_init_20 : decode cX1_init 20 = .ok (.newarray .int, 2) := by decide +kernel
theorem dX1_init_22 : decode cX1_init 22 = .ok (.putfield 19, 3) := by decide +kernel
theorem dX1_init_25 : decode cX1_init 25 = .ok (.aload_n 0, 1) := by decide +kernel
theorem dX1_init_26 : decode cX1_init 26 = .ok (.bipush 9, 2) := by decide +kernel
theorem dX1_init_28 : decode cX1_init 28 = .ok (.newarray .int, 2) := by decide +kernel
theorem dX1_init_30 : decode cX1_init 30 = .ok (.putfield 22, 3) := by decide +kernel
theorem dX1_init_33 : decode cX1_init 33 = .ok (.aload_n 0, 1) := by decide +kernel
theorem dX1_init_34 : decode cX1_init 34 = .ok (.bipush 9, 2) := by decide +kernel
theorem dX1_init_36 : decode cX1_init 36 = .ok (.newarray .int, 2) := by decide +kernel
theorem dX1_init_38 : decode cX1_init 38 = .ok (.putfield 25, 3) := by decide +kernel
theorem dX1_init_41 : decode cX1_init 41 = .ok (.aload_n 0, 1) := by decide +kernel
theorem dX1_init_42 : decode cX1_init 42 = .ok (.iconst 0, 1) := by decide +kernel
theorem dX1_init_43 : decode cX1_init 43 = .ok (.putfield 28, 3) := by decide +kernel
theorem dX1_init_46 : decode cX1_init 46 = .ok (.aload_n 0, 1) := by decide +kernel
theorem dX1_init_47 : decode cX1_init 47 = .ok (.iconst 3, 1) := by decide +kernel
theorem dX1_init_48 : decode cX1_init 48 = .ok (.bipush 60, 2) := by decide +kernel
theorem dX1_init_50 : decode cX1_init 50 = .ok (.multianewarray 31 2, 4) := by decide +kernel
theorem dX1_init_54 : decode cX1_init 54 = .ok (.putfield 33, 3) := by decide +kernel
theorem dX1_init_57 : decode cX1_init 57 = .ok (.aload_n 0, 1) := by decide +kernel
theorem dX1_init_58 : decode cX1_init 58 = .ok (.bipush 60, 2) := by decide +kernel
theorem dX1_init_60 : decode cX1_init 60 = .ok (.newarray .int, 2) := by decide +kernel
theorem dX1_init_62 : decode cX1_init 62 = .ok (.putfield 36, 3) := by decide +kernel
theorem dX1_init_65 : decode cX1_init 65 = .ok (.aload_n 0, 1) := by decide +kernel
theorem dX1_init_66 : decode cX1_init 66 = .ok (.bipush 60, 2) := by decide +kernel
theorem dX1_init_68 : decode cX1_init 68 = .ok (.newarray .int, 2) := by decide +kernel
theorem dX1_init_70 : decode cX1_init 70 = .ok (.putfield 39, 3) := by decide +kernel
theorem dX1_init_73 : decode cX1_init 73 = .ok (.aload_n 0, 1) := by decide +kernel
theorem dX1_init_74 : decode cX1_init 74 = .ok (.bipush 9, 2) := by decide +kernel
theorem dX1_init_76 : decode cX1_init 76 = .ok (.newarray .int, 2) := by decide +kernel
theorem dX1_init_78 : decode cX1_init 78 = .ok (.putfield 42, 3) := by decide +kernel
theorem dX1_init_81 : decode cX1_init 81 = .ok (.aload_n 0, 1) := by decide +kernel
theorem dX1_init_82 : decode cX1_init 82 = .ok (.bipush 9, 2) := by decide +kernel
theorem dX1_init_84 : decode cX1_init 84 = .ok (.newarray .int, 2) := by decide +kernel
theorem dX1_init_86 : decode cX1_init 86 = .ok (.putfield 45, 3) := by decide +kernel
theorem dX1_init_89 : decode cX1_init 89 = .ok (.aload_n 0, 1) := by decide +kernel
theorem dX1_init_90 : decode cX1_init 90 = .ok (.bipush 9, 2) := by decide +kernel
theorem dX1_init_92 : decode cX1_init 92 = .ok (.newarray .int, 2) := by decide +kernel
theorem dX1_init_94 : decode cX1_init 94 = .ok (.putfield 48, 3) := by decide +kernel
theorem dX1_init_97 : decode cX1_init 97 = .ok (.aload_n 0, 1) := by decide +kernel
theorem dX1_init_98 : decode cX1_init 98 = .ok (.bipush 9, 2) := by decide +kernel
theorem dX1_init_100 : decode cX1_init 100 = .ok (.newarray .int, 2) := by decide +kernel
theorem dX1_init_102 : decode cX1_init 102 = .ok (.putfield 51, 3) := by decide +kernel
theorem dX1_init_105 : decode cX1_init 105 = .ok (.aload_n 0, 1) := by decide +kernel
theorem dX1_init_106 : decode cX1_init 106 = .ok (.iconst 0, 1) := by decide +kernel
theorem dX1_init_107 : decode cX1_init 107 = .ok (.putfield 54, 3) := by decide +kernel
theorem dX1_init_110 : decode cX1_init 110 = .ok (.aload_n 0, 1) := by decide +kernel
theorem dX1_init_111 : decode cX1_init 111 = .ok (.iconst 0, 1) := by decide +kernel
theorem dX1_init_112 : decode cX1_init 112 = .ok (.putfield 57, 3) := by decide +kernel
theorem dX1_init_115 : decode cX1_init 115 = .ok (.aload_n 0, 1) := by decide +kernel
theorem dX1_init_116 : decode cX1_init 116 = .ok (.iconst 0, 1) := by decide +kernel
theorem dX1_init_117 : decode cX1_init 117 = .ok (.putfield 60, 3) := by decide +kernel
theorem dX1_init_120 : decode cX1_init 120 = .ok (.return_, 1) := by decide +kernel
theorem dX1_load_0 : decode cX1_load 0 = .ok (.aload_n 0, 1) := by decide +kernel
theorem dX1_load_1 : decode cX1_load 1 = .ok (.aload_n 1, 1) := by decide +kernel
theorem dX1_load_2 : decode cX1_load 2 = .ok (.getfield 63, 3) := by decide +kernel
theorem dX1_load_5 : decode cX1_load 5 = .ok (.putfield 9, 3) := by decide +kernel
theorem dX1_load_8 : decode cX1_load 8 = .ok (.aload_n 1, 1) := by decide +kernel
theorem dX1_load_9 : decode cX1_load 9 = .ok (.getfield 66, 3) := by decide +kernel
theorem dX1_load_12 : decode cX1_load 12 = .ok (.iconst 0, 1) := by decide +kernel
theorem dX1_load_13 : decode cX1_load 13 = .ok (.aload_n 0, 1) := by decide +kernel
theorem dX1_load_14 : decode cX1_load 14 = .ok (.getfield 15, 3) := by decide +kernel
theorem dX1_load_17 : decode cX1_load 17 = .ok (.iconst 0, 1) := by decide +kernel
theorem dX1_load_18 : decode cX1_load 18 = .ok (.bipush 9, 2) := by decide +kernel
theorem dX1_load_20 : decode cX1_load 20 = .ok (.invokestatic 67, 3) := by decide +kernel
theorem dX1_load_23 : decode cX1_load 23 = .ok (.aload_n 1, 1) := by decide +kernel
theorem dX1_load_24 : decode cX1_load 24 = .ok (.getfield 73, 3) := by decide +kernel
theorem dX1_load_27 : decode cX1_load 27 = .ok (.iconst 0, 1) := by decide +kernel
theorem dX1_load_28 : decode cX1_load 28 = .ok (.aload_n 0, 1) := by decide +kernel
theorem dX1_load_29 : decode cX1_load 29 = .ok (.getfield 19, 3) := by decide +kernel
theorem dX1_load_32 : decode cX1_load 32 = .ok (.iconst 0, 1) := by decide +kernel
theorem dX1_load_33 : decode cX1_load 33 = .ok (.bipush 9, 2) := by decide +kernel
theorem dX1_load_35 : decode cX1_load 35 = .ok (.invokestatic 67, 3) := by decide +kernel
theorem dX1_load_38 : decode cX1_load 38 = .ok (.aload_n 1, 1) := by decide +kernel
theorem dX1_load_39 : decode cX1_load 39 = .ok (.getfield 74, 3) := by decide +kernel
theorem dX1_load_42 : decode cX1_load 42 = .ok (.iconst 0, 1) := by decide +kernel
theorem dX1_load_43 : decode cX1_load 43 = .ok (.aload_n 0, 1) := by decide +kernel
theorem dX1_load_44 : decode cX1_load 44 = .ok (.getfield 22, 3) := by decide +kernel
theorem dX1_load_47 : decode cX1_load 47 = .ok (.iconst 0, 1) := by decide +kernel
theorem dX1_load_48 : decode cX1_load 48 = .ok (.bipush 9, 2) := by decide +kernel
theorem dX1_load_50 : decode cX1_load 50 = .ok (.invokestatic 67, 3) := by decide +kernel
theorem dX1_load_53 : decode cX1_load 53 = .ok (.aload_n 0, 1) := by decide +kernel
theorem dX1_load_54 : decode cX1_load 54 = .ok (.aload_n 2, 1) := by decide +kernel
theorem dX1_load_55 : decode cX1_load 55 = .ok (.invokevirtual 75, 3) := by decide +kernel
theorem dX1_load_58 : decode cX1_load 58 = .ok (.aload_n 0, 1) := by decide +kernel
theorem dX1_load_59 : decode cX1_load 59 = .ok (.iload_n 3, 1) := by decide +kernel
theorem dX1_load_60 : decode cX1_load 60 = .ok (.putfield 28, 3) := by decide +kernel
theorem dX1_load_63 : decode cX1_load 63 = .ok (.iconst 0, 1) := by decide +kernel
theorem dX1_load_64 : decode cX1_load 64 = .ok (.istore 5, 2) := by decide +kernel
theorem dX1_load_66 : decode cX1_load 66 = .ok (.iload 5, 2) := by decide +kernel
theorem dX1_load_68 : decode cX1_load 68 = .ok (.iconst 3, 1) := by decide +kernel
theorem dX1_load_69 : decode cX1_load 69 = .ok (.if_icmp .ge 20, 3) := by decide +kernel
theorem dX1_load_72 : decode cX1_load 72 = .ok (.aload_n 0, 1) := by decide +kernel
theorem dX1_load_73 : decode cX1_load 73 = .ok (.getfield 33, 3) := by decide +kernel
theorem dX1_load_76 : decode cX1_load 76 = .ok (.iload 5, 2) := by decide +kernel
theorem dX1_load_78 : decode cX1_load 78 = .ok (.aaload, 1) := by decide +kernel
theorem dX1_load_79 : decode cX1_load 79 = .ok (.iconst 0, 1) := by decide +kernel
theorem dX1_load_80 : decode cX1_load 80 = .ok (.invokestatic 79, 3) := by decide +kernel
theorem dX1_load_83 : decode cX1_load 83 = .ok (.iinc 5 1, 3) := by decide +kernel
theorem dX1_load_86 : decode cX1_load 86 = .ok (.goto (-20), 3) := by decide +kernel
theorem dX1_load_89 : decode cX1_load 89 = .ok (.iconst 0, 1) := by decide +kernel
theorem dX1_load_90 : decode cX1_load 90 = .ok (.istore 5, 2) := by decide +kernel
theorem dX1_load_92 : decode cX1_load 92 = .ok (.iload 5, 2) := by decide +kernel
theorem dX1_load_94 : decode cX1_load 94 = .ok (.aload 4, 2) := by decide +kernel
theorem dX1_load_96 : decode cX1_load 96 = .ok (.getfield 85, 3) := by decide +kernel
theorem dX1_load_99 : decode cX1_load 99 = .ok (.if_icmp .ge 44, 3) := by decide +kernel
theorem dX1_load_102 : decode cX1_load 102 = .ok (.aload_n 0, 1) := by decide +kernel
theorem dX1_load_103 : decode cX1_load 103 = .ok (.getfield 33, 3) := by decide +kernel
theorem dX1_load_106 : decode cX1_load 106 = .ok (.aload 4, 2) := by decide +kernel
theorem dX1_load_108 : decode cX1_load 108 = .ok (.getfield 90, 3) := by decide +kernel
theorem dX1_load_111 : decode cX1_load 111 = .ok (.iload 5, 2) := by decide +kernel
theorem dX1_load_113 : decode cX1_load 113 = .ok (.iaload, 1) := by decide +kernel
theorem dX1_load_114 : decode cX1_load 114 = .ok (.aaload, 1) := by decide +kernel
theorem dX1_load_115 : decode cX1_load 115 = .ok (.aload 4, 2) := by decide +kernel
theorem dX1_load_117 : decode cX1_load 117 = .ok (.getfield 92, 3) := by decide +kernel
theorem dX1_load_120 : decode cX1_load 120 = .ok (.iload 5, 2) := by decide +kernel
theorem dX1_load_122 : decode cX1_load 122 = .ok (.iaload, 1) := by decide +kernel
theorem dX1_load_123 : decode cX1_load 123 = .ok (.dup2, 1) := by decide +kernel
theorem dX1_load_124 : decode cX1_load 124 = .ok (.iaload, 1) := by decide +kernel
theorem dX1_load_125 : decode cX1_load 125 = .ok (.iconst 1, 1) := by decide +kernel
theorem dX1_load_126 : decode cX1_load 126 = .ok (.aload 4, 2) := by decide +kernel
theorem dX1_load_128 : decode cX1_load 128 = .ok (.getfield 95, 3) := by decide +kernel
theorem dX1_load_131 : decode cX1_load 131 = .ok (.iload 5, 2) := by decide +kernel
theorem dX1_load_133 : decode cX1_load 133 = .ok (.iaload, 1) := by decide +kernel
theorem dX1_load_134 : decode cX1_load 134 = .ok (.ishl, 1) := by decide +kernel
theorem dX1_load_135 : decode cX1_load 135 = .ok (.ior, 1) := by decide +kernel
theorem dX1_load_136 : decode cX1_load 136 = .ok (.iastore, 1) := by decide +kernel
theorem dX1_load_137 : decode cX1_load 137 = .ok (.iinc 5 1, 3) := by decide +kernel
theorem dX1_load_140 : decode cX1_load 140 = .ok (.goto (-48), 3) := by decide +kernel
theorem dX1_load_143 : decode cX1_load 143 = .ok (.return_, 1) := by decide +kernel
theorem dX1_putRow_0 : decode cX1_putRow 0 = .ok (.iconst 0, 1) := by decide +kernel
theorem dX1_putRow_1 : decode cX1_putRow 1 = .ok (.istore_n 2, 1) := by decide +kernel
theorem dX1_putRow_2 : decode cX1_putRow 2 = .ok (.iload_n 2, 1) := by decide +kernel
theorem dX1_putRow_3 : decode cX1_putRow 3 = .ok (.bipush 9, 2) := by decide +kernel
theorem dX1_putRow_5 : decode cX1_putRow 5 = .ok (.if_icmp .ge 18, 3) := by decide +kernel
theorem dX1_putRow_8 : decode cX1_putRow 8 = .ok (.aload_n 0, 1) := by decide +kernel
theorem dX1_putRow_9 : decode cX1_putRow 9 = .ok (.getfield 25, 3) := by decide +kernel
theorem dX1_putRow_12 : decode cX1_putRow 12 = .ok (.aload_n 1, 1) := by decide +kernel
theorem dX1_putRow_13 : decode cX1_putRow 13 = .ok (.iload_n 2, 1) := by decide +kernel
theorem dX1_putRow_14 : decode cX1_putRow 14 = .ok (.iaload, 1) := by decide +kernel
theorem dX1_putRow_15 : decode cX1_putRow 15 = .ok (.iload_n 2, 1) := by decide +kernel
theorem dX1_putRow_16 : decode cX1_putRow 16 = .ok (.iastore, 1) := by decide +kernel
theorem dX1_putRow_17 : decode cX1_putRow 17 = .ok (.iinc 2 1, 3) := by decide +kernel
theorem dX1_putRow_20 : decode cX1_putRow 20 = .ok (.goto (-18), 3) := by decide +kernel
theorem dX1_putRow_23 : decode cX1_putRow 23 = .ok (.return_, 1) := by decide +kernel
theorem dX1_putLaw_0 : decode cX1_putLaw 0 = .ok (.aload_n 0, 1) := by decide +kernel
theorem dX1_putLaw_1 : decode cX1_putLaw 1 = .ok (.getfield 15, 3) := by decide +kernel
theorem dX1_putLaw_4 : decode cX1_putLaw 4 = .ok (.iload_n 1, 1) := by decide +kernel
theorem dX1_putLaw_5 : decode cX1_putLaw 5 = .ok (.iload_n 2, 1) := by decide +kernel
theorem dX1_putLaw_6 : decode cX1_putLaw 6 = .ok (.bipush 10, 2) := by decide +kernel
theorem dX1_putLaw_8 : decode cX1_putLaw 8 = .ok (.idiv, 1) := by decide +kernel
theorem dX1_putLaw_9 : decode cX1_putLaw 9 = .ok (.iastore, 1) := by decide +kernel
theorem dX1_putLaw_10 : decode cX1_putLaw 10 = .ok (.aload_n 0, 1) := by decide +kernel
theorem dX1_putLaw_11 : decode cX1_putLaw 11 = .ok (.getfield 19, 3) := by decide +kernel
theorem dX1_putLaw_14 : decode cX1_putLaw 14 = .ok (.iload_n 1, 1) := by decide +kernel
theorem dX1_putLaw_15 : decode cX1_putLaw 15 = .ok (.iload_n 2, 1) := by decide +kernel
theorem dX1_putLaw_16 : decode cX1_putLaw 16 = .ok (.bipush 10, 2) := by decide +kernel
theorem dX1_putLaw_18 : decode cX1_putLaw 18 = .ok (.irem, 1) := by decide +kernel
theorem dX1_putLaw_19 : decode cX1_putLaw 19 = .ok (.iastore, 1) := by decide +kernel
theorem dX1_putLaw_20 : decode cX1_putLaw 20 = .ok (.return_, 1) := by decide +kernel
theorem dX1_putLooks_0 : decode cX1_putLooks 0 = .ok (.iconst 0, 1) := by decide +kernel
theorem dX1_putLooks_1 : decode cX1_putLooks 1 = .ok (.istore 4, 2) := by decide +kernel
theorem dX1_putLooks_3 : decode cX1_putLooks 3 = .ok (.iload 4, 2) := by decide +kernel
theorem dX1_putLooks_5 : decode cX1_putLooks 5 = .ok (.iload_n 3, 1) := by decide +kernel
theorem dX1_putLooks_6 : decode cX1_putLooks 6 = .ok (.if_icmp .gt 53, 3) := by decide +kernel
theorem dX1_putLooks_9 : decode cX1_putLooks 9 = .ok (.iload 4, 2) := by decide +kernel
theorem dX1_putLooks_11 : decode cX1_putLooks 11 = .ok (.bipush 60, 2) := by decide +kernel
theorem dX1_putLooks_13 : decode cX1_putLooks 13 = .ok (.if_icmp .ge 46, 3) := by decide +kernel
theorem dX1_putLooks_16 : decode cX1_putLooks 16 = .ok (.aload_n 0, 1) := by decide +kernel
theorem dX1_putLooks_17 : decode cX1_putLooks 17 = .ok (.getfield 33, 3) := by decide +kernel
theorem dX1_putLooks_20 : decode cX1_putLooks 20 = .ok (.iconst 1, 1) := by decide +kernel
theorem dX1_putLooks_21 : decode cX1_putLooks 21 = .ok (.aaload, 1) := by decide +kernel
theorem dX1_putLooks_22 : decode cX1_putLooks 22 = .ok (.iload 4, 2) := by decide +kernel
theorem dX1_putLooks_24 : decode cX1_putLooks 24 = .ok (.iaload, 1) := by decide +kernel
theorem dX1_putLooks_25 : decode cX1_putLooks 25 = .ok (.iconst 1, 1) := by decide +kernel
theorem dX1_putLooks_26 : decode cX1_putLooks 26 = .ok (.iload_n 1, 1) := by decide +kernel
theorem dX1_putLooks_27 : decode cX1_putLooks 27 = .ok (.ishl, 1) := by decide +kernel
theorem dX1_putLooks_28 : decode cX1_putLooks 28 = .ok (.iconst (-1), 1) := by decide +kernel
theorem dX1_putLooks_29 : decode cX1_putLooks 29 = .ok (.ixor, 1) := by decide +kernel
theorem dX1_putLooks_30 : decode cX1_putLooks 30 = .ok (.iand, 1) := by decide +kernel
theorem dX1_putLooks_31 : decode cX1_putLooks 31 = .ok (.istore 5, 2) := by decide +kernel
theorem dX1_putLooks_33 : decode cX1_putLooks 33 = .ok (.aload_n 0, 1) := by decide +kernel
theorem dX1_putLooks_34 : decode cX1_putLooks 34 = .ok (.getfield 33, 3) := by decide +kernel
theorem dX1_putLooks_37 : decode cX1_putLooks 37 = .ok (.iconst 1, 1) := by decide +kernel
theorem dX1_putLooks_38 : decode cX1_putLooks 38 = .ok (.aaload, 1) := by decide +kernel
theorem dX1_putLooks_39 : decode cX1_putLooks 39 = .ok (.iload 4, 2) := by decide +kernel
theorem dX1_putLooks_41 : decode cX1_putLooks 41 = .ok (.iload 5, 2) := by decide +kernel
theorem dX1_putLooks_43 : decode cX1_putLooks 43 = .ok (.iload_n 2, 1) := by decide +kernel
theorem dX1_putLooks_44 : decode cX1_putLooks 44 = .ok (.iload 4, 2) := by decide +kernel
theorem dX1_putLooks_46 : decode cX1_putLooks 46 = .ok (.ishr, 1) := by decide +kernel
theorem dX1_putLooks_47 : decode cX1_putLooks 47 = .ok (.iconst 1, 1) := by decide +kernel
theorem dX1_putLooks_48 : decode cX1_putLooks 48 = .ok (.iand, 1) := by decide +kernel
theorem dX1_putLooks_49 : decode cX1_putLooks 49 = .ok (.iload_n 1, 1) := by decide +kernel
theorem dX1_putLooks_50 : decode cX1_putLooks 50 = .ok (.ishl, 1) := by decide +kernel
theorem dX1_putLooks_51 : decode cX1_putLooks 51 = .ok (.ior, 1) := by decide +kernel
theorem dX1_putLooks_52 : decode cX1_putLooks 52 = .ok (.iastore, 1) := by decide +kernel
theorem dX1_putLooks_53 : decode cX1_putLooks 53 = .ok (.iinc 4 1, 3) := by decide +kernel
theorem dX1_putLooks_56 : decode cX1_putLooks 56 = .ok (.goto (-53), 3) := by decide +kernel
theorem dX1_putLooks_59 : decode cX1_putLooks 59 = .ok (.return_, 1) := by decide +kernel
theorem dX1_run_0 : decode cX1_run 0 = .ok (.iconst 0, 1) := by decide +kernel
theorem dX1_run_1 : decode cX1_run 1 = .ok (.istore_n 2, 1) := by decide +kernel
theorem dX1_run_2 : decode cX1_run 2 = .ok (.iload_n 2, 1) := by decide +kernel
theorem dX1_run_3 : decode cX1_run 3 = .ok (.aload_n 0, 1) := by decide +kernel
theorem dX1_run_4 : decode cX1_run 4 = .ok (.getfield 9, 3) := by decide +kernel
theorem dX1_run_7 : decode cX1_run 7 = .ok (.if_icmp .ge 56, 3) := by decide +kernel
theorem dX1_run_10 : decode cX1_run 10 = .ok (.aload_n 0, 1) := by decide +kernel
theorem dX1_run_11 : decode cX1_run 11 = .ok (.getfield 42, 3) := by decide +kernel
theorem dX1_run_14 : decode cX1_run 14 = .ok (.iload_n 2, 1) := by decide +kernel
theorem dX1_run_15 : decode cX1_run 15 = .ok (.aload_n 0, 1) := by decide +kernel
theorem dX1_run_16 : decode cX1_run 16 = .ok (.getfield 25, 3) := by decide +kernel
theorem dX1_run_19 : decode cX1_run 19 = .ok (.iload_n 2, 1) := by decide +kernel
theorem dX1_run_20 : decode cX1_run 20 = .ok (.iaload, 1) := by decide +kernel
theorem dX1_run_21 : decode cX1_run 21 = .ok (.aload_n 0, 1) := by decide +kernel
theorem dX1_run_22 : decode cX1_run 22 = .ok (.getfield 19, 3) := by decide +kernel
theorem dX1_run_25 : decode cX1_run 25 = .ok (.iload_n 2, 1) := by decide +kernel
theorem dX1_run_26 : decode cX1_run 26 = .ok (.iaload, 1) := by decide +kernel
theorem dX1_run_27 : decode cX1_run 27 = .ok (.invokestatic 98, 3) := by decide +kernel
theorem dX1_run_30 : decode cX1_run 30 = .ok (.iastore, 1) := by decide +kernel
theorem dX1_run_31 : decode cX1_run 31 = .ok (.aload_n 0, 1) := by decide +kernel
theorem dX1_run_32 : decode cX1_run 32 = .ok (.getfield 45, 3) := by decide +kernel
theorem dX1_run_35 : decode cX1_run 35 = .ok (.iload_n 2, 1) := by decide +kernel
theorem dX1_run_36 : decode cX1_run 36 = .ok (.aload_n 0, 1) := by decide +kernel
theorem dX1_run_37 : decode cX1_run 37 = .ok (.getfield 22, 3) := by decide +kernel
theorem dX1_run_40 : decode cX1_run 40 = .ok (.iload_n 2, 1) := by decide +kernel
theorem dX1_run_41 : decode cX1_run 41 = .ok (.iaload, 1) := by decide +kernel
theorem dX1_run_42 : decode cX1_run 42 = .ok (.iastore, 1) := by decide +kernel
theorem dX1_run_43 : decode cX1_run 43 = .ok (.aload_n 0, 1) := by decide +kernel
theorem dX1_run_44 : decode cX1_run 44 = .ok (.getfield 48, 3) := by decide +kernel
theorem dX1_run_47 : decode cX1_run 47 = .ok (.iload_n 2, 1) := by decide +kernel
theorem dX1_run_48 : decode cX1_run 48 = .ok (.iconst 0, 1) := by decide +kernel
theorem dX1_run_49 : decode cX1_run 49 = .ok (.iastore, 1) := by decide +kernel
theorem dX1_run_50 : decode cX1_run 50 = .ok (.aload_n 0, 1) := by decide +kernel
theorem dX1_run_51 : decode cX1_run 51 = .ok (.getfield 51, 3) := by decide +kernel
theorem dX1_run_54 : decode cX1_run 54 = .ok (.iload_n 2, 1) := by decide +kernel
theorem dX1_run_55 : decode cX1_run 55 = .ok (.iconst 0, 1) := by decide +kernel
theorem dX1_run_56 : decode cX1_run 56 = .ok (.iastore, 1) := by decide +kernel
theorem dX1_run_57 : decode cX1_run 57 = .ok (.iinc 2 1, 3) := by decide +kernel
theorem dX1_run_60 : decode cX1_run 60 = .ok (.goto (-58), 3) := by decide +kernel
theorem dX1_run_63 : decode cX1_run 63 = .ok (.aload_n 0, 1) := by decide +kernel
theorem dX1_run_64 : decode cX1_run 64 = .ok (.iconst 0, 1) := by decide +kernel
theorem dX1_run_65 : decode cX1_run 65 = .ok (.putfield 54, 3) := by decide +kernel
theorem dX1_run_68 : decode cX1_run 68 = .ok (.aload_n 0, 1) := by decide +kernel
theorem dX1_run_69 : decode cX1_run 69 = .ok (.iconst 0, 1) := by decide +kernel
theorem dX1_run_70 : decode cX1_run 70 = .ok (.putfield 60, 3) := by decide +kernel
theorem dX1_run_73 : decode cX1_run 73 = .ok (.iconst 0, 1) := by decide +kernel
theorem dX1_run_74 : decode cX1_run 74 = .ok (.istore_n 2, 1) := by decide +kernel
theorem dX1_run_75 : decode cX1_run 75 = .ok (.iload_n 2, 1) := by decide +kernel
theorem dX1_run_76 : decode cX1_run 76 = .ok (.iload_n 1, 1) := by decide +kernel
theorem dX1_run_77 : decode cX1_run 77 = .ok (.if_icmp .gt 20, 3) := by decide +kernel
theorem dX1_run_80 : decode cX1_run 80 = .ok (.iload_n 2, 1) := by decide +kernel
theorem dX1_run_81 : decode cX1_run 81 = .ok (.bipush 60, 2) := by decide +kernel
theorem dX1_run_83 : decode cX1_run 83 = .ok (.if_icmp .ge 14, 3) := by decide +kernel
theorem dX1_run_86 : decode cX1_run 86 = .ok (.aload_n 0, 1) := by decide +kernel
theorem dX1_run_87 : decode cX1_run 87 = .ok (.iload_n 2, 1) := by decide +kernel
theorem dX1_run_88 : decode cX1_run 88 = .ok (.invokevirtual 102, 3) := by decide +kernel
theorem dX1_run_91 : decode cX1_run 91 = .ok (.iinc 2 1, 3) := by decide +kernel
theorem dX1_run_94 : decode cX1_run 94 = .ok (.goto (-19), 3) := by decide +kernel
theorem dX1_run_97 : decode cX1_run 97 = .ok (.return_, 1) := by decide +kernel
theorem dX1_placesAround_0 : decode cX1_placesAround 0 = .ok (.iconst 1, 1) := by decide +kernel
theorem dX1_placesAround_1 : decode cX1_placesAround 1 = .ok (.iconst 2, 1) := by decide +kernel
theorem dX1_placesAround_2 : decode cX1_placesAround 2 = .ok (.iload_n 1, 1) := by decide +kernel
theorem dX1_placesAround_3 : decode cX1_placesAround 3 = .ok (.imul, 1) := by decide +kernel
theorem dX1_placesAround_4 : decode cX1_placesAround 4 = .ok (.iconst 1, 1) := by decide +kernel
theorem dX1_placesAround_5 : decode cX1_placesAround 5 = .ok (.iadd, 1) := by decide +kernel
theorem dX1_placesAround_6 : decode cX1_placesAround 6 = .ok (.ishl, 1) := by decide +kernel
theorem dX1_placesAround_7 : decode cX1_placesAround 7 = .ok (.iconst 1, 1) := by decide +kernel
theorem dX1_placesAround_8 : decode cX1_placesAround 8 = .ok (.isub, 1) := by decide +kernel
theorem dX1_placesAround_9 : decode cX1_placesAround 9 = .ok (.istore_n 2, 1) := by decide +kernel
theorem dX1_placesAround_10 : decode cX1_placesAround 10 = .ok (.iload_n 2, 1) := by decide +kernel
theorem dX1_placesAround_11 : decode cX1_placesAround 11 = .ok (.iload_n 0, 1) := by decide +kernel
theorem dX1_placesAround_12 : decode cX1_placesAround 12 = .ok (.ishl, 1) := by decide +kernel
theorem dX1_placesAround_13 : decode cX1_placesAround 13 = .ok (.iload_n 1, 1) := by decide +kernel
theorem dX1_placesAround_14 : decode cX1_placesAround 14 = .ok (.ishr, 1) := by decide +kernel
theorem dX1_placesAround_15 : decode cX1_placesAround 15 = .ok (.iconst 1, 1) := by decide +kernel
theorem dX1_placesAround_16 : decode cX1_placesAround 16 = .ok (.iload_n 0, 1) := by decide +kernel
theorem dX1_placesAround_17 : decode cX1_placesAround 17 = .ok (.ishl, 1) := by decide +kernel
theorem dX1_placesAround_18 : decode cX1_placesAround 18 = .ok (.iconst (-1), 1) := by decide +kernel
theorem dX1_placesAround_19 : decode cX1_placesAround 19 = .ok (.ixor, 1) := by decide +kernel
theorem dX1_placesAround_20 : decode cX1_placesAround 20 = .ok (.iand, 1) := by decide +kernel
theorem dX1_placesAround_21 : decode cX1_placesAround 21 = .ok (.ireturn, 1) := by decide +kernel
theorem dX1_go_0 : decode cX1_go 0 = .ok (.iconst 0, 1) := by decide +kernel
theorem dX1_go_1 : decode cX1_go 1 = .ok (.istore_n 2, 1) := by decide +kernel
theorem dX1_go_2 : decode cX1_go 2 = .ok (.iconst 0, 1) := by decide +kernel
theorem dX1_go_3 : decode cX1_go 3 = .ok (.istore_n 3, 1) := by decide +kernel
theorem dX1_go_4 : decode cX1_go 4 = .ok (.aload_n 0, 1) := by decide +kernel
theorem dX1_go_5 : decode cX1_go 5 = .ok (.getfield 54, 3) := by decide +kernel
theorem dX1_go_8 : decode cX1_go 8 = .ok (.aload_n 0, 1) := by decide +kernel
theorem dX1_go_9 : decode cX1_go 9 = .ok (.getfield 28, 3) := by decide +kernel
theorem dX1_go_12 : decode cX1_go 12 = .ok (.ior, 1) := by decide +kernel
theorem dX1_go_13 : decode cX1_go 13 = .ok (.iconst (-1), 1) := by decide +kernel
theorem dX1_go_14 : decode cX1_go 14 = .ok (.ixor, 1) := by decide +kernel
theorem dX1_go_15 : decode cX1_go 15 = .ok (.istore 4, 2) := by decide +kernel
theorem dX1_go_17 : decode cX1_go 17 = .ok (.aload_n 0, 1) := by decide +kernel
theorem dX1_go_18 : decode cX1_go 18 = .ok (.aload_n 0, 1) := by decide +kernel
theorem dX1_go_19 : decode cX1_go 19 = .ok (.getfield 54, 3) := by decide +kernel
theorem dX1_go_22 : decode cX1_go 22 = .ok (.invokestatic 106, 3) := by decide +kernel
theorem dX1_go_25 : decode cX1_go 25 = .ok (.putfield 57, 3) := by decide +kernel
theorem dX1_go_28 : decode cX1_go 28 = .ok (.iconst 0, 1) := by decide +kernel
theorem dX1_go_29 : decode cX1_go 29 = .ok (.istore 5, 2) := by decide +kernel
theorem dX1_go_31 : decode cX1_go 31 = .ok (.iload 5, 2) := by decide +kernel
theorem dX1_go_33 : decode cX1_go 33 = .ok (.aload_n 0, 1) := by decide +kernel
theorem dX1_go_34 : decode cX1_go 34 = .ok (.getfield 9, 3) := by decide +kernel
theorem dX1_go_37 : decode cX1_go 37 = .ok (.if_icmp .ge 85, 3) := by decide +kernel
theorem dX1_go_40 : decode cX1_go 40 = .ok (.iload 4, 2) := by decide +kernel
theorem dX1_go_42 : decode cX1_go 42 = .ok (.iload 5, 2) := by decide +kernel
theorem dX1_go_44 : decode cX1_go 44 = .ok (.ishr, 1) := by decide +kernel
theorem dX1_go_45 : decode cX1_go 45 = .ok (.iconst 1, 1) := by decide +kernel
theorem dX1_go_46 : decode cX1_go 46 = .ok (.iand, 1) := by decide +kernel
theorem dX1_go_47 : decode cX1_go 47 = .ok (.ifCond .eq 69, 3) := by decide +kernel
theorem dX1_go_50 : decode cX1_go 50 = .ok (.aload_n 0, 1) := by decide +kernel
theorem dX1_go_51 : decode cX1_go 51 = .ok (.getfield 45, 3) := by decide +kernel
theorem dX1_go_54 : decode cX1_go 54 = .ok (.iload 5, 2) := by decide +kernel
theorem dX1_go_56 : decode cX1_go 56 = .ok (.iaload, 1) := by decide +kernel
theorem dX1_go_57 : decode cX1_go 57 = .ok (.ifCond .le 59, 3) := by decide +kernel
theorem dX1_go_60 : decode cX1_go 60 = .ok (.aload_n 0, 1) := by decide +kernel
theorem dX1_go_61 : decode cX1_go 61 = .ok (.iload 5, 2) := by decide +kernel
theorem dX1_go_63 : decode cX1_go 63 = .ok (.iload_n 1, 1) := by decide +kernel
theorem dX1_go_64 : decode cX1_go 64 = .ok (.invokevirtual 112, 3) := by decide +kernel
theorem dX1_go_67 : decode cX1_go 67 = .ok (.ifCond .eq 49, 3) := by decide +kernel
theorem dX1_go_70 : decode cX1_go 70 = .ok (.aload_n 0, 1) := by decide +kernel
theorem dX1_go_71 : decode cX1_go 71 = .ok (.getfield 45, 3) := by decide +kernel
theorem dX1_go_74 : decode cX1_go 74 = .ok (.iload 5, 2) := by decide +kernel
theorem dX1_go_76 : decode cX1_go 76 = .ok (.dup2, 1) := by decide +kernel
theorem dX1_go_77 : decode cX1_go 77 = .ok (.iaload, 1) := by decide +kernel
theorem dX1_go_78 : decode cX1_go 78 = .ok (.iconst 1, 1) := by decide +kernel
theorem dX1_go_79 : decode cX1_go 79 = .ok (.isub, 1) := by decide +kernel
theorem dX1_go_80 : decode cX1_go 80 = .ok (.iastore, 1) := by decide +kernel
theorem dX1_go_81 : decode cX1_go 81 = .ok (.aload_n 0, 1) := by decide +kernel
theorem dX1_go_82 : decode cX1_go 82 = .ok (.getfield 48, 3) := by decide +kernel
theorem dX1_go_85 : decode cX1_go 85 = .ok (.iload 5, 2) := by decide +kernel
theorem dX1_go_87 : decode cX1_go 87 = .ok (.iconst 0, 1) := by decide +kernel
theorem dX1_go_88 : decode cX1_go 88 = .ok (.iastore, 1) := by decide +kernel
theorem dX1_go_89 : decode cX1_go 89 = .ok (.aload_n 0, 1) := by decide +kernel
theorem dX1_go_90 : decode cX1_go 90 = .ok (.getfield 51, 3) := by decide +kernel
theorem dX1_go_93 : decode cX1_go 93 = .ok (.iload 5, 2) := by decide +kernel
theorem dX1_go_95 : decode cX1_go 95 = .ok (.iconst 0, 1) := by decide +kernel
theorem dX1_go_96 : decode cX1_go 96 = .ok (.iastore, 1) := by decide +kernel
theorem dX1_go_97 : decode cX1_go 97 = .ok (.iload_n 2, 1) := by decide +kernel
theorem dX1_go_98 : decode cX1_go 98 = .ok (.iconst 1, 1) := by decide +kernel
theorem dX1_go_99 : decode cX1_go 99 = .ok (.iload 5, 2) := by decide +kernel
theorem dX1_go_101 : decode cX1_go 101 = .ok (.ishl, 1) := by decide +kernel
theorem dX1_go_102 : decode cX1_go 102 = .ok (.ior, 1) := by decide +kernel
theorem dX1_go_103 : decode cX1_go 103 = .ok (.istore_n 2, 1) := by decide +kernel
theorem dX1_go_104 : decode cX1_go 104 = .ok (.iload_n 3, 1) := by decide +kernel
theorem dX1_go_105 : decode cX1_go 105 = .ok (.iconst 1, 1) := by decide +kernel
theorem dX1_go_106 : decode cX1_go 106 = .ok (.aload_n 0, 1) := by decide +kernel
theorem dX1_go_107 : decode cX1_go 107 = .ok (.getfield 25, 3) := by decide +kernel
theorem dX1_go_110 : decode cX1_go 110 = .ok (.iload 5, 2) := by decide +kernel
theorem dX1_go_112 : decode cX1_go 112 = .ok (.iaload, 1) := by decide +kernel
theorem dX1_go_113 : decode cX1_go 113 = .ok (.ishl, 1) := by decide +kernel
theorem dX1_go_114 : decode cX1_go 114 = .ok (.ior, 1) := by decide +kernel
theorem dX1_go_115 : decode cX1_go 115 = .ok (.istore_n 3, 1) := by decide +kernel
theorem dX1_go_116 : decode cX1_go 116 = .ok (.iinc 5 1, 3) := by decide +kernel
theorem dX1_go_119 : decode cX1_go 119 = .ok (.goto (-88), 3) := by decide +kernel
theorem dX1_go_122 : decode cX1_go 122 = .ok (.aload_n 0, 1) := by decide +kernel
theorem dX1_go_123 : decode cX1_go 123 = .ok (.aload_n 0, 1) := by decide +kernel
theorem dX1_go_124 : decode cX1_go 124 = .ok (.getfield 54, 3) := by decide +kernel
theorem dX1_go_127 : decode cX1_go 127 = .ok (.iload_n 2, 1) := by decide +kernel
theorem dX1_go_128 : decode cX1_go 128 = .ok (.ior, 1) := by decide +kernel
theorem dX1_go_129 : decode cX1_go 129 = .ok (.aload_n 0, 1) := by decide +kernel
theorem dX1_go_130 : decode cX1_go 130 = .ok (.getfield 33, 3) := by decide +kernel
theorem dX1_go_133 : decode cX1_go 133 = .ok (.iconst 2, 1) := by decide +kernel
theorem dX1_go_134 : decode cX1_go 134 = .ok (.aaload, 1) := by decide +kernel
theorem dX1_go_135 : decode cX1_go 135 = .ok (.iload_n 1, 1) := by decide +kernel
theorem dX1_go_136 : decode cX1_go 136 = .ok (.iaload, 1) := by decide +kernel
theorem dX1_go_137 : decode cX1_go 137 = .ok (.iconst (-1), 1) := by decide +kernel
theorem dX1_go_138 : decode cX1_go 138 = .ok (.ixor, 1) := by decide +kernel
theorem dX1_go_139 : decode cX1_go 139 = .ok (.iand, 1) := by decide +kernel
theorem dX1_go_140 : decode cX1_go 140 = .ok (.putfield 54, 3) := by decide +kernel
theorem dX1_go_143 : decode cX1_go 143 = .ok (.aload_n 0, 1) := by decide +kernel
theorem dX1_go_144 : decode cX1_go 144 = .ok (.iload_n 3, 1) := by decide +kernel
theorem dX1_go_145 : decode cX1_go 145 = .ok (.putfield 60, 3) := by decide +kernel
theorem dX1_go_148 : decode cX1_go 148 = .ok (.aload_n 0, 1) := by decide +kernel
theorem dX1_go_149 : decode cX1_go 149 = .ok (.getfield 36, 3) := by decide +kernel
theorem dX1_go_152 : decode cX1_go 152 = .ok (.iload_n 1, 1) := by decide +kernel
theorem dX1_go_153 : decode cX1_go 153 = .ok (.iload_n 2, 1) := by decide +kernel
theorem dX1_go_154 : decode cX1_go 154 = .ok (.iastore, 1) := by decide +kernel
theorem dX1_go_155 : decode cX1_go 155 = .ok (.aload_n 0, 1) := by decide +kernel
theorem dX1_go_156 : decode cX1_go 156 = .ok (.getfield 39, 3) := by decide +kernel
theorem dX1_go_159 : decode cX1_go 159 = .ok (.iload_n 1, 1) := by decide +kernel
theorem dX1_go_160 : decode cX1_go 160 = .ok (.aload_n 0, 1) := by decide +kernel
theorem dX1_go_161 : decode cX1_go 161 = .ok (.getfield 54, 3) := by decide +kernel
theorem dX1_go_164 : decode cX1_go 164 = .ok (.iastore, 1) := by decide +kernel
theorem dX1_go_165 : decode cX1_go 165 = .ok (.return_, 1) := by decide +kernel
theorem dX1_opensByLaw_0 : decode cX1_opensByLaw 0 = .ok (.aload_n 0, 1) := by decide +kernel
theorem dX1_opensByLaw_1 : decode cX1_opensByLaw 1 = .ok (.getfield 15, 3) := by decide +kernel
theorem dX1_opensByLaw_4 : decode cX1_opensByLaw 4 = .ok (.iload_n 1, 1) := by decide +kernel
theorem dX1_opensByLaw_5 : decode cX1_opensByLaw 5 = .ok (.iaload, 1) := by decide +kernel
theorem dX1_opensByLaw_6 : decode cX1_opensByLaw 6 = .ok (.tableswitch 171 0 3 #[30, 78, 98, 152], 30) := by decide +kernel
theorem dX1_opensByLaw_36 : decode cX1_opensByLaw 36 = .ok (.aload_n 0, 1) := by decide +kernel
theorem dX1_opensByLaw_37 : decode cX1_opensByLaw 37 = .ok (.getfield 33, 3) := by decide +kernel
theorem dX1_opensByLaw_40 : decode cX1_opensByLaw 40 = .ok (.iconst 0, 1) := by decide +kernel
theorem dX1_opensByLaw_41 : decode cX1_opensByLaw 41 = .ok (.aaload, 1) := by decide +kernel
theorem dX1_opensByLaw_42 : decode cX1_opensByLaw 42 = .ok (.iload_n 2, 1) := by decide +kernel
theorem dX1_opensByLaw_43 : decode cX1_opensByLaw 43 = .ok (.iaload, 1) := by decide +kernel
theorem dX1_opensByLaw_44 : decode cX1_opensByLaw 44 = .ok (.iload_n 1, 1) := by decide +kernel
theorem dX1_opensByLaw_45 : decode cX1_opensByLaw 45 = .ok (.ishr, 1) := by decide +kernel
theorem dX1_opensByLaw_46 : decode cX1_opensByLaw 46 = .ok (.iconst 1, 1) := by decide +kernel
theorem dX1_opensByLaw_47 : decode cX1_opensByLaw 47 = .ok (.iand, 1) := by decide +kernel
theorem dX1_opensByLaw_48 : decode cX1_opensByLaw 48 = .ok (.ifCond .ne 5, 3) := by decide +kernel
theorem dX1_opensByLaw_51 : decode cX1_opensByLaw 51 = .ok (.iconst 0, 1) := by decide +kernel
theorem dX1_opensByLaw_52 : decode cX1_opensByLaw 52 = .ok (.ireturn, 1) := by decide +kernel
theorem dX1_opensByLaw_53 : decode cX1_opensByLaw 53 = .ok (.aload_n 0, 1) := by decide +kernel
theorem dX1_opensByLaw_54 : decode cX1_opensByLaw 54 = .ok (.getfield 48, 3) := by decide +kernel
theorem dX1_opensByLaw_57 : decode cX1_opensByLaw 57 = .ok (.iload_n 1, 1) := by decide +kernel
theorem dX1_opensByLaw_58 : decode cX1_opensByLaw 58 = .ok (.dup2, 1) := by decide +kernel
theorem dX1_opensByLaw_59 : decode cX1_opensByLaw 59 = .ok (.iaload, 1) := by decide +kernel
theorem dX1_opensByLaw_60 : decode cX1_opensByLaw 60 = .ok (.iconst 1, 1) := by decide +kernel
theorem dX1_opensByLaw_61 : decode cX1_opensByLaw 61 = .ok (.iadd, 1) := by decide +kernel
theorem dX1_opensByLaw_62 : decode cX1_opensByLaw 62 = .ok (.iastore, 1) := by decide +kernel
theorem dX1_opensByLaw_63 : decode cX1_opensByLaw 63 = .ok (.aload_n 0, 1) := by decide +kernel
theorem dX1_opensByLaw_64 : decode cX1_opensByLaw 64 = .ok (.getfield 48, 3) := by decide +kernel
theorem dX1_opensByLaw_67 : decode cX1_opensByLaw 67 = .ok (.iload_n 1, 1) := by decide +kernel
theorem dX1_opensByLaw_68 : decode cX1_opensByLaw 68 = .ok (.iaload, 1) := by decide +kernel
theorem dX1_opensByLaw_69 : decode cX1_opensByLaw 69 = .ok (.aload_n 0, 1) := by decide +kernel
theorem dX1_opensByLaw_70 : decode cX1_opensByLaw 70 = .ok (.getfield 19, 3) := by decide +kernel
theorem dX1_opensByLaw_73 : decode cX1_opensByLaw 73 = .ok (.iload_n 1, 1) := by decide +kernel
theorem dX1_opensByLaw_74 : decode cX1_opensByLaw 74 = .ok (.iaload, 1) := by decide +kernel
theorem dX1_opensByLaw_75 : decode cX1_opensByLaw 75 = .ok (.if_icmp .ne 7, 3) := by decide +kernel
theorem dX1_opensByLaw_78 : decode cX1_opensByLaw 78 = .ok (.iconst 1, 1) := by decide +kernel
theorem dX1_opensByLaw_79 : decode cX1_opensByLaw 79 = .ok (.goto 4, 3) := by decide +kernel
theorem dX1_opensByLaw_82 : decode cX1_opensByLaw 82 = .ok (.iconst 0, 1) := by decide +kernel
theorem dX1_opensByLaw_83 : decode cX1_opensByLaw 83 = .ok (.ireturn, 1) := by decide +kernel
theorem dX1_opensByLaw_84 : decode cX1_opensByLaw 84 = .ok (.aload_n 0, 1) := by decide +kernel
theorem dX1_opensByLaw_85 : decode cX1_opensByLaw 85 = .ok (.getfield 60, 3) := by decide +kernel
theorem dX1_opensByLaw_88 : decode cX1_opensByLaw 88 = .ok (.aload_n 0, 1) := by decide +kernel
theorem dX1_opensByLaw_89 : decode cX1_opensByLaw 89 = .ok (.getfield 42, 3) := by decide +kernel
theorem dX1_opensByLaw_92 : decode cX1_opensByLaw 92 = .ok (.iload_n 1, 1) := by decide +kernel
theorem dX1_opensByLaw_93 : decode cX1_opensByLaw 93 = .ok (.iaload, 1) := by decide +kernel
theorem dX1_opensByLaw_94 : decode cX1_opensByLaw 94 = .ok (.iand, 1) := by decide +kernel
theorem dX1_opensByLaw_95 : decode cX1_opensByLaw 95 = .ok (.ifCond .eq 7, 3) := by decide +kernel
theorem dX1_opensByLaw_98 : decode cX1_opensByLaw 98 = .ok (.iconst 1, 1) := by decide +kernel
theorem dX1_opensByLaw_99 : decode cX1_opensByLaw 99 = .ok (.goto 4, 3) := by decide +kernel
theorem dX1_opensByLaw_102 : decode cX1_opensByLaw 102 = .ok (.iconst 0, 1) := by decide +kernel
theorem dX1_opensByLaw_103 : decode cX1_opensByLaw 103 = .ok (.ireturn, 1) := by decide +kernel
theorem dX1_opensByLaw_104 : decode cX1_opensByLaw 104 = .ok (.aload_n 0, 1) := by decide +kernel
theorem dX1_opensByLaw_105 : decode cX1_opensByLaw 105 = .ok (.getfield 51, 3) := by decide +kernel
theorem dX1_opensByLaw_108 : decode cX1_opensByLaw 108 = .ok (.iload_n 1, 1) := by decide +kernel
theorem dX1_opensByLaw_109 : decode cX1_opensByLaw 109 = .ok (.aload_n 0, 1) := by decide +kernel
theorem dX1_opensByLaw_110 : decode cX1_opensByLaw 110 = .ok (.getfield 33, 3) := by decide +kernel
theorem dX1_opensByLaw_113 : decode cX1_opensByLaw 113 = .ok (.iconst 1, 1) := by decide +kernel
theorem dX1_opensByLaw_114 : decode cX1_opensByLaw 114 = .ok (.aaload, 1) := by decide +kernel
theorem dX1_opensByLaw_115 : decode cX1_opensByLaw 115 = .ok (.iload_n 2, 1) := by decide +kernel
theorem dX1_opensByLaw_116 : decode cX1_opensByLaw 116 = .ok (.iaload, 1) := by decide +kernel
theorem dX1_opensByLaw_117 : decode cX1_opensByLaw 117 = .ok (.iload_n 1, 1) := by decide +kernel
theorem dX1_opensByLaw_118 : decode cX1_opensByLaw 118 = .ok (.ishr, 1) := by decide +kernel
theorem dX1_opensByLaw_119 : decode cX1_opensByLaw 119 = .ok (.iconst 1, 1) := by decide +kernel
theorem dX1_opensByLaw_120 : decode cX1_opensByLaw 120 = .ok (.iand, 1) := by decide +kernel
theorem dX1_opensByLaw_121 : decode cX1_opensByLaw 121 = .ok (.ifCond .eq 7, 3) := by decide +kernel
theorem dX1_opensByLaw_124 : decode cX1_opensByLaw 124 = .ok (.iconst 0, 1) := by decide +kernel
theorem dX1_opensByLaw_125 : decode cX1_opensByLaw 125 = .ok (.goto 11, 3) := by decide +kernel
theorem dX1_opensByLaw_128 : decode cX1_opensByLaw 128 = .ok (.aload_n 0, 1) := by decide +kernel
theorem dX1_opensByLaw_129 : decode cX1_opensByLaw 129 = .ok (.getfield 51, 3) := by decide +kernel
theorem dX1_opensByLaw_132 : decode cX1_opensByLaw 132 = .ok (.iload_n 1, 1) := by decide +kernel
theorem dX1_opensByLaw_133 : decode cX1_opensByLaw 133 = .ok (.iaload, 1) := by decide +kernel
theorem dX1_opensByLaw_134 : decode cX1_opensByLaw 134 = .ok (.iconst 1, 1) := by decide +kernel
theorem dX1_opensByLaw_135 : decode cX1_opensByLaw 135 = .ok (.iadd, 1) := by decide +kernel
theorem dX1_opensByLaw_136 : decode cX1_opensByLaw 136 = .ok (.iastore, 1) := by decide +kernel
theorem dX1_opensByLaw_137 : decode cX1_opensByLaw 137 = .ok (.aload_n 0, 1) := by decide +kernel
theorem dX1_opensByLaw_138 : decode cX1_opensByLaw 138 = .ok (.getfield 51, 3) := by decide +kernel
theorem dX1_opensByLaw_141 : decode cX1_opensByLaw 141 = .ok (.iload_n 1, 1) := by decide +kernel
theorem dX1_opensByLaw_142 : decode cX1_opensByLaw 142 = .ok (.iaload, 1) := by decide +kernel
theorem dX1_opensByLaw_143 : decode cX1_opensByLaw 143 = .ok (.aload_n 0, 1) := by decide +kernel
theorem dX1_opensByLaw_144 : decode cX1_opensByLaw 144 = .ok (.getfield 19, 3) := by decide +kernel
theorem dX1_opensByLaw_147 : decode cX1_opensByLaw 147 = .ok (.iload_n 1, 1) := by decide +kernel
theorem dX1_opensByLaw_148 : decode cX1_opensByLaw 148 = .ok (.iaload, 1) := by decide +kernel
theorem dX1_opensByLaw_149 : decode cX1_opensByLaw 149 = .ok (.if_icmp .lt 7, 3) := by decide +kernel
theorem dX1_opensByLaw_152 : decode cX1_opensByLaw 152 = .ok (.iconst 1, 1) := by decide +kernel
theorem dX1_opensByLaw_153 : decode cX1_opensByLaw 153 = .ok (.goto 4, 3) := by decide +kernel
theorem dX1_opensByLaw_156 : decode cX1_opensByLaw 156 = .ok (.iconst 0, 1) := by decide +kernel
theorem dX1_opensByLaw_157 : decode cX1_opensByLaw 157 = .ok (.ireturn, 1) := by decide +kernel
theorem dX1_opensByLaw_158 : decode cX1_opensByLaw 158 = .ok (.aload_n 0, 1) := by decide +kernel
theorem dX1_opensByLaw_159 : decode cX1_opensByLaw 159 = .ok (.getfield 57, 3) := by decide +kernel
theorem dX1_opensByLaw_162 : decode cX1_opensByLaw 162 = .ok (.aload_n 0, 1) := by decide +kernel
theorem dX1_opensByLaw_163 : decode cX1_opensByLaw 163 = .ok (.getfield 19, 3) := by decide +kernel
theorem dX1_opensByLaw_166 : decode cX1_opensByLaw 166 = .ok (.iload_n 1, 1) := by decide +kernel
theorem dX1_opensByLaw_167 : decode cX1_opensByLaw 167 = .ok (.iaload, 1) := by decide +kernel
theorem dX1_opensByLaw_168 : decode cX1_opensByLaw 168 = .ok (.if_icmp .lt 7, 3) := by decide +kernel
theorem dX1_opensByLaw_171 : decode cX1_opensByLaw 171 = .ok (.iconst 1, 1) := by decide +kernel
theorem dX1_opensByLaw_172 : decode cX1_opensByLaw 172 = .ok (.goto 4, 3) := by decide +kernel
theorem dX1_opensByLaw_175 : decode cX1_opensByLaw 175 = .ok (.iconst 0, 1) := by decide +kernel
theorem dX1_opensByLaw_176 : decode cX1_opensByLaw 176 = .ok (.ireturn, 1) := by decide +kernel
theorem dX1_opensByLaw_177 : decode cX1_opensByLaw 177 = .ok (.iconst 0, 1) := by decide +kernel
theorem dX1_opensByLaw_178 : decode cX1_opensByLaw 178 = .ok (.ireturn, 1) := by decide +kernel
theorem dX1_isUp_0 : decode cX1_isUp 0 = .ok (.aload_n 0, 1) := by decide +kernel
theorem dX1_isUp_1 : decode cX1_isUp 1 = .ok (.getfield 39, 3) := by decide +kernel
theorem dX1_isUp_4 : decode cX1_isUp 4 = .ok (.iload_n 2, 1) := by decide +kernel
theorem dX1_isUp_5 : decode cX1_isUp 5 = .ok (.iaload, 1) := by decide +kernel
theorem dX1_isUp_6 : decode cX1_isUp 6 = .ok (.iload_n 1, 1) := by decide +kernel
theorem dX1_isUp_7 : decode cX1_isUp 7 = .ok (.ishr, 1) := by decide +kernel
theorem dX1_isUp_8 : decode cX1_isUp 8 = .ok (.iconst 1, 1) := by decide +kernel
theorem dX1_isUp_9 : decode cX1_isUp 9 = .ok (.iand, 1) := by decide +kernel
theorem dX1_isUp_10 : decode cX1_isUp 10 = .ok (.ifCond .eq 7, 3) := by decide +kernel
theorem dX1_isUp_13 : decode cX1_isUp 13 = .ok (.iconst 1, 1) := by decide +kernel
theorem dX1_isUp_14 : decode cX1_isUp 14 = .ok (.goto 4, 3) := by decide +kernel
theorem dX1_isUp_17 : decode cX1_isUp 17 = .ok (.iconst 0, 1) := by decide +kernel
theorem dX1_isUp_18 : decode cX1_isUp 18 = .ok (.ireturn, 1) := by decide +kernel
theorem dX1_openings_0 : decode cX1_openings 0 = .ok (.iconst 0, 1) := by decide +kernel
theorem dX1_openings_1 : decode cX1_openings 1 = .ok (.istore_n 2, 1) := by decide +kernel
theorem dX1_openings_2 : decode cX1_openings 2 = .ok (.iconst 0, 1) := by decide +kernel
theorem dX1_openings_3 : decode cX1_openings 3 = .ok (.istore_n 3, 1) := by decide +kernel
theorem dX1_openings_4 : decode cX1_openings 4 = .ok (.iload_n 3, 1) := by decide +kernel
theorem dX1_openings_5 : decode cX1_openings 5 = .ok (.iload_n 1, 1) := by decide +kernel
theorem dX1_openings_6 : decode cX1_openings 6 = .ok (.if_icmp .gt 27, 3) := by decide +kernel
theorem dX1_openings_9 : decode cX1_openings 9 = .ok (.iload_n 3, 1) := by decide +kernel
theorem dX1_openings_10 : decode cX1_openings 10 = .ok (.bipush 60, 2) := by decide +kernel
theorem dX1_openings_12 : decode cX1_openings 12 = .ok (.if_icmp .ge 21, 3) := by decide +kernel
theorem dX1_openings_15 : decode cX1_openings 15 = .ok (.iload_n 2, 1) := by decide +kernel
theorem dX1_openings_16 : decode cX1_openings 16 = .ok (.aload_n 0, 1) := by decide +kernel
theorem dX1_openings_17 : decode cX1_openings 17 = .ok (.getfield 36, 3) := by decide +kernel
theorem dX1_openings_20 : decode cX1_openings 20 = .ok (.iload_n 3, 1) := by decide +kernel
theorem dX1_openings_21 : decode cX1_openings 21 = .ok (.iaload, 1) := by decide +kernel
theorem dX1_openings_22 : decode cX1_openings 22 = .ok (.invokestatic 106, 3) := by decide +kernel
theorem dX1_openings_25 : decode cX1_openings 25 = .ok (.iadd, 1) := by decide +kernel
theorem dX1_openings_26 : decode cX1_openings 26 = .ok (.istore_n 2, 1) := by decide +kernel
theorem dX1_openings_27 : decode cX1_openings 27 = .ok (.iinc 3 1, 3) := by decide +kernel
theorem dX1_openings_30 : decode cX1_openings 30 = .ok (.goto (-26), 3) := by decide +kernel
theorem dX1_openings_33 : decode cX1_openings 33 = .ok (.iload_n 2, 1) := by decide +kernel
theorem dX1_openings_34 : decode cX1_openings 34 = .ok (.ireturn, 1) := by decide +kernel
theorem dX2_init_0 : decode cX2_init 0 = .ok (.aload_n 0, 1) := by decide +kernel
theorem dX2_init_1 : decode cX2_init 1 = .ok (.invokespecial 3, 3) := by decide +kernel
theorem dX2_init_4 : decode cX2_init 4 = .ok (.aload_n 0, 1) := by decide +kernel
theorem dX2_init_5 : decode cX2_init 5 = .ok (.iconst 1, 1) := by decide +kernel
theorem dX2_init_6 : decode cX2_init 6 = .ok (.putfield 9, 3) := by decide +kernel
theorem dX2_init_9 : decode cX2_init 9 = .ok (.aload_n 0, 1) := by decide +kernel
theorem dX2_init_10 : decode cX2_init 10 = .ok (.iconst 0, 1) := by decide +kernel
theorem dX2_init_11 : decode cX2_init 11 = .ok (.putfield 15, 3) := by decide +kernel
theorem dX2_init_14 : decode cX2_init 14 = .ok (.aload_n 0, 1) := by decide +kernel
theorem dX2_init_15 : decode cX2_init 15 = .ok (.iconst 0, 1) := by decide +kernel
theorem dX2_init_16 : decode cX2_init 16 = .ok (.putfield 19, 3) := by decide +kernel
theorem dX2_init_19 : decode cX2_init 19 = .ok (.aload_n 0, 1) := by decide +kernel
theorem dX2_init_20 : decode cX2_init 20 = .ok (.bipush 60, 2) := by decide +kernel
theorem dX2_init_22 : decode cX2_init 22 = .ok (.newarray .int, 2) := by decide +kernel
theorem dX2_init_24 : decode cX2_init 24 = .ok (.putfield 22, 3) := by decide +kernel
theorem dX2_init_27 : decode cX2_init 27 = .ok (.return_, 1) := by decide +kernel
theorem dX2_renew_0 : decode cX2_renew 0 = .ok (.aload_n 0, 1) := by decide +kernel
theorem dX2_renew_1 : decode cX2_renew 1 = .ok (.iconst 0, 1) := by decide +kernel
theorem dX2_renew_2 : decode cX2_renew 2 = .ok (.putfield 9, 3) := by decide +kernel
theorem dX2_renew_5 : decode cX2_renew 5 = .ok (.aload_n 0, 1) := by decide +kernel
theorem dX2_renew_6 : decode cX2_renew 6 = .ok (.iload_n 1, 1) := by decide +kernel
theorem dX2_renew_7 : decode cX2_renew 7 = .ok (.putfield 15, 3) := by decide +kernel
theorem dX2_renew_10 : decode cX2_renew 10 = .ok (.aload_n 0, 1) := by decide +kernel
theorem dX2_renew_11 : decode cX2_renew 11 = .ok (.iload_n 2, 1) := by decide +kernel
theorem dX2_renew_12 : decode cX2_renew 12 = .ok (.putfield 19, 3) := by decide +kernel
theorem dX2_renew_15 : decode cX2_renew 15 = .ok (.aload_n 0, 1) := by decide +kernel
theorem dX2_renew_16 : decode cX2_renew 16 = .ok (.getfield 22, 3) := by decide +kernel
theorem dX2_renew_19 : decode cX2_renew 19 = .ok (.iconst 0, 1) := by decide +kernel
theorem dX2_renew_20 : decode cX2_renew 20 = .ok (.invokestatic 26, 3) := by decide +kernel
theorem dX2_renew_23 : decode cX2_renew 23 = .ok (.return_, 1) := by decide +kernel
theorem dX2_put_0 : decode cX2_put 0 = .ok (.aload_n 0, 1) := by decide +kernel
theorem dX2_put_1 : decode cX2_put 1 = .ok (.getfield 15, 3) := by decide +kernel
theorem dX2_put_4 : decode cX2_put 4 = .ok (.ifCond .ne 14, 3) := by decide +kernel
theorem dX2_put_7 : decode cX2_put 7 = .ok (.aload_n 0, 1) := by decide +kernel
theorem dX2_put_8 : decode cX2_put 8 = .ok (.getfield 22, 3) := by decide +kernel
theorem dX2_put_11 : decode cX2_put 11 = .ok (.iload_n 1, 1) := by decide +kernel
theorem dX2_put_12 : decode cX2_put 12 = .ok (.iload_n 2, 1) := by decide +kernel
theorem dX2_put_13 : decode cX2_put 13 = .ok (.i2b, 1) := by decide +kernel
theorem dX2_put_14 : decode cX2_put 14 = .ok (.iastore, 1) := by decide +kernel
theorem dX2_put_15 : decode cX2_put 15 = .ok (.goto 29, 3) := by decide +kernel
theorem dX2_put_18 : decode cX2_put 18 = .ok (.aload_n 0, 1) := by decide +kernel
theorem dX2_put_19 : decode cX2_put 19 = .ok (.getfield 15, 3) := by decide +kernel
theorem dX2_put_22 : decode cX2_put 22 = .ok (.iconst 1, 1) := by decide +kernel
theorem dX2_put_23 : decode cX2_put 23 = .ok (.if_icmp .ne 14, 3) := by decide +kernel
theorem dX2_put_26 : decode cX2_put 26 = .ok (.aload_n 0, 1) := by decide +kernel
theorem dX2_put_27 : decode cX2_put 27 = .ok (.getfield 22, 3) := by decide +kernel
theorem dX2_put_30 : decode cX2_put 30 = .ok (.iload_n 1, 1) := by decide +kernel
theorem dX2_put_31 : decode cX2_put 31 = .ok (.iload_n 2, 1) := by decide +kernel
theorem dX2_put_32 : decode cX2_put 32 = .ok (.i2s, 1) := by decide +kernel
theorem dX2_put_33 : decode cX2_put 33 = .ok (.iastore, 1) := by decide +kernel
theorem dX2_put_34 : decode cX2_put 34 = .ok (.goto 10, 3) := by decide +kernel
theorem dX2_put_37 : decode cX2_put 37 = .ok (.aload_n 0, 1) := by decide +kernel
theorem dX2_put_38 : decode cX2_put 38 = .ok (.getfield 22, 3) := by decide +kernel
theorem dX2_put_41 : decode cX2_put 41 = .ok (.iload_n 1, 1) := by decide +kernel
theorem dX2_put_42 : decode cX2_put 42 = .ok (.iload_n 2, 1) := by decide +kernel
theorem dX2_put_43 : decode cX2_put 43 = .ok (.iastore, 1) := by decide +kernel
theorem dX2_put_44 : decode cX2_put 44 = .ok (.return_, 1) := by decide +kernel
theorem dX2_has_0 : decode cX2_has 0 = .ok (.iload_n 1, 1) := by decide +kernel
theorem dX2_has_1 : decode cX2_has 1 = .ok (.ifCond .lt 21, 3) := by decide +kernel
theorem dX2_has_4 : decode cX2_has 4 = .ok (.iload_n 2, 1) := by decide +kernel
theorem dX2_has_5 : decode cX2_has 5 = .ok (.ifCond .lt 17, 3) := by decide +kernel
theorem dX2_has_8 : decode cX2_has 8 = .ok (.iload_n 1, 1) := by decide +kernel
theorem dX2_has_9 : decode cX2_has 9 = .ok (.aload_n 0, 1) := by decide +kernel
theorem dX2_has_10 : decode cX2_has 10 = .ok (.getfield 19, 3) := by decide +kernel
theorem dX2_has_13 : decode cX2_has 13 = .ok (.iload_n 2, 1) := by decide +kernel
theorem dX2_has_14 : decode cX2_has 14 = .ok (.isub, 1) := by decide +kernel
theorem dX2_has_15 : decode cX2_has 15 = .ok (.if_icmp .gt 7, 3) := by decide +kernel
theorem dX2_has_18 : decode cX2_has 18 = .ok (.iconst 1, 1) := by decide +kernel
theorem dX2_has_19 : decode cX2_has 19 = .ok (.goto 4, 3) := by decide +kernel
theorem dX2_has_22 : decode cX2_has 22 = .ok (.iconst 0, 1) := by decide +kernel
theorem dX2_has_23 : decode cX2_has 23 = .ok (.ireturn, 1) := by decide +kernel
theorem dX2_findingAt_0 : decode cX2_findingAt 0 = .ok (.aload_n 0, 1) := by decide +kernel
theorem dX2_findingAt_1 : decode cX2_findingAt 1 = .ok (.getfield 9, 3) := by decide +kernel
theorem dX2_findingAt_4 : decode cX2_findingAt 4 = .ok (.ifCond .eq 5, 3) := by decide +kernel
theorem dX2_findingAt_7 : decode cX2_findingAt 7 = .ok (.iconst 1, 1) := by decide +kernel
theorem dX2_findingAt_8 : decode cX2_findingAt 8 = .ok (.ireturn, 1) := by decide +kernel
theorem dX2_findingAt_9 : decode cX2_findingAt 9 = .ok (.aload_n 0, 1) := by decide +kernel
theorem dX2_findingAt_10 : decode cX2_findingAt 10 = .ok (.getfield 15, 3) := by decide +kernel
theorem dX2_findingAt_13 : decode cX2_findingAt 13 = .ok (.iload_n 1, 1) := by decide +kernel
theorem dX2_findingAt_14 : decode cX2_findingAt 14 = .ok (.if_icmp .eq 5, 3) := by decide +kernel
theorem dX2_findingAt_17 : decode cX2_findingAt 17 = .ok (.iconst 3, 1) := by decide +kernel
theorem dX2_findingAt_18 : decode cX2_findingAt 18 = .ok (.ireturn, 1) := by decide +kernel
theorem dX2_findingAt_19 : decode cX2_findingAt 19 = .ok (.aload_n 0, 1) := by decide +kernel
theorem dX2_findingAt_20 : decode cX2_findingAt 20 = .ok (.iload_n 2, 1) := by decide +kernel
theorem dX2_findingAt_21 : decode cX2_findingAt 21 = .ok (.iconst 1, 1) := by decide +kernel
theorem dX2_findingAt_22 : decode cX2_findingAt 22 = .ok (.invokevirtual 32, 3) := by decide +kernel
theorem dX2_findingAt_25 : decode cX2_findingAt 25 = .ok (.ifCond .eq 7, 3) := by decide +kernel
theorem dX2_findingAt_28 : decode cX2_findingAt 28 = .ok (.iconst 0, 1) := by decide +kernel
theorem dX2_findingAt_29 : decode cX2_findingAt 29 = .ok (.goto 4, 3) := by decide +kernel
theorem dX2_findingAt_32 : decode cX2_findingAt 32 = .ok (.iconst 2, 1) := by decide +kernel
theorem dX2_findingAt_33 : decode cX2_findingAt 33 = .ok (.ireturn, 1) := by decide +kernel
theorem dX3_init_0 : decode cX3_init 0 = .ok (.aload_n 0, 1) := by decide +kernel
theorem dX3_init_1 : decode cX3_init 1 = .ok (.invokespecial 3, 3) := by decide +kernel
theorem dX3_init_4 : decode cX3_init 4 = .ok (.aload_n 0, 1) := by decide +kernel
theorem dX3_init_5 : decode cX3_init 5 = .ok (.bipush 24, 2) := by decide +kernel
theorem dX3_init_7 : decode cX3_init 7 = .ok (.newarray .int, 2) := by decide +kernel
theorem dX3_init_9 : decode cX3_init 9 = .ok (.putfield 9, 3) := by decide +kernel
theorem dX3_init_12 : decode cX3_init 12 = .ok (.aload_n 0, 1) := by decide +kernel
theorem dX3_init_13 : decode cX3_init 13 = .ok (.bipush 24, 2) := by decide +kernel
theorem dX3_init_15 : decode cX3_init 15 = .ok (.newarray .int, 2) := by decide +kernel
theorem dX3_init_17 : decode cX3_init 17 = .ok (.putfield 15, 3) := by decide +kernel
theorem dX3_init_20 : decode cX3_init 20 = .ok (.aload_n 0, 1) := by decide +kernel
theorem dX3_init_21 : decode cX3_init 21 = .ok (.bipush 24, 2) := by decide +kernel
theorem dX3_init_23 : decode cX3_init 23 = .ok (.newarray .int, 2) := by decide +kernel
theorem dX3_init_25 : decode cX3_init 25 = .ok (.putfield 18, 3) := by decide +kernel
theorem dX3_init_28 : decode cX3_init 28 = .ok (.aload_n 0, 1) := by decide +kernel
theorem dX3_init_29 : decode cX3_init 29 = .ok (.iconst 0, 1) := by decide +kernel
theorem dX3_init_30 : decode cX3_init 30 = .ok (.putfield 21, 3) := by decide +kernel
theorem dX3_init_33 : decode cX3_init 33 = .ok (.return_, 1) := by decide +kernel
theorem dX3_mayBe_0 : decode cX3_mayBe 0 = .ok (.iload_n 0, 1) := by decide +kernel
theorem dX3_mayBe_1 : decode cX3_mayBe 1 = .ok (.invokestatic 25, 3) := by decide +kernel
theorem dX3_mayBe_4 : decode cX3_mayBe 4 = .ok (.ifCond .eq 23, 3) := by decide +kernel
theorem dX3_mayBe_7 : decode cX3_mayBe 7 = .ok (.iload_n 1, 1) := by decide +kernel
theorem dX3_mayBe_8 : decode cX3_mayBe 8 = .ok (.invokestatic 29, 3) := by decide +kernel
theorem dX3_mayBe_11 : decode cX3_mayBe 11 = .ok (.ifCond .eq 16, 3) := by decide +kernel
theorem dX3_mayBe_14 : decode cX3_mayBe 14 = .ok (.iload_n 2, 1) := by decide +kernel
theorem dX3_mayBe_15 : decode cX3_mayBe 15 = .ok (.ifCond .lt 12, 3) := by decide +kernel
theorem dX3_mayBe_18 : decode cX3_mayBe 18 = .ok (.iload_n 2, 1) := by decide +kernel
theorem dX3_mayBe_19 : decode cX3_mayBe 19 = .ok (.iconst 3, 1) := by decide +kernel
theorem dX3_mayBe_20 : decode cX3_mayBe 20 = .ok (.if_icmp .ge 7, 3) := by decide +kernel
theorem dX3_mayBe_23 : decode cX3_mayBe 23 = .ok (.iconst 1, 1) := by decide +kernel
theorem dX3_mayBe_24 : decode cX3_mayBe 24 = .ok (.goto 4, 3) := by decide +kernel
theorem dX3_mayBe_27 : decode cX3_mayBe 27 = .ok (.iconst 0, 1) := by decide +kernel
theorem dX3_mayBe_28 : decode cX3_mayBe 28 = .ok (.ireturn, 1) := by decide +kernel
theorem dX3_add_0 : decode cX3_add 0 = .ok (.aload_n 0, 1) := by decide +kernel
theorem dX3_add_1 : decode cX3_add 1 = .ok (.getfield 21, 3) := by decide +kernel
theorem dX3_add_4 : decode cX3_add 4 = .ok (.bipush 24, 2) := by decide +kernel
theorem dX3_add_6 : decode cX3_add 6 = .ok (.if_icmp .ge 43, 3) := by decide +kernel
theorem dX3_add_9 : decode cX3_add 9 = .ok (.aload_n 0, 1) := by decide +kernel
theorem dX3_add_10 : decode cX3_add 10 = .ok (.getfield 9, 3) := by decide +kernel
theorem dX3_add_13 : decode cX3_add 13 = .ok (.aload_n 0, 1) := by decide +kernel
theorem dX3_add_14 : decode cX3_add 14 = .ok (.getfield 21, 3) := by decide +kernel
theorem dX3_add_17 : decode cX3_add 17 = .ok (.iload_n 1, 1) := by decide +kernel
theorem dX3_add_18 : decode cX3_add 18 = .ok (.iastore, 1) := by decide +kernel
theorem dX3_add_19 : decode cX3_add 19 = .ok (.aload_n 0, 1) := by decide +kernel
theorem dX3_add_20 : decode cX3_add 20 = .ok (.getfield 15, 3) := by decide +kernel
theorem dX3_add_23 : decode cX3_add 23 = .ok (.aload_n 0, 1) := by decide +kernel
theorem dX3_add_24 : decode cX3_add 24 = .ok (.getfield 21, 3) := by decide +kernel
theorem dX3_add_27 : decode cX3_add 27 = .ok (.iload_n 2, 1) := by decide +kernel
theorem dX3_add_28 : decode cX3_add 28 = .ok (.iastore, 1) := by decide +kernel
theorem dX3_add_29 : decode cX3_add 29 = .ok (.aload_n 0, 1) := by decide +kernel
theorem dX3_add_30 : decode cX3_add 30 = .ok (.getfield 18, 3) := by decide +kernel
theorem dX3_add_33 : decode cX3_add 33 = .ok (.aload_n 0, 1) := by decide +kernel
theorem dX3_add_34 : decode cX3_add 34 = .ok (.getfield 21, 3) := by decide +kernel
theorem dX3_add_37 : decode cX3_add 37 = .ok (.iload_n 3, 1) := by decide +kernel
theorem dX3_add_38 : decode cX3_add 38 = .ok (.iastore, 1) := by decide +kernel
theorem dX3_add_39 : decode cX3_add 39 = .ok (.aload_n 0, 1) := by decide +kernel
theorem dX3_add_40 : decode cX3_add 40 = .ok (.dup, 1) := by decide +kernel
theorem dX3_add_41 : decode cX3_add 41 = .ok (.getfield 21, 3) := by decide +kernel
theorem dX3_add_44 : decode cX3_add 44 = .ok (.iconst 1, 1) := by decide +kernel
theorem dX3_add_45 : decode cX3_add 45 = .ok (.iadd, 1) := by decide +kernel
theorem dX3_add_46 : decode cX3_add 46 = .ok (.putfield 21, 3) := by decide +kernel
theorem dX3_add_49 : decode cX3_add 49 = .ok (.return_, 1) := by decide +kernel
theorem dJ11_isValidCodePoint_9a6ad_0 : decode cJ11_isValidCodePoint_9a6ad 0 = .ok (.iload_n 0, 1) := by decide +kernel
theorem dJ11_isValidCodePoint_9a6ad_1 : decode cJ11_isValidCodePoint_9a6ad 1 = .ok (.bipush 16, 2) := by decide +kernel
theorem dJ11_isValidCodePoint_9a6ad_3 : decode cJ11_isValidCodePoint_9a6ad 3 = .ok (.iushr, 1) := by decide +kernel
theorem dJ11_isValidCodePoint_9a6ad_4 : decode cJ11_isValidCodePoint_9a6ad 4 = .ok (.istore_n 1, 1) := by decide +kernel
theorem dJ11_isValidCodePoint_9a6ad_5 : decode cJ11_isValidCodePoint_9a6ad 5 = .ok (.iload_n 1, 1) := by decide +kernel
theorem dJ11_isValidCodePoint_9a6ad_6 : decode cJ11_isValidCodePoint_9a6ad 6 = .ok (.bipush 17, 2) := by decide +kernel
theorem dJ11_isValidCodePoint_9a6ad_8 : decode cJ11_isValidCodePoint_9a6ad 8 = .ok (.if_icmp .ge 7, 3) := by decide +kernel
theorem dJ11_isValidCodePoint_9a6ad_11 : decode cJ11_isValidCodePoint_9a6ad 11 = .ok (.iconst 1, 1) := by decide +kernel
theorem dJ11_isValidCodePoint_9a6ad_12 : decode cJ11_isValidCodePoint_9a6ad 12 = .ok (.goto 4, 3) := by decide +kernel
theorem dJ11_isValidCodePoint_9a6ad_15 : decode cJ11_isValidCodePoint_9a6ad 15 = .ok (.iconst 0, 1) := by decide +kernel
theorem dJ11_isValidCodePoint_9a6ad_16 : decode cJ11_isValidCodePoint_9a6ad 16 = .ok (.ireturn, 1) := by decide +kernel
theorem dJ11_highSurrogate_5068e_0 : decode cJ11_highSurrogate_5068e 0 = .ok (.iload_n 0, 1) := by decide +kernel
theorem dJ11_highSurrogate_5068e_1 : decode cJ11_highSurrogate_5068e 1 = .ok (.bipush 10, 2) := by decide +kernel
theorem dJ11_highSurrogate_5068e_3 : decode cJ11_highSurrogate_5068e 3 = .ok (.iushr, 1) := by decide +kernel
theorem dJ11_highSurrogate_5068e_4 : decode cJ11_highSurrogate_5068e 4 = .ok (.ldc 110, 2) := by decide +kernel
theorem dJ11_highSurrogate_5068e_6 : decode cJ11_highSurrogate_5068e 6 = .ok (.iadd, 1) := by decide +kernel
theorem dJ11_highSurrogate_5068e_7 : decode cJ11_highSurrogate_5068e 7 = .ok (.i2c, 1) := by decide +kernel
theorem dJ11_highSurrogate_5068e_8 : decode cJ11_highSurrogate_5068e 8 = .ok (.ireturn, 1) := by decide +kernel
theorem dJ11_lowSurrogate_5068e_0 : decode cJ11_lowSurrogate_5068e 0 = .ok (.iload_n 0, 1) := by decide +kernel
theorem dJ11_lowSurrogate_5068e_1 : decode cJ11_lowSurrogate_5068e 1 = .ok (.sipush 1023, 3) := by decide +kernel
theorem dJ11_lowSurrogate_5068e_4 : decode cJ11_lowSurrogate_5068e 4 = .ok (.iand, 1) := by decide +kernel
theorem dJ11_lowSurrogate_5068e_5 : decode cJ11_lowSurrogate_5068e 5 = .ok (.ldc 76, 2) := by decide +kernel
theorem dJ11_lowSurrogate_5068e_7 : decode cJ11_lowSurrogate_5068e 7 = .ok (.iadd, 1) := by decide +kernel
theorem dJ11_lowSurrogate_5068e_8 : decode cJ11_lowSurrogate_5068e 8 = .ok (.i2c, 1) := by decide +kernel
theorem dJ11_lowSurrogate_5068e_9 : decode cJ11_lowSurrogate_5068e 9 = .ok (.ireturn, 1) := by decide +kernel
theorem dJ6_bitCount_0f7a4_0 : decode cJ6_bitCount_0f7a4 0 = .ok (.iload_n 0, 1) := by decide +kernel
theorem dJ6_bitCount_0f7a4_1 : decode cJ6_bitCount_0f7a4 1 = .ok (.iload_n 0, 1) := by decide +kernel
theorem dJ6_bitCount_0f7a4_2 : decode cJ6_bitCount_0f7a4 2 = .ok (.iconst 1, 1) := by decide +kernel
theorem dJ6_bitCount_0f7a4_3 : decode cJ6_bitCount_0f7a4 3 = .ok (.iushr, 1) := by decide +kernel
theorem dJ6_bitCount_0f7a4_4 : decode cJ6_bitCount_0f7a4 4 = .ok (.ldc_w 265, 3) := by decide +kernel
theorem dJ6_bitCount_0f7a4_7 : decode cJ6_bitCount_0f7a4 7 = .ok (.iand, 1) := by decide +kernel
theorem dJ6_bitCount_0f7a4_8 : decode cJ6_bitCount_0f7a4 8 = .ok (.isub, 1) := by decide +kernel
theorem dJ6_bitCount_0f7a4_9 : decode cJ6_bitCount_0f7a4 9 = .ok (.istore_n 0, 1) := by decide +kernel
theorem dJ6_bitCount_0f7a4_10 : decode cJ6_bitCount_0f7a4 10 = .ok (.iload_n 0, 1) := by decide +kernel
theorem dJ6_bitCount_0f7a4_11 : decode cJ6_bitCount_0f7a4 11 = .ok (.ldc_w 266, 3) := by decide +kernel
theorem dJ6_bitCount_0f7a4_14 : decode cJ6_bitCount_0f7a4 14 = .ok (.iand, 1) := by decide +kernel
theorem dJ6_bitCount_0f7a4_15 : decode cJ6_bitCount_0f7a4 15 = .ok (.iload_n 0, 1) := by decide +kernel
theorem dJ6_bitCount_0f7a4_16 : decode cJ6_bitCount_0f7a4 16 = .ok (.iconst 2, 1) := by decide +kernel
theorem dJ6_bitCount_0f7a4_17 : decode cJ6_bitCount_0f7a4 17 = .ok (.iushr, 1) := by decide +kernel
theorem dJ6_bitCount_0f7a4_18 : decode cJ6_bitCount_0f7a4 18 = .ok (.ldc_w 266, 3) := by decide +kernel
theorem dJ6_bitCount_0f7a4_21 : decode cJ6_bitCount_0f7a4 21 = .ok (.iand, 1) := by decide +kernel
theorem dJ6_bitCount_0f7a4_22 : decode cJ6_bitCount_0f7a4 22 = .ok (.iadd, 1) := by decide +kernel
theorem dJ6_bitCount_0f7a4_23 : decode cJ6_bitCount_0f7a4 23 = .ok (.istore_n 0, 1) := by decide +kernel
theorem dJ6_bitCount_0f7a4_24 : decode cJ6_bitCount_0f7a4 24 = .ok (.iload_n 0, 1) := by decide +kernel
theorem dJ6_bitCount_0f7a4_25 : decode cJ6_bitCount_0f7a4 25 = .ok (.iload_n 0, 1) := by decide +kernel
theorem dJ6_bitCount_0f7a4_26 : decode cJ6_bitCount_0f7a4 26 = .ok (.iconst 4, 1) := by decide +kernel
theorem dJ6_bitCount_0f7a4_27 : decode cJ6_bitCount_0f7a4 27 = .ok (.iushr, 1) := by decide +kernel
theorem dJ6_bitCount_0f7a4_28 : decode cJ6_bitCount_0f7a4 28 = .ok (.iadd, 1) := by decide +kernel
theorem dJ6_bitCount_0f7a4_29 : decode cJ6_bitCount_0f7a4 29 = .ok (.ldc_w 267, 3) := by decide +kernel
theorem dJ6_bitCount_0f7a4_32 : decode cJ6_bitCount_0f7a4 32 = .ok (.iand, 1) := by decide +kernel
theorem dJ6_bitCount_0f7a4_33 : decode cJ6_bitCount_0f7a4 33 = .ok (.istore_n 0, 1) := by decide +kernel
theorem dJ6_bitCount_0f7a4_34 : decode cJ6_bitCount_0f7a4 34 = .ok (.iload_n 0, 1) := by decide +kernel
theorem dJ6_bitCount_0f7a4_35 : decode cJ6_bitCount_0f7a4 35 = .ok (.iload_n 0, 1) := by decide +kernel
theorem dJ6_bitCount_0f7a4_36 : decode cJ6_bitCount_0f7a4 36 = .ok (.bipush 8, 2) := by decide +kernel
theorem dJ6_bitCount_0f7a4_38 : decode cJ6_bitCount_0f7a4 38 = .ok (.iushr, 1) := by decide +kernel
theorem dJ6_bitCount_0f7a4_39 : decode cJ6_bitCount_0f7a4 39 = .ok (.iadd, 1) := by decide +kernel
theorem dJ6_bitCount_0f7a4_40 : decode cJ6_bitCount_0f7a4 40 = .ok (.istore_n 0, 1) := by decide +kernel
theorem dJ6_bitCount_0f7a4_41 : decode cJ6_bitCount_0f7a4 41 = .ok (.iload_n 0, 1) := by decide +kernel
theorem dJ6_bitCount_0f7a4_42 : decode cJ6_bitCount_0f7a4 42 = .ok (.iload_n 0, 1) := by decide +kernel
theorem dJ6_bitCount_0f7a4_43 : decode cJ6_bitCount_0f7a4 43 = .ok (.bipush 16, 2) := by decide +kernel
theorem dJ6_bitCount_0f7a4_45 : decode cJ6_bitCount_0f7a4 45 = .ok (.iushr, 1) := by decide +kernel
theorem dJ6_bitCount_0f7a4_46 : decode cJ6_bitCount_0f7a4 46 = .ok (.iadd, 1) := by decide +kernel
theorem dJ6_bitCount_0f7a4_47 : decode cJ6_bitCount_0f7a4 47 = .ok (.istore_n 0, 1) := by decide +kernel
theorem dJ6_bitCount_0f7a4_48 : decode cJ6_bitCount_0f7a4 48 = .ok (.iload_n 0, 1) := by decide +kernel
theorem dJ6_bitCount_0f7a4_49 : decode cJ6_bitCount_0f7a4 49 = .ok (.bipush 63, 2) := by decide +kernel
theorem dJ6_bitCount_0f7a4_51 : decode cJ6_bitCount_0f7a4 51 = .ok (.iand, 1) := by decide +kernel
theorem dJ6_bitCount_0f7a4_52 : decode cJ6_bitCount_0f7a4 52 = .ok (.ireturn, 1) := by decide +kernel
theorem dJ9_max_7cf53_0 : decode cJ9_max_7cf53 0 = .ok (.iload_n 0, 1) := by decide +kernel
theorem dJ9_max_7cf53_1 : decode cJ9_max_7cf53 1 = .ok (.iload_n 1, 1) := by decide +kernel
theorem dJ9_max_7cf53_2 : decode cJ9_max_7cf53 2 = .ok (.if_icmp .lt 7, 3) := by decide +kernel
theorem dJ9_max_7cf53_5 : decode cJ9_max_7cf53 5 = .ok (.iload_n 0, 1) := by decide +kernel
theorem dJ9_max_7cf53_6 : decode cJ9_max_7cf53 6 = .ok (.goto 4, 3) := by decide +kernel
theorem dJ9_max_7cf53_9 : decode cJ9_max_7cf53 9 = .ok (.iload_n 1, 1) := by decide +kernel
theorem dJ9_max_7cf53_10 : decode cJ9_max_7cf53 10 = .ok (.ireturn, 1) := by decide +kernel
theorem dJ9_min_7cf53_0 : decode cJ9_min_7cf53 0 = .ok (.iload_n 0, 1) := by decide +kernel
theorem dJ9_min_7cf53_1 : decode cJ9_min_7cf53 1 = .ok (.iload_n 1, 1) := by decide +kernel
theorem dJ9_min_7cf53_2 : decode cJ9_min_7cf53 2 = .ok (.if_icmp .gt 7, 3) := by decide +kernel
theorem dJ9_min_7cf53_5 : decode cJ9_min_7cf53 5 = .ok (.iload_n 0, 1) := by decide +kernel
theorem dJ9_min_7cf53_6 : decode cJ9_min_7cf53 6 = .ok (.goto 4, 3) := by decide +kernel
theorem dJ9_min_7cf53_9 : decode cJ9_min_7cf53 9 = .ok (.iload_n 1, 1) := by decide +kernel
theorem dJ9_min_7cf53_10 : decode cJ9_min_7cf53 10 = .ok (.ireturn, 1) := by decide +kernel
theorem dJ0_length_8abf5_0 : decode cJ0_length_8abf5 0 = .ok (.aload_n 0, 1) := by decide +kernel
theorem dJ0_length_8abf5_1 : decode cJ0_length_8abf5 1 = .ok (.getfield 9, 3) := by decide +kernel
theorem dJ0_length_8abf5_4 : decode cJ0_length_8abf5 4 = .ok (.arraylength, 1) := by decide +kernel
theorem dJ0_length_8abf5_5 : decode cJ0_length_8abf5 5 = .ok (.aload_n 0, 1) := by decide +kernel
theorem dJ0_length_8abf5_6 : decode cJ0_length_8abf5 6 = .ok (.invokevirtual 335, 3) := by decide +kernel
theorem dJ0_length_8abf5_9 : decode cJ0_length_8abf5 9 = .ok (.ishr, 1) := by decide +kernel
theorem dJ0_length_8abf5_10 : decode cJ0_length_8abf5 10 = .ok (.ireturn, 1) := by decide +kernel
theorem dJ0_indexOf_0f7a4_0 : decode cJ0_indexOf_0f7a4 0 = .ok (.aload_n 0, 1) := by decide +kernel
theorem dJ0_indexOf_0f7a4_1 : decode cJ0_indexOf_0f7a4 1 = .ok (.iload_n 1, 1) := by decide +kernel
theorem dJ0_indexOf_0f7a4_2 : decode cJ0_indexOf_0f7a4 2 = .ok (.iconst 0, 1) := by decide +kernel
theorem dJ0_indexOf_0f7a4_3 : decode cJ0_indexOf_0f7a4 3 = .ok (.invokevirtual 633, 3) := by decide +kernel
theorem dJ0_indexOf_0f7a4_6 : decode cJ0_indexOf_0f7a4 6 = .ok (.ireturn, 1) := by decide +kernel
theorem dJ0_indexOf_7cf53_0 : decode cJ0_indexOf_7cf53 0 = .ok (.aload_n 0, 1) := by decide +kernel
theorem dJ0_indexOf_7cf53_1 : decode cJ0_indexOf_7cf53 1 = .ok (.invokevirtual 492, 3) := by decide +kernel
theorem dJ0_indexOf_7cf53_4 : decode cJ0_indexOf_7cf53 4 = .ok (.ifCond .eq 19, 3) := by decide +kernel
theorem dJ0_indexOf_7cf53_7 : decode cJ0_indexOf_7cf53 7 = .ok (.aload_n 0, 1) := by decide +kernel
theorem dJ0_indexOf_7cf53_8 : decode cJ0_indexOf_7cf53 8 = .ok (.getfield 9, 3) := by decide +kernel
theorem dJ0_indexOf_7cf53_11 : decode cJ0_indexOf_7cf53 11 = .ok (.iload_n 1, 1) := by decide +kernel
theorem dJ0_indexOf_7cf53_12 : decode cJ0_indexOf_7cf53 12 = .ok (.iload_n 2, 1) := by decide +kernel
theorem dJ0_indexOf_7cf53_13 : decode cJ0_indexOf_7cf53 13 = .ok (.aload_n 0, 1) := by decide +kernel
theorem dJ0_indexOf_7cf53_14 : decode cJ0_indexOf_7cf53 14 = .ok (.invokevirtual 505, 3) := by decide +kernel
theorem dJ0_indexOf_7cf53_17 : decode cJ0_indexOf_7cf53 17 = .ok (.invokestatic 637, 3) := by decide +kernel
theorem dJ0_indexOf_7cf53_20 : decode cJ0_indexOf_7cf53 20 = .ok (.goto 16, 3) := by decide +kernel
theorem dJ0_indexOf_7cf53_23 : decode cJ0_indexOf_7cf53 23 = .ok (.aload_n 0, 1) := by decide +kernel
theorem dJ0_indexOf_7cf53_24 : decode cJ0_indexOf_7cf53 24 = .ok (.getfield 9, 3) := by decide +kernel
theorem dJ0_indexOf_7cf53_27 : decode cJ0_indexOf_7cf53 27 = .ok (.iload_n 1, 1) := by decide +kernel
theorem dJ0_indexOf_7cf53_28 : decode cJ0_indexOf_7cf53 28 = .ok (.iload_n 2, 1) := by decide +kernel
theorem dJ0_indexOf_7cf53_29 : decode cJ0_indexOf_7cf53 29 = .ok (.aload_n 0, 1) := by decide +kernel
theorem dJ0_indexOf_7cf53_30 : decode cJ0_indexOf_7cf53 30 = .ok (.invokevirtual 505, 3) := by decide +kernel
theorem dJ0_indexOf_7cf53_33 : decode cJ0_indexOf_7cf53 33 = .ok (.invokestatic 640, 3) := by decide +kernel
theorem dJ0_indexOf_7cf53_36 : decode cJ0_indexOf_7cf53 36 = .ok (.ireturn, 1) := by decide +kernel
theorem dJ0_coder_7d493_0 : decode cJ0_coder_7d493 0 = .ok (.getstatic 38, 3) := by decide +kernel
theorem dJ0_coder_7d493_3 : decode cJ0_coder_7d493 3 = .ok (.ifCond .eq 10, 3) := by decide +kernel
theorem dJ0_coder_7d493_6 : decode cJ0_coder_7d493 6 = .ok (.aload_n 0, 1) := by decide +kernel
theorem dJ0_coder_7d493_7 : decode cJ0_coder_7d493 7 = .ok (.getfield 15, 3) := by decide +kernel
theorem dJ0_coder_7d493_10 : decode cJ0_coder_7d493 10 = .ok (.goto 4, 3) := by decide +kernel
theorem dJ0_coder_7d493_13 : decode cJ0_coder_7d493 13 = .ok (.iconst 1, 1) := by decide +kernel
theorem dJ0_coder_7d493_14 : decode cJ0_coder_7d493 14 = .ok (.ireturn, 1) := by decide +kernel
theorem dJ0_isLatin1_aae02_0 : decode cJ0_isLatin1_aae02 0 = .ok (.getstatic 38, 3) := by decide +kernel
theorem dJ0_isLatin1_aae02_3 : decode cJ0_isLatin1_aae02 3 = .ok (.ifCond .eq 14, 3) := by decide +kernel
theorem dJ0_isLatin1_aae02_6 : decode cJ0_isLatin1_aae02 6 = .ok (.aload_n 0, 1) := by decide +kernel
theorem dJ0_isLatin1_aae02_7 : decode cJ0_isLatin1_aae02 7 = .ok (.getfield 15, 3) := by decide +kernel
theorem dJ0_isLatin1_aae02_10 : decode cJ0_isLatin1_aae02 10 = .ok (.ifCond .ne 7, 3) := by decide +kernel
theorem dJ0_isLatin1_aae02_13 : decode cJ0_isLatin1_aae02 13 = .ok (.iconst 1, 1) := by decide +kernel
theorem dJ0_isLatin1_aae02_14 : decode cJ0_isLatin1_aae02 14 = .ok (.goto 4, 3) := by decide +kernel
theorem dJ0_isLatin1_aae02_17 : decode cJ0_isLatin1_aae02 17 = .ok (.iconst 0, 1) := by decide +kernel
theorem dJ0_isLatin1_aae02_18 : decode cJ0_isLatin1_aae02 18 = .ok (.ireturn, 1) := by decide +kernel
theorem dJ0_checkBoundsBeginEnd_23922_0 : decode cJ0_checkBoundsBeginEnd_23922 0 = .ok (.iload_n 0, 1) := by decide +kernel
theorem dJ0_checkBoundsBeginEnd_23922_1 : decode cJ0_checkBoundsBeginEnd_23922 1 = .ok (.iload_n 1, 1) := by decide +kernel
theorem dJ0_checkBoundsBeginEnd_23922_2 : decode cJ0_checkBoundsBeginEnd_23922 2 = .ok (.iload_n 2, 1) := by decide +kernel
theorem dJ0_checkBoundsBeginEnd_23922_3 : decode cJ0_checkBoundsBeginEnd_23922 3 = .ok (.getstatic 1053, 3) := by decide +kernel
theorem dJ0_checkBoundsBeginEnd_23922_6 : decode cJ0_checkBoundsBeginEnd_23922 6 = .ok (.invokestatic 1062, 3) := by decide +kernel
theorem dJ0_checkBoundsBeginEnd_23922_9 : decode cJ0_checkBoundsBeginEnd_23922 9 = .ok (.pop, 1) := by decide +kernel
theorem dJ0_checkBoundsBeginEnd_23922_10 : decode cJ0_checkBoundsBeginEnd_23922 10 = .ok (.return_, 1) := by decide +kernel
theorem dJ1_canEncode_9a6ad_0 : decode cJ1_canEncode_9a6ad 0 = .ok (.iload_n 0, 1) := by decide +kernel
theorem dJ1_canEncode_9a6ad_1 : decode cJ1_canEncode_9a6ad 1 = .ok (.ifCond .lt 14, 3) := by decide +kernel
theorem dJ1_canEncode_9a6ad_4 : decode cJ1_canEncode_9a6ad 4 = .ok (.iload_n 0, 1) := by decide +kernel
theorem dJ1_canEncode_9a6ad_5 : decode cJ1_canEncode_9a6ad 5 = .ok (.sipush 255, 3) := by decide +kernel
theorem dJ1_canEncode_9a6ad_8 : decode cJ1_canEncode_9a6ad 8 = .ok (.if_icmp .gt 7, 3) := by decide +kernel
theorem dJ1_canEncode_9a6ad_11 : decode cJ1_canEncode_9a6ad 11 = .ok (.iconst 1, 1) := by decide +kernel
theorem dJ1_canEncode_9a6ad_12 : decode cJ1_canEncode_9a6ad 12 = .ok (.goto 4, 3) := by decide +kernel
theorem dJ1_canEncode_9a6ad_15 : decode cJ1_canEncode_9a6ad 15 = .ok (.iconst 0, 1) := by decide +kernel
theorem dJ1_canEncode_9a6ad_16 : decode cJ1_canEncode_9a6ad 16 = .ok (.ireturn, 1) := by decide +kernel
theorem dJ1_indexOf_4cfef_0 : decode cJ1_indexOf_4cfef 0 = .ok (.iload_n 1, 1) := by decide +kernel
theorem dJ1_indexOf_4cfef_1 : decode cJ1_indexOf_4cfef 1 = .ok (.invokestatic 88, 3) := by decide +kernel
theorem dJ1_indexOf_4cfef_4 : decode cJ1_indexOf_4cfef 4 = .ok (.ifCond .ne 5, 3) := by decide +kernel
theorem dJ1_indexOf_4cfef_7 : decode cJ1_indexOf_4cfef 7 = .ok (.iconst (-1), 1) := by decide +kernel
theorem dJ1_indexOf_4cfef_8 : decode cJ1_indexOf_4cfef 8 = .ok (.ireturn, 1) := by decide +kernel
theorem dJ1_indexOf_4cfef_9 : decode cJ1_indexOf_4cfef 9 = .ok (.iload_n 2, 1) := by decide +kernel
theorem dJ1_indexOf_4cfef_10 : decode cJ1_indexOf_4cfef 10 = .ok (.iconst 0, 1) := by decide +kernel
theorem dJ1_indexOf_4cfef_11 : decode cJ1_indexOf_4cfef 11 = .ok (.invokestatic 92, 3) := by decide +kernel
theorem dJ1_indexOf_4cfef_14 : decode cJ1_indexOf_4cfef 14 = .ok (.istore_n 2, 1) := by decide +kernel
theorem dJ1_indexOf_4cfef_15 : decode cJ1_indexOf_4cfef 15 = .ok (.iload_n 3, 1) := by decide +kernel
theorem dJ1_indexOf_4cfef_16 : decode cJ1_indexOf_4cfef 16 = .ok (.aload_n 0, 1) := by decide +kernel
theorem dJ1_indexOf_4cfef_17 : decode cJ1_indexOf_4cfef 17 = .ok (.arraylength, 1) := by decide +kernel
theorem dJ1_indexOf_4cfef_18 : decode cJ1_indexOf_4cfef 18 = .ok (.invokestatic 38, 3) := by decide +kernel
theorem dJ1_indexOf_4cfef_21 : decode cJ1_indexOf_4cfef 21 = .ok (.istore_n 3, 1) := by decide +kernel
theorem dJ1_indexOf_4cfef_22 : decode cJ1_indexOf_4cfef 22 = .ok (.iload_n 2, 1) := by decide +kernel
theorem dJ1_indexOf_4cfef_23 : decode cJ1_indexOf_4cfef 23 = .ok (.iload_n 3, 1) := by decide +kernel
theorem dJ1_indexOf_4cfef_24 : decode cJ1_indexOf_4cfef 24 = .ok (.if_icmp .lt 5, 3) := by decide +kernel
theorem dJ1_indexOf_4cfef_27 : decode cJ1_indexOf_4cfef 27 = .ok (.iconst (-1), 1) := by decide +kernel
theorem dJ1_indexOf_4cfef_28 : decode cJ1_indexOf_4cfef 28 = .ok (.ireturn, 1) := by decide +kernel
theorem dJ1_indexOf_4cfef_29 : decode cJ1_indexOf_4cfef 29 = .ok (.aload_n 0, 1) := by decide +kernel
theorem dJ1_indexOf_4cfef_30 : decode cJ1_indexOf_4cfef 30 = .ok (.iload_n 1, 1) := by decide +kernel
theorem dJ1_indexOf_4cfef_31 : decode cJ1_indexOf_4cfef 31 = .ok (.iload_n 2, 1) := by decide +kernel
theorem dJ1_indexOf_4cfef_32 : decode cJ1_indexOf_4cfef 32 = .ok (.iload_n 3, 1) := by decide +kernel
theorem dJ1_indexOf_4cfef_33 : decode cJ1_indexOf_4cfef 33 = .ok (.invokestatic 95, 3) := by decide +kernel
theorem dJ1_indexOf_4cfef_36 : decode cJ1_indexOf_4cfef 36 = .ok (.ireturn, 1) := by decide +kernel
theorem dJ1_indexOfChar_4cfef_0 : decode cJ1_indexOfChar_4cfef 0 = .ok (.iload_n 1, 1) := by decide +kernel
theorem dJ1_indexOfChar_4cfef_1 : decode cJ1_indexOfChar_4cfef 1 = .ok (.i2b, 1) := by decide +kernel
theorem dJ1_indexOfChar_4cfef_2 : decode cJ1_indexOfChar_4cfef 2 = .ok (.istore 4, 2) := by decide +kernel
theorem dJ1_indexOfChar_4cfef_4 : decode cJ1_indexOfChar_4cfef 4 = .ok (.iload_n 2, 1) := by decide +kernel
theorem dJ1_indexOfChar_4cfef_5 : decode cJ1_indexOfChar_4cfef 5 = .ok (.istore 5, 2) := by decide +kernel
theorem dJ1_indexOfChar_4cfef_7 : decode cJ1_indexOfChar_4cfef 7 = .ok (.iload 5, 2) := by decide +kernel
theorem dJ1_indexOfChar_4cfef_9 : decode cJ1_indexOfChar_4cfef 9 = .ok (.iload_n 3, 1) := by decide +kernel
theorem dJ1_indexOfChar_4cfef_10 : decode cJ1_indexOfChar_4cfef 10 = .ok (.if_icmp .ge 21, 3) := by decide +kernel
theorem dJ1_indexOfChar_4cfef_13 : decode cJ1_indexOfChar_4cfef 13 = .ok (.aload_n 0, 1) := by decide +kernel
theorem dJ1_indexOfChar_4cfef_14 : decode cJ1_indexOfChar_4cfef 14 = .ok (.iload 5, 2) := by decide +kernel
theorem dJ1_indexOfChar_4cfef_16 : decode cJ1_indexOfChar_4cfef 16 = .ok (.baload, 1) := by decide +kernel
theorem dJ1_indexOfChar_4cfef_17 : decode cJ1_indexOfChar_4cfef 17 = .ok (.iload 4, 2) := by decide +kernel
theorem dJ1_indexOfChar_4cfef_19 : decode cJ1_indexOfChar_4cfef 19 = .ok (.if_icmp .ne 6, 3) := by decide +kernel
theorem dJ1_indexOfChar_4cfef_22 : decode cJ1_indexOfChar_4cfef 22 = .ok (.iload 5, 2) := by decide +kernel
theorem dJ1_indexOfChar_4cfef_24 : decode cJ1_indexOfChar_4cfef 24 = .ok (.ireturn, 1) := by decide +kernel
theorem dJ1_indexOfChar_4cfef_25 : decode cJ1_indexOfChar_4cfef 25 = .ok (.iinc 5 1, 3) := by decide +kernel
theorem dJ1_indexOfChar_4cfef_28 : decode cJ1_indexOfChar_4cfef 28 = .ok (.goto (-21), 3) := by decide +kernel
theorem dJ1_indexOfChar_4cfef_31 : decode cJ1_indexOfChar_4cfef 31 = .ok (.iconst (-1), 1) := by decide +kernel
theorem dJ1_indexOfChar_4cfef_32 : decode cJ1_indexOfChar_4cfef 32 = .ok (.ireturn, 1) := by decide +kernel
theorem dJ2_getChar_3b067_0 : decode cJ2_getChar_3b067 0 = .ok (.getstatic 44, 3) := by decide +kernel
theorem dJ2_getChar_3b067_3 : decode cJ2_getChar_3b067 3 = .ok (.ifCond .ne 25, 3) := by decide +kernel
theorem dJ2_getChar_3b067_6 : decode cJ2_getChar_3b067 6 = .ok (.iload_n 1, 1) := by decide +kernel
theorem dJ2_getChar_3b067_7 : decode cJ2_getChar_3b067 7 = .ok (.ifCond .lt 11, 3) := by decide +kernel
theorem dJ2_getChar_3b067_10 : decode cJ2_getChar_3b067 10 = .ok (.iload_n 1, 1) := by decide +kernel
theorem dJ2_getChar_3b067_11 : decode cJ2_getChar_3b067 11 = .ok (.aload_n 0, 1) := by decide +kernel
theorem dJ2_getChar_3b067_12 : decode cJ2_getChar_3b067 12 = .ok (.invokestatic 48, 3) := by decide +kernel
theorem dJ2_getChar_3b067_15 : decode cJ2_getChar_3b067 15 = .ok (.if_icmp .lt 13, 3) := by decide +kernel
theorem dJ2_getChar_3b067_18 : decode cJ2_getChar_3b067 18 = .ok (.new 52, 3) := by decide +kernel
theorem dJ2_getChar_3b067_21 : decode cJ2_getChar_3b067 21 = .ok (.dup, 1) := by decide +kernel
theorem dJ2_getChar_3b067_22 : decode cJ2_getChar_3b067 22 = .ok (.ldc 54, 2) := by decide +kernel
theorem dJ2_getChar_3b067_24 : decode cJ2_getChar_3b067 24 = .ok (.invokespecial 56, 3) := by decide +kernel
theorem dJ2_getChar_3b067_27 : decode cJ2_getChar_3b067 27 = .ok (.athrow, 1) := by decide +kernel
theorem dJ2_getChar_3b067_28 : decode cJ2_getChar_3b067 28 = .ok (.iload_n 1, 1) := by decide +kernel
theorem dJ2_getChar_3b067_29 : decode cJ2_getChar_3b067 29 = .ok (.iconst 1, 1) := by decide +kernel
theorem dJ2_getChar_3b067_30 : decode cJ2_getChar_3b067 30 = .ok (.ishl, 1) := by decide +kernel
theorem dJ2_getChar_3b067_31 : decode cJ2_getChar_3b067 31 = .ok (.istore_n 1, 1) := by decide +kernel
theorem dJ2_getChar_3b067_32 : decode cJ2_getChar_3b067 32 = .ok (.aload_n 0, 1) := by decide +kernel
theorem dJ2_getChar_3b067_33 : decode cJ2_getChar_3b067 33 = .ok (.iload_n 1, 1) := by decide +kernel
theorem dJ2_getChar_3b067_34 : decode cJ2_getChar_3b067 34 = .ok (.iinc 1 1, 3) := by decide +kernel
theorem dJ2_getChar_3b067_37 : decode cJ2_getChar_3b067 37 = .ok (.baload, 1) := by decide +kernel
theorem dJ2_getChar_3b067_38 : decode cJ2_getChar_3b067 38 = .ok (.sipush 255, 3) := by decide +kernel
theorem dJ2_getChar_3b067_41 : decode cJ2_getChar_3b067 41 = .ok (.iand, 1) := by decide +kernel
theorem dJ2_getChar_3b067_42 : decode cJ2_getChar_3b067 42 = .ok (.getstatic 59, 3) := by decide +kernel
theorem dJ2_getChar_3b067_45 : decode cJ2_getChar_3b067 45 = .ok (.ishl, 1) := by decide +kernel
theorem dJ2_getChar_3b067_46 : decode cJ2_getChar_3b067 46 = .ok (.aload_n 0, 1) := by decide +kernel
theorem dJ2_getChar_3b067_47 : decode cJ2_getChar_3b067 47 = .ok (.iload_n 1, 1) := by decide +kernel
theorem dJ2_getChar_3b067_48 : decode cJ2_getChar_3b067 48 = .ok (.baload, 1) := by decide +kernel
theorem dJ2_getChar_3b067_49 : decode cJ2_getChar_3b067 49 = .ok (.sipush 255, 3) := by decide +kernel
theorem dJ2_getChar_3b067_52 : decode cJ2_getChar_3b067 52 = .ok (.iand, 1) := by decide +kernel
theorem dJ2_getChar_3b067_53 : decode cJ2_getChar_3b067 53 = .ok (.getstatic 63, 3) := by decide +kernel
theorem dJ2_getChar_3b067_56 : decode cJ2_getChar_3b067 56 = .ok (.ishl, 1) := by decide +kernel
theorem dJ2_getChar_3b067_57 : decode cJ2_getChar_3b067 57 = .ok (.ior, 1) := by decide +kernel
theorem dJ2_getChar_3b067_58 : decode cJ2_getChar_3b067 58 = .ok (.i2c, 1) := by decide +kernel
theorem dJ2_getChar_3b067_59 : decode cJ2_getChar_3b067 59 = .ok (.ireturn, 1) := by decide +kernel
theorem dJ2_length_9d52b_0 : decode cJ2_length_9d52b 0 = .ok (.aload_n 0, 1) := by decide +kernel
theorem dJ2_length_9d52b_1 : decode cJ2_length_9d52b 1 = .ok (.arraylength, 1) := by decide +kernel
theorem dJ2_length_9d52b_2 : decode cJ2_length_9d52b 2 = .ok (.iconst 1, 1) := by decide +kernel
theorem dJ2_length_9d52b_3 : decode cJ2_length_9d52b 3 = .ok (.ishr, 1) := by decide +kernel
theorem dJ2_length_9d52b_4 : decode cJ2_length_9d52b 4 = .ok (.ireturn, 1) := by decide +kernel
theorem dJ2_indexOf_4cfef_0 : decode cJ2_indexOf_4cfef 0 = .ok (.iload_n 2, 1) := by decide +kernel
theorem dJ2_indexOf_4cfef_1 : decode cJ2_indexOf_4cfef 1 = .ok (.iconst 0, 1) := by decide +kernel
theorem dJ2_indexOf_4cfef_2 : decode cJ2_indexOf_4cfef 2 = .ok (.invokestatic 224, 3) := by decide +kernel
theorem dJ2_indexOf_4cfef_5 : decode cJ2_indexOf_4cfef 5 = .ok (.istore_n 2, 1) := by decide +kernel
theorem dJ2_indexOf_4cfef_6 : decode cJ2_indexOf_4cfef 6 = .ok (.iload_n 3, 1) := by decide +kernel
theorem dJ2_indexOf_4cfef_7 : decode cJ2_indexOf_4cfef 7 = .ok (.aload_n 0, 1) := by decide +kernel
theorem dJ2_indexOf_4cfef_8 : decode cJ2_indexOf_4cfef 8 = .ok (.arraylength, 1) := by decide +kernel
theorem dJ2_indexOf_4cfef_9 : decode cJ2_indexOf_4cfef 9 = .ok (.iconst 1, 1) := by decide +kernel
theorem dJ2_indexOf_4cfef_10 : decode cJ2_indexOf_4cfef 10 = .ok (.ishr, 1) := by decide +kernel
theorem dJ2_indexOf_4cfef_11 : decode cJ2_indexOf_4cfef 11 = .ok (.invokestatic 183, 3) := by decide +kernel
theorem dJ2_indexOf_4cfef_14 : decode cJ2_indexOf_4cfef 14 = .ok (.istore_n 3, 1) := by decide +kernel
theorem dJ2_indexOf_4cfef_15 : decode cJ2_indexOf_4cfef 15 = .ok (.iload_n 2, 1) := by decide +kernel
theorem dJ2_indexOf_4cfef_16 : decode cJ2_indexOf_4cfef 16 = .ok (.iload_n 3, 1) := by decide +kernel
theorem dJ2_indexOf_4cfef_17 : decode cJ2_indexOf_4cfef 17 = .ok (.if_icmp .lt 5, 3) := by decide +kernel
theorem dJ2_indexOf_4cfef_20 : decode cJ2_indexOf_4cfef 20 = .ok (.iconst (-1), 1) := by decide +kernel
theorem dJ2_indexOf_4cfef_21 : decode cJ2_indexOf_4cfef 21 = .ok (.ireturn, 1) := by decide +kernel
theorem dJ2_indexOf_4cfef_22 : decode cJ2_indexOf_4cfef 22 = .ok (.iload_n 1, 1) := by decide +kernel
theorem dJ2_indexOf_4cfef_23 : decode cJ2_indexOf_4cfef 23 = .ok (.ldc 227, 2) := by decide +kernel
theorem dJ2_indexOf_4cfef_25 : decode cJ2_indexOf_4cfef 25 = .ok (.if_icmp .ge 11, 3) := by decide +kernel
theorem dJ2_indexOf_4cfef_28 : decode cJ2_indexOf_4cfef 28 = .ok (.aload_n 0, 1) := by decide +kernel
theorem dJ2_indexOf_4cfef_29 : decode cJ2_indexOf_4cfef 29 = .ok (.iload_n 1, 1) := by decide +kernel
theorem dJ2_indexOf_4cfef_30 : decode cJ2_indexOf_4cfef 30 = .ok (.iload_n 2, 1) := by decide +kernel
theorem dJ2_indexOf_4cfef_31 : decode cJ2_indexOf_4cfef 31 = .ok (.iload_n 3, 1) := by decide +kernel
theorem dJ2_indexOf_4cfef_32 : decode cJ2_indexOf_4cfef 32 = .ok (.invokestatic 228, 3) := by decide +kernel
theorem dJ2_indexOf_4cfef_35 : decode cJ2_indexOf_4cfef 35 = .ok (.ireturn, 1) := by decide +kernel
theorem dJ2_indexOf_4cfef_36 : decode cJ2_indexOf_4cfef 36 = .ok (.aload_n 0, 1) := by decide +kernel
theorem dJ2_indexOf_4cfef_37 : decode cJ2_indexOf_4cfef 37 = .ok (.iload_n 1, 1) := by decide +kernel
theorem dJ2_indexOf_4cfef_38 : decode cJ2_indexOf_4cfef 38 = .ok (.iload_n 2, 1) := by decide +kernel
theorem dJ2_indexOf_4cfef_39 : decode cJ2_indexOf_4cfef 39 = .ok (.iload_n 3, 1) := by decide +kernel
theorem dJ2_indexOf_4cfef_40 : decode cJ2_indexOf_4cfef 40 = .ok (.invokestatic 232, 3) := by decide +kernel
theorem dJ2_indexOf_4cfef_43 : decode cJ2_indexOf_4cfef 43 = .ok (.ireturn, 1) := by decide +kernel
theorem dJ2_indexOfChar_4cfef_0 : decode cJ2_indexOfChar_4cfef 0 = .ok (.iload_n 2, 1) := by decide +kernel
theorem dJ2_indexOfChar_4cfef_1 : decode cJ2_indexOfChar_4cfef 1 = .ok (.iload_n 3, 1) := by decide +kernel
theorem dJ2_indexOfChar_4cfef_2 : decode cJ2_indexOfChar_4cfef 2 = .ok (.aload_n 0, 1) := by decide +kernel
theorem dJ2_indexOfChar_4cfef_3 : decode cJ2_indexOfChar_4cfef 3 = .ok (.invokestatic 96, 3) := by decide +kernel
theorem dJ2_indexOfChar_4cfef_6 : decode cJ2_indexOfChar_4cfef 6 = .ok (.aload_n 0, 1) := by decide +kernel
theorem dJ2_indexOfChar_4cfef_7 : decode cJ2_indexOfChar_4cfef 7 = .ok (.iload_n 1, 1) := by decide +kernel
theorem dJ2_indexOfChar_4cfef_8 : decode cJ2_indexOfChar_4cfef 8 = .ok (.iload_n 2, 1) := by decide +kernel
theorem dJ2_indexOfChar_4cfef_9 : decode cJ2_indexOfChar_4cfef 9 = .ok (.iload_n 3, 1) := by decide +kernel
theorem dJ2_indexOfChar_4cfef_10 : decode cJ2_indexOfChar_4cfef 10 = .ok (.invokestatic 244, 3) := by decide +kernel
theorem dJ2_indexOfChar_4cfef_13 : decode cJ2_indexOfChar_4cfef 13 = .ok (.ireturn, 1) := by decide +kernel
theorem dJ2_indexOfCharUnsafe_4cfef_0 : decode cJ2_indexOfCharUnsafe_4cfef 0 = .ok (.iload_n 2, 1) := by decide +kernel
theorem dJ2_indexOfCharUnsafe_4cfef_1 : decode cJ2_indexOfCharUnsafe_4cfef 1 = .ok (.istore 4, 2) := by decide +kernel
theorem dJ2_indexOfCharUnsafe_4cfef_3 : decode cJ2_indexOfCharUnsafe_4cfef 3 = .ok (.iload 4, 2) := by decide +kernel
theorem dJ2_indexOfCharUnsafe_4cfef_5 : decode cJ2_indexOfCharUnsafe_4cfef 5 = .ok (.iload_n 3, 1) := by decide +kernel
theorem dJ2_indexOfCharUnsafe_4cfef_6 : decode cJ2_indexOfCharUnsafe_4cfef 6 = .ok (.if_icmp .ge 22, 3) := by decide +kernel
theorem dJ2_indexOfCharUnsafe_4cfef_9 : decode cJ2_indexOfCharUnsafe_4cfef 9 = .ok (.aload_n 0, 1) := by decide +kernel
theorem dJ2_indexOfCharUnsafe_4cfef_10 : decode cJ2_indexOfCharUnsafe_4cfef 10 = .ok (.iload 4, 2) := by decide +kernel
theorem dJ2_indexOfCharUnsafe_4cfef_12 : decode cJ2_indexOfCharUnsafe_4cfef 12 = .ok (.invokestatic 71, 3) := by decide +kernel
theorem dJ2_indexOfCharUnsafe_4cfef_15 : decode cJ2_indexOfCharUnsafe_4cfef 15 = .ok (.iload_n 1, 1) := by decide +kernel
theorem dJ2_indexOfCharUnsafe_4cfef_16 : decode cJ2_indexOfCharUnsafe_4cfef 16 = .ok (.if_icmp .ne 6, 3) := by decide +kernel
theorem dJ2_indexOfCharUnsafe_4cfef_19 : decode cJ2_indexOfCharUnsafe_4cfef 19 = .ok (.iload 4, 2) := by decide +kernel
theorem dJ2_indexOfCharUnsafe_4cfef_21 : decode cJ2_indexOfCharUnsafe_4cfef 21 = .ok (.ireturn, 1) := by decide +kernel
theorem dJ2_indexOfCharUnsafe_4cfef_22 : decode cJ2_indexOfCharUnsafe_4cfef 22 = .ok (.iinc 4 1, 3) := by decide +kernel
theorem dJ2_indexOfCharUnsafe_4cfef_25 : decode cJ2_indexOfCharUnsafe_4cfef 25 = .ok (.goto (-22), 3) := by decide +kernel
theorem dJ2_indexOfCharUnsafe_4cfef_28 : decode cJ2_indexOfCharUnsafe_4cfef 28 = .ok (.iconst (-1), 1) := by decide +kernel
theorem dJ2_indexOfCharUnsafe_4cfef_29 : decode cJ2_indexOfCharUnsafe_4cfef 29 = .ok (.ireturn, 1) := by decide +kernel
theorem dJ2_indexOfSupplementary_4cfef_0 : decode cJ2_indexOfSupplementary_4cfef 0 = .ok (.iload_n 1, 1) := by decide +kernel
theorem dJ2_indexOfSupplementary_4cfef_1 : decode cJ2_indexOfSupplementary_4cfef 1 = .ok (.invokestatic 164, 3) := by decide +kernel
theorem dJ2_indexOfSupplementary_4cfef_4 : decode cJ2_indexOfSupplementary_4cfef 4 = .ok (.ifCond .eq 65, 3) := by decide +kernel
theorem dJ2_indexOfSupplementary_4cfef_7 : decode cJ2_indexOfSupplementary_4cfef 7 = .ok (.iload_n 1, 1) := by decide +kernel
theorem dJ2_indexOfSupplementary_4cfef_8 : decode cJ2_indexOfSupplementary_4cfef 8 = .ok (.invokestatic 157, 3) := by decide +kernel
theorem dJ2_indexOfSupplementary_4cfef_11 : decode cJ2_indexOfSupplementary_4cfef 11 = .ok (.istore 4, 2) := by decide +kernel
theorem dJ2_indexOfSupplementary_4cfef_13 : decode cJ2_indexOfSupplementary_4cfef 13 = .ok (.iload_n 1, 1) := by decide +kernel
theorem dJ2_indexOfSupplementary_4cfef_14 : decode cJ2_indexOfSupplementary_4cfef 14 = .ok (.invokestatic 161, 3) := by decide +kernel
theorem dJ2_indexOfSupplementary_4cfef_17 : decode cJ2_indexOfSupplementary_4cfef 17 = .ok (.istore 5, 2) := by decide +kernel
theorem dJ2_indexOfSupplementary_4cfef_19 : decode cJ2_indexOfSupplementary_4cfef 19 = .ok (.iload_n 2, 1) := by decide +kernel
theorem dJ2_indexOfSupplementary_4cfef_20 : decode cJ2_indexOfSupplementary_4cfef 20 = .ok (.iload_n 3, 1) := by decide +kernel
theorem dJ2_indexOfSupplementary_4cfef_21 : decode cJ2_indexOfSupplementary_4cfef 21 = .ok (.aload_n 0, 1) := by decide +kernel
theorem dJ2_indexOfSupplementary_4cfef_22 : decode cJ2_indexOfSupplementary_4cfef 22 = .ok (.invokestatic 96, 3) := by decide +kernel
theorem dJ2_indexOfSupplementary_4cfef_25 : decode cJ2_indexOfSupplementary_4cfef 25 = .ok (.iload_n 2, 1) := by decide +kernel
theorem dJ2_indexOfSupplementary_4cfef_26 : decode cJ2_indexOfSupplementary_4cfef 26 = .ok (.istore 6, 2) := by decide +kernel
theorem dJ2_indexOfSupplementary_4cfef_28 : decode cJ2_indexOfSupplementary_4cfef 28 = .ok (.iload 6, 2) := by decide +kernel
theorem dJ2_indexOfSupplementary_4cfef_30 : decode cJ2_indexOfSupplementary_4cfef 30 = .ok (.iload_n 3, 1) := by decide +kernel
theorem dJ2_indexOfSupplementary_4cfef_31 : decode cJ2_indexOfSupplementary_4cfef 31 = .ok (.iconst 1, 1) := by decide +kernel
theorem dJ2_indexOfSupplementary_4cfef_32 : decode cJ2_indexOfSupplementary_4cfef 32 = .ok (.isub, 1) := by decide +kernel
theorem dJ2_indexOfSupplementary_4cfef_33 : decode cJ2_indexOfSupplementary_4cfef 33 = .ok (.if_icmp .ge 36, 3) := by decide +kernel
theorem dJ2_indexOfSupplementary_4cfef_36 : decode cJ2_indexOfSupplementary_4cfef 36 = .ok (.aload_n 0, 1) := by decide +kernel
theorem dJ2_indexOfSupplementary_4cfef_37 : decode cJ2_indexOfSupplementary_4cfef 37 = .ok (.iload 6, 2) := by decide +kernel
theorem dJ2_indexOfSupplementary_4cfef_39 : decode cJ2_indexOfSupplementary_4cfef 39 = .ok (.invokestatic 71, 3) := by decide +kernel
theorem dJ2_indexOfSupplementary_4cfef_42 : decode cJ2_indexOfSupplementary_4cfef 42 = .ok (.iload 4, 2) := by decide +kernel
theorem dJ2_indexOfSupplementary_4cfef_44 : decode cJ2_indexOfSupplementary_4cfef 44 = .ok (.if_icmp .ne 19, 3) := by decide +kernel
theorem dJ2_indexOfSupplementary_4cfef_47 : decode cJ2_indexOfSupplementary_4cfef 47 = .ok (.aload_n 0, 1) := by decide +kernel
theorem dJ2_indexOfSupplementary_4cfef_48 : decode cJ2_indexOfSupplementary_4cfef 48 = .ok (.iload 6, 2) := by decide +kernel
theorem dJ2_indexOfSupplementary_4cfef_50 : decode cJ2_indexOfSupplementary_4cfef 50 = .ok (.iconst 1, 1) := by decide +kernel
theorem dJ2_indexOfSupplementary_4cfef_51 : decode cJ2_indexOfSupplementary_4cfef 51 = .ok (.iadd, 1) := by decide +kernel
theorem dJ2_indexOfSupplementary_4cfef_52 : decode cJ2_indexOfSupplementary_4cfef 52 = .ok (.invokestatic 71, 3) := by decide +kernel
theorem dJ2_indexOfSupplementary_4cfef_55 : decode cJ2_indexOfSupplementary_4cfef 55 = .ok (.iload 5, 2) := by decide +kernel
theorem dJ2_indexOfSupplementary_4cfef_57 : decode cJ2_indexOfSupplementary_4cfef 57 = .ok (.if_icmp .ne 6, 3) := by decide +kernel
theorem dJ2_indexOfSupplementary_4cfef_60 : decode cJ2_indexOfSupplementary_4cfef 60 = .ok (.iload 6, 2) := by decide +kernel
theorem dJ2_indexOfSupplementary_4cfef_62 : decode cJ2_indexOfSupplementary_4cfef 62 = .ok (.ireturn, 1) := by decide +kernel
theorem dJ2_indexOfSupplementary_4cfef_63 : decode cJ2_indexOfSupplementary_4cfef 63 = .ok (.iinc 6 1, 3) := by decide +kernel
theorem dJ2_indexOfSupplementary_4cfef_66 : decode cJ2_indexOfSupplementary_4cfef 66 = .ok (.goto (-38), 3) := by decide +kernel
theorem dJ2_indexOfSupplementary_4cfef_69 : decode cJ2_indexOfSupplementary_4cfef 69 = .ok (.iconst (-1), 1) := by decide +kernel
theorem dJ2_indexOfSupplementary_4cfef_70 : decode cJ2_indexOfSupplementary_4cfef 70 = .ok (.ireturn, 1) := by decide +kernel
theorem dJ2_checkBoundsBeginEnd_d044e_0 : decode cJ2_checkBoundsBeginEnd_d044e 0 = .ok (.iload_n 0, 1) := by decide +kernel
theorem dJ2_checkBoundsBeginEnd_d044e_1 : decode cJ2_checkBoundsBeginEnd_d044e 1 = .ok (.iload_n 1, 1) := by decide +kernel
theorem dJ2_checkBoundsBeginEnd_d044e_2 : decode cJ2_checkBoundsBeginEnd_d044e 2 = .ok (.aload_n 2, 1) := by decide +kernel
theorem dJ2_checkBoundsBeginEnd_d044e_3 : decode cJ2_checkBoundsBeginEnd_d044e 3 = .ok (.invokestatic 48, 3) := by decide +kernel
theorem dJ2_checkBoundsBeginEnd_d044e_6 : decode cJ2_checkBoundsBeginEnd_d044e 6 = .ok (.invokestatic 241, 3) := by decide +kernel
theorem dJ2_checkBoundsBeginEnd_d044e_9 : decode cJ2_checkBoundsBeginEnd_d044e 9 = .ok (.return_, 1) := by decide +kernel
theorem dJ7_fill_53178_0 : decode cJ7_fill_53178 0 = .ok (.iconst 0, 1) := by decide +kernel
theorem dJ7_fill_53178_1 : decode cJ7_fill_53178 1 = .ok (.istore_n 2, 1) := by decide +kernel
theorem dJ7_fill_53178_2 : decode cJ7_fill_53178 2 = .ok (.aload_n 0, 1) := by decide +kernel
theorem dJ7_fill_53178_3 : decode cJ7_fill_53178 3 = .ok (.arraylength, 1) := by decide +kernel
theorem dJ7_fill_53178_4 : decode cJ7_fill_53178 4 = .ok (.istore_n 3, 1) := by decide +kernel
theorem dJ7_fill_53178_5 : decode cJ7_fill_53178 5 = .ok (.iload_n 2, 1) := by decide +kernel
theorem dJ7_fill_53178_6 : decode cJ7_fill_53178 6 = .ok (.iload_n 3, 1) := by decide +kernel
theorem dJ7_fill_53178_7 : decode cJ7_fill_53178 7 = .ok (.if_icmp .ge 13, 3) := by decide +kernel
theorem dJ7_fill_53178_10 : decode cJ7_fill_53178 10 = .ok (.aload_n 0, 1) := by decide +kernel
theorem dJ7_fill_53178_11 : decode cJ7_fill_53178 11 = .ok (.iload_n 2, 1) := by decide +kernel
theorem dJ7_fill_53178_12 : decode cJ7_fill_53178 12 = .ok (.iload_n 1, 1) := by decide +kernel
theorem dJ7_fill_53178_13 : decode cJ7_fill_53178 13 = .ok (.iastore, 1) := by decide +kernel
theorem dJ7_fill_53178_14 : decode cJ7_fill_53178 14 = .ok (.iinc 2 1, 3) := by decide +kernel
theorem dJ7_fill_53178_17 : decode cJ7_fill_53178 17 = .ok (.goto (-12), 3) := by decide +kernel
theorem dJ7_fill_53178_20 : decode cJ7_fill_53178 20 = .ok (.return_, 1) := by decide +kernel
theorem dJ3_checkFromToIndex_8c36e_0 : decode cJ3_checkFromToIndex_8c36e 0 = .ok (.iload_n 0, 1) := by decide +kernel
theorem dJ3_checkFromToIndex_8c36e_1 : decode cJ3_checkFromToIndex_8c36e 1 = .ok (.ifCond .lt 13, 3) := by decide +kernel
theorem dJ3_checkFromToIndex_8c36e_4 : decode cJ3_checkFromToIndex_8c36e 4 = .ok (.iload_n 0, 1) := by decide +kernel
theorem dJ3_checkFromToIndex_8c36e_5 : decode cJ3_checkFromToIndex_8c36e 5 = .ok (.iload_n 1, 1) := by decide +kernel
theorem dJ3_checkFromToIndex_8c36e_6 : decode cJ3_checkFromToIndex_8c36e 6 = .ok (.if_icmp .gt 8, 3) := by decide +kernel
theorem dJ3_checkFromToIndex_8c36e_9 : decode cJ3_checkFromToIndex_8c36e 9 = .ok (.iload_n 1, 1) := by decide +kernel
theorem dJ3_checkFromToIndex_8c36e_10 : decode cJ3_checkFromToIndex_8c36e 10 = .ok (.iload_n 2, 1) := by decide +kernel
theorem dJ3_checkFromToIndex_8c36e_11 : decode cJ3_checkFromToIndex_8c36e 11 = .ok (.if_icmp .le 11, 3) := by decide +kernel
theorem dJ3_checkFromToIndex_8c36e_14 : decode cJ3_checkFromToIndex_8c36e 14 = .ok (.aload_n 3, 1) := by decide +kernel
theorem dJ3_checkFromToIndex_8c36e_15 : decode cJ3_checkFromToIndex_8c36e 15 = .ok (.iload_n 0, 1) := by decide +kernel
theorem dJ3_checkFromToIndex_8c36e_16 : decode cJ3_checkFromToIndex_8c36e 16 = .ok (.iload_n 1, 1) := by decide +kernel
theorem dJ3_checkFromToIndex_8c36e_17 : decode cJ3_checkFromToIndex_8c36e 17 = .ok (.iload_n 2, 1) := by decide +kernel
theorem dJ3_checkFromToIndex_8c36e_18 : decode cJ3_checkFromToIndex_8c36e 18 = .ok (.invokestatic 99, 3) := by decide +kernel
theorem dJ3_checkFromToIndex_8c36e_21 : decode cJ3_checkFromToIndex_8c36e 21 = .ok (.athrow, 1) := by decide +kernel
theorem dJ3_checkFromToIndex_8c36e_22 : decode cJ3_checkFromToIndex_8c36e 22 = .ok (.iload_n 0, 1) := by decide +kernel
theorem dJ3_checkFromToIndex_8c36e_23 : decode cJ3_checkFromToIndex_8c36e 23 = .ok (.ireturn, 1) := by decide +kernel
