theorem dX4_lay_47 : decode cX4_lay 47 = .ok (.aaload, 1) := by decide +kernel
theorem dX4_lay_48 : decode cX4_lay 48 = .ok (.iload_n 3, 1) := by decide +kernel
theorem dX4_lay_49 : decode cX4_lay 49 = .ok (.iload 4, 2) := by decide +kernel
theorem dX4_lay_51 : decode cX4_lay 51 = .ok (.invokevirtual 231, 3) := by decide +kernel
theorem dX4_lay_54 : decode cX4_lay 54 = .ok (.iconst 1, 1) := by decide +kernel
theorem dX4_lay_55 : decode cX4_lay 55 = .ok (.ireturn, 1) := by decide +kernel
theorem dX4_get_0 : decode cX4_get 0 = .ok (.iload_n 1, 1) := by decide +kernel
theorem dX4_get_1 : decode cX4_get 1 = .ok (.invokestatic 120, 3) := by decide +kernel
theorem dX4_get_4 : decode cX4_get 4 = .ok (.ifCond .eq 10, 3) := by decide +kernel
theorem dX4_get_7 : decode cX4_get 7 = .ok (.iload_n 2, 1) := by decide +kernel
theorem dX4_get_8 : decode cX4_get 8 = .ok (.invokestatic 221, 3) := by decide +kernel
theorem dX4_get_11 : decode cX4_get 11 = .ok (.ifCond .ne 6, 3) := by decide +kernel
theorem dX4_get_14 : decode cX4_get 14 = .ok (.ldc 234, 2) := by decide +kernel
theorem dX4_get_16 : decode cX4_get 16 = .ok (.ireturn, 1) := by decide +kernel
theorem dX4_get_17 : decode cX4_get 17 = .ok (.aload_n 0, 1) := by decide +kernel
theorem dX4_get_18 : decode cX4_get 18 = .ok (.getfield 42, 3) := by decide +kernel
theorem dX4_get_21 : decode cX4_get 21 = .ok (.iload_n 1, 1) := by decide +kernel
theorem dX4_get_22 : decode cX4_get 22 = .ok (.aaload, 1) := by decide +kernel
theorem dX4_get_23 : decode cX4_get 23 = .ok (.iload_n 2, 1) := by decide +kernel
theorem dX4_get_24 : decode cX4_get 24 = .ok (.iload_n 3, 1) := by decide +kernel
theorem dX4_get_25 : decode cX4_get 25 = .ok (.invokevirtual 228, 3) := by decide +kernel
theorem dX4_get_28 : decode cX4_get 28 = .ok (.istore 4, 2) := by decide +kernel
theorem dX4_get_30 : decode cX4_get 30 = .ok (.iload 4, 2) := by decide +kernel
theorem dX4_get_32 : decode cX4_get 32 = .ok (.ifCond .eq 13, 3) := by decide +kernel
theorem dX4_get_35 : decode cX4_get 35 = .ok (.aload_n 0, 1) := by decide +kernel
theorem dX4_get_36 : decode cX4_get 36 = .ok (.iload 4, 2) := by decide +kernel
theorem dX4_get_38 : decode cX4_get 38 = .ok (.invokevirtual 126, 3) := by decide +kernel
theorem dX4_get_41 : decode cX4_get 41 = .ok (.pop, 1) := by decide +kernel
theorem dX4_get_42 : decode cX4_get 42 = .ok (.ldc 234, 2) := by decide +kernel
theorem dX4_get_44 : decode cX4_get 44 = .ok (.ireturn, 1) := by decide +kernel
theorem dX4_get_45 : decode cX4_get 45 = .ok (.aload_n 0, 1) := by decide +kernel
theorem dX4_get_46 : decode cX4_get 46 = .ok (.getfield 42, 3) := by decide +kernel
theorem dX4_get_49 : decode cX4_get 49 = .ok (.iload_n 1, 1) := by decide +kernel
theorem dX4_get_50 : decode cX4_get 50 = .ok (.aaload, 1) := by decide +kernel
theorem dX4_get_51 : decode cX4_get 51 = .ok (.getfield 130, 3) := by decide +kernel
theorem dX4_get_54 : decode cX4_get 54 = .ok (.iload_n 3, 1) := by decide +kernel
theorem dX4_get_55 : decode cX4_get 55 = .ok (.iaload, 1) := by decide +kernel
theorem dX4_get_56 : decode cX4_get 56 = .ok (.ireturn, 1) := by decide +kernel
theorem dX4_copy_0 : decode cX4_copy 0 = .ok (.iload_n 1, 1) := by decide +kernel
theorem dX4_copy_1 : decode cX4_copy 1 = .ok (.invokestatic 120, 3) := by decide +kernel
theorem dX4_copy_4 : decode cX4_copy 4 = .ok (.ifCond .eq 10, 3) := by decide +kernel
theorem dX4_copy_7 : decode cX4_copy 7 = .ok (.iload_n 3, 1) := by decide +kernel
theorem dX4_copy_8 : decode cX4_copy 8 = .ok (.invokestatic 120, 3) := by decide +kernel
theorem dX4_copy_11 : decode cX4_copy 11 = .ok (.ifCond .ne 6, 3) := by decide +kernel
theorem dX4_copy_14 : decode cX4_copy 14 = .ok (.bipush (-2), 2) := by decide +kernel
theorem dX4_copy_16 : decode cX4_copy 16 = .ok (.ireturn, 1) := by decide +kernel
theorem dX4_copy_17 : decode cX4_copy 17 = .ok (.aload_n 0, 1) := by decide +kernel
theorem dX4_copy_18 : decode cX4_copy 18 = .ok (.getfield 42, 3) := by decide +kernel
theorem dX4_copy_21 : decode cX4_copy 21 = .ok (.iload_n 1, 1) := by decide +kernel
theorem dX4_copy_22 : decode cX4_copy 22 = .ok (.aaload, 1) := by decide +kernel
theorem dX4_copy_23 : decode cX4_copy 23 = .ok (.astore 6, 2) := by decide +kernel
theorem dX4_copy_25 : decode cX4_copy 25 = .ok (.aload_n 0, 1) := by decide +kernel
theorem dX4_copy_26 : decode cX4_copy 26 = .ok (.getfield 42, 3) := by decide +kernel
theorem dX4_copy_29 : decode cX4_copy 29 = .ok (.iload_n 3, 1) := by decide +kernel
theorem dX4_copy_30 : decode cX4_copy 30 = .ok (.aaload, 1) := by decide +kernel
theorem dX4_copy_31 : decode cX4_copy 31 = .ok (.astore 7, 2) := by decide +kernel
theorem dX4_copy_33 : decode cX4_copy 33 = .ok (.aload 6, 2) := by decide +kernel
theorem dX4_copy_35 : decode cX4_copy 35 = .ok (.getfield 123, 3) := by decide +kernel
theorem dX4_copy_38 : decode cX4_copy 38 = .ok (.ifCond .ne 11, 3) := by decide +kernel
theorem dX4_copy_41 : decode cX4_copy 41 = .ok (.aload 7, 2) := by decide +kernel
theorem dX4_copy_43 : decode cX4_copy 43 = .ok (.getfield 123, 3) := by decide +kernel
theorem dX4_copy_46 : decode cX4_copy 46 = .ok (.ifCond .eq 9, 3) := by decide +kernel
theorem dX4_copy_49 : decode cX4_copy 49 = .ok (.aload_n 0, 1) := by decide +kernel
theorem dX4_copy_50 : decode cX4_copy 50 = .ok (.iconst 1, 1) := by decide +kernel
theorem dX4_copy_51 : decode cX4_copy 51 = .ok (.invokevirtual 126, 3) := by decide +kernel
theorem dX4_copy_54 : decode cX4_copy 54 = .ok (.ireturn, 1) := by decide +kernel
theorem dX4_copy_55 : decode cX4_copy 55 = .ok (.aload 6, 2) := by decide +kernel
theorem dX4_copy_57 : decode cX4_copy 57 = .ok (.getfield 235, 3) := by decide +kernel
theorem dX4_copy_60 : decode cX4_copy 60 = .ok (.aload 7, 2) := by decide +kernel
theorem dX4_copy_62 : decode cX4_copy 62 = .ok (.getfield 235, 3) := by decide +kernel
theorem dX4_copy_65 : decode cX4_copy 65 = .ok (.if_icmp .eq 9, 3) := by decide +kernel
theorem dX4_copy_68 : decode cX4_copy 68 = .ok (.aload_n 0, 1) := by decide +kernel
theorem dX4_copy_69 : decode cX4_copy 69 = .ok (.iconst 4, 1) := by decide +kernel
theorem dX4_copy_70 : decode cX4_copy 70 = .ok (.invokevirtual 126, 3) := by decide +kernel
theorem dX4_copy_73 : decode cX4_copy 73 = .ok (.ireturn, 1) := by decide +kernel
theorem dX4_copy_74 : decode cX4_copy 74 = .ok (.aload 6, 2) := by decide +kernel
theorem dX4_copy_76 : decode cX4_copy 76 = .ok (.iload_n 2, 1) := by decide +kernel
theorem dX4_copy_77 : decode cX4_copy 77 = .ok (.iload 5, 2) := by decide +kernel
theorem dX4_copy_79 : decode cX4_copy 79 = .ok (.invokevirtual 238, 3) := by decide +kernel
theorem dX4_copy_82 : decode cX4_copy 82 = .ok (.ifCond .eq 15, 3) := by decide +kernel
theorem dX4_copy_85 : decode cX4_copy 85 = .ok (.aload 7, 2) := by decide +kernel
theorem dX4_copy_87 : decode cX4_copy 87 = .ok (.iload 4, 2) := by decide +kernel
theorem dX4_copy_89 : decode cX4_copy 89 = .ok (.iload 5, 2) := by decide +kernel
theorem dX4_copy_91 : decode cX4_copy 91 = .ok (.invokevirtual 238, 3) := by decide +kernel
theorem dX4_copy_94 : decode cX4_copy 94 = .ok (.ifCond .ne 9, 3) := by decide +kernel
theorem dX4_copy_97 : decode cX4_copy 97 = .ok (.aload_n 0, 1) := by decide +kernel
theorem dX4_copy_98 : decode cX4_copy 98 = .ok (.iconst 2, 1) := by decide +kernel
theorem dX4_copy_99 : decode cX4_copy 99 = .ok (.invokevirtual 126, 3) := by decide +kernel
theorem dX4_copy_102 : decode cX4_copy 102 = .ok (.ireturn, 1) := by decide +kernel
theorem dX4_copy_103 : decode cX4_copy 103 = .ok (.aload 6, 2) := by decide +kernel
theorem dX4_copy_105 : decode cX4_copy 105 = .ok (.getfield 130, 3) := by decide +kernel
theorem dX4_copy_108 : decode cX4_copy 108 = .ok (.iload_n 2, 1) := by decide +kernel
theorem dX4_copy_109 : decode cX4_copy 109 = .ok (.aload 7, 2) := by decide +kernel
theorem dX4_copy_111 : decode cX4_copy 111 = .ok (.getfield 130, 3) := by decide +kernel
theorem dX4_copy_114 : decode cX4_copy 114 = .ok (.iload 4, 2) := by decide +kernel
theorem dX4_copy_116 : decode cX4_copy 116 = .ok (.iload 5, 2) := by decide +kernel
theorem dX4_copy_118 : decode cX4_copy 118 = .ok (.invokestatic 241, 3) := by decide +kernel
theorem dX4_copy_121 : decode cX4_copy 121 = .ok (.iconst 1, 1) := by decide +kernel
theorem dX4_copy_122 : decode cX4_copy 122 = .ok (.ireturn, 1) := by decide +kernel
theorem dX4_write_0 : decode cX4_write 0 = .ok (.iload_n 1, 1) := by decide +kernel
theorem dX4_write_1 : decode cX4_write 1 = .ok (.invokestatic 140, 3) := by decide +kernel
theorem dX4_write_4 : decode cX4_write 4 = .ok (.ifCond .eq 10, 3) := by decide +kernel
theorem dX4_write_7 : decode cX4_write 7 = .ok (.iload_n 2, 1) := by decide +kernel
theorem dX4_write_8 : decode cX4_write 8 = .ok (.invokestatic 120, 3) := by decide +kernel
theorem dX4_write_11 : decode cX4_write 11 = .ok (.ifCond .ne 6, 3) := by decide +kernel
theorem dX4_write_14 : decode cX4_write 14 = .ok (.bipush (-2), 2) := by decide +kernel
theorem dX4_write_16 : decode cX4_write 16 = .ok (.ireturn, 1) := by decide +kernel
theorem dX4_write_17 : decode cX4_write 17 = .ok (.aload_n 0, 1) := by decide +kernel
theorem dX4_write_18 : decode cX4_write 18 = .ok (.getfield 42, 3) := by decide +kernel
theorem dX4_write_21 : decode cX4_write 21 = .ok (.iload_n 2, 1) := by decide +kernel
theorem dX4_write_22 : decode cX4_write 22 = .ok (.aaload, 1) := by decide +kernel
theorem dX4_write_23 : decode cX4_write 23 = .ok (.astore_n 3, 1) := by decide +kernel
theorem dX4_write_24 : decode cX4_write 24 = .ok (.aload_n 3, 1) := by decide +kernel
theorem dX4_write_25 : decode cX4_write 25 = .ok (.getfield 123, 3) := by decide +kernel
theorem dX4_write_28 : decode cX4_write 28 = .ok (.ifCond .eq 9, 3) := by decide +kernel
theorem dX4_write_31 : decode cX4_write 31 = .ok (.aload_n 0, 1) := by decide +kernel
theorem dX4_write_32 : decode cX4_write 32 = .ok (.iconst 1, 1) := by decide +kernel
theorem dX4_write_33 : decode cX4_write 33 = .ok (.invokevirtual 126, 3) := by decide +kernel
theorem dX4_write_36 : decode cX4_write 36 = .ok (.ireturn, 1) := by decide +kernel
theorem dX4_write_37 : decode cX4_write 37 = .ok (.aload_n 0, 1) := by decide +kernel
theorem dX4_write_38 : decode cX4_write 38 = .ok (.invokevirtual 143, 3) := by decide +kernel
theorem dX4_write_41 : decode cX4_write 41 = .ok (.iconst 0, 1) := by decide +kernel
theorem dX4_write_42 : decode cX4_write 42 = .ok (.istore 4, 2) := by decide +kernel
theorem dX4_write_44 : decode cX4_write 44 = .ok (.iload 4, 2) := by decide +kernel
theorem dX4_write_46 : decode cX4_write 46 = .ok (.aload_n 3, 1) := by decide +kernel
theorem dX4_write_47 : decode cX4_write 47 = .ok (.getfield 129, 3) := by decide +kernel
theorem dX4_write_50 : decode cX4_write 50 = .ok (.if_icmp .ge 49, 3) := by decide +kernel
theorem dX4_write_53 : decode cX4_write 53 = .ok (.iload 4, 2) := by decide +kernel
theorem dX4_write_55 : decode cX4_write 55 = .ok (.bipush 60, 2) := by decide +kernel
theorem dX4_write_57 : decode cX4_write 57 = .ok (.if_icmp .ge 42, 3) := by decide +kernel
theorem dX4_write_60 : decode cX4_write 60 = .ok (.aload_n 3, 1) := by decide +kernel
theorem dX4_write_61 : decode cX4_write 61 = .ok (.iload 4, 2) := by decide +kernel
theorem dX4_write_63 : decode cX4_write 63 = .ok (.iload_n 1, 1) := by decide +kernel
theorem dX4_write_64 : decode cX4_write 64 = .ok (.ifCond .ne 16, 3) := by decide +kernel
theorem dX4_write_67 : decode cX4_write 67 = .ok (.aload_n 0, 1) := by decide +kernel
theorem dX4_write_68 : decode cX4_write 68 = .ok (.getfield 52, 3) := by decide +kernel
theorem dX4_write_71 : decode cX4_write 71 = .ok (.getfield 146, 3) := by decide +kernel
theorem dX4_write_74 : decode cX4_write 74 = .ok (.iload 4, 2) := by decide +kernel
theorem dX4_write_76 : decode cX4_write 76 = .ok (.iaload, 1) := by decide +kernel
theorem dX4_write_77 : decode cX4_write 77 = .ok (.goto 13, 3) := by decide +kernel
theorem dX4_write_80 : decode cX4_write 80 = .ok (.aload_n 0, 1) := by decide +kernel
theorem dX4_write_81 : decode cX4_write 81 = .ok (.getfield 52, 3) := by decide +kernel
theorem dX4_write_84 : decode cX4_write 84 = .ok (.getfield 149, 3) := by decide +kernel
theorem dX4_write_87 : decode cX4_write 87 = .ok (.iload 4, 2) := by decide +kernel
theorem dX4_write_89 : decode cX4_write 89 = .ok (.iaload, 1) := by decide +kernel
theorem dX4_write_90 : decode cX4_write 90 = .ok (.invokevirtual 231, 3) := by decide +kernel
theorem dX4_write_93 : decode cX4_write 93 = .ok (.iinc 4 1, 3) := by decide +kernel
theorem dX4_write_96 : decode cX4_write 96 = .ok (.goto (-52), 3) := by decide +kernel
theorem dX4_write_99 : decode cX4_write 99 = .ok (.aload_n 3, 1) := by decide +kernel
theorem dX4_write_100 : decode cX4_write 100 = .ok (.getfield 129, 3) := by decide +kernel
theorem dX4_write_103 : decode cX4_write 103 = .ok (.ireturn, 1) := by decide +kernel
theorem dX4_count_0 : decode cX4_count 0 = .ok (.iload_n 1, 1) := by decide +kernel
theorem dX4_count_1 : decode cX4_count 1 = .ok (.tableswitch 121 0 8 #[51, 59, 67, 75, 80, 85, 93, 107, 116], 51) := by decide +kernel
theorem dX4_count_52 : decode cX4_count 52 = .ok (.aload_n 0, 1) := by decide +kernel
theorem dX4_count_53 : decode cX4_count 53 = .ok (.getfield 12, 3) := by decide +kernel
theorem dX4_count_56 : decode cX4_count 56 = .ok (.getfield 173, 3) := by decide +kernel
theorem dX4_count_59 : decode cX4_count 59 = .ok (.ireturn, 1) := by decide +kernel
theorem dX4_count_60 : decode cX4_count 60 = .ok (.aload_n 0, 1) := by decide +kernel
theorem dX4_count_61 : decode cX4_count 61 = .ok (.getfield 12, 3) := by decide +kernel
theorem dX4_count_64 : decode cX4_count 64 = .ok (.getfield 76, 3) := by decide +kernel
theorem dX4_count_67 : decode cX4_count 67 = .ok (.ireturn, 1) := by decide +kernel
theorem dX4_count_68 : decode cX4_count 68 = .ok (.aload_n 0, 1) := by decide +kernel
theorem dX4_count_69 : decode cX4_count 69 = .ok (.getfield 27, 3) := by decide +kernel
theorem dX4_count_72 : decode cX4_count 72 = .ok (.getfield 113, 3) := by decide +kernel
theorem dX4_count_75 : decode cX4_count 75 = .ok (.ireturn, 1) := by decide +kernel
theorem dX4_count_76 : decode cX4_count 76 = .ok (.aload_n 0, 1) := by decide +kernel
theorem dX4_count_77 : decode cX4_count 77 = .ok (.getfield 37, 3) := by decide +kernel
theorem dX4_count_80 : decode cX4_count 80 = .ok (.ireturn, 1) := by decide +kernel
theorem dX4_count_81 : decode cX4_count 81 = .ok (.aload_n 0, 1) := by decide +kernel
theorem dX4_count_82 : decode cX4_count 82 = .ok (.getfield 20, 3) := by decide +kernel
theorem dX4_count_85 : decode cX4_count 85 = .ok (.ireturn, 1) := by decide +kernel
theorem dX4_count_86 : decode cX4_count 86 = .ok (.aload_n 0, 1) := by decide +kernel
theorem dX4_count_87 : decode cX4_count 87 = .ok (.getfield 12, 3) := by decide +kernel
theorem dX4_count_90 : decode cX4_count 90 = .ok (.invokevirtual 247, 3) := by decide +kernel
theorem dX4_count_93 : decode cX4_count 93 = .ok (.ireturn, 1) := by decide +kernel
theorem dX4_count_94 : decode cX4_count 94 = .ok (.aload_n 0, 1) := by decide +kernel
theorem dX4_count_95 : decode cX4_count 95 = .ok (.invokevirtual 143, 3) := by decide +kernel
theorem dX4_count_98 : decode cX4_count 98 = .ok (.aload_n 0, 1) := by decide +kernel
theorem dX4_count_99 : decode cX4_count 99 = .ok (.getfield 52, 3) := by decide +kernel
theorem dX4_count_102 : decode cX4_count 102 = .ok (.bipush 59, 2) := by decide +kernel
theorem dX4_count_104 : decode cX4_count 104 = .ok (.invokevirtual 218, 3) := by decide +kernel
theorem dX4_count_107 : decode cX4_count 107 = .ok (.ireturn, 1) := by decide +kernel
theorem dX4_count_108 : decode cX4_count 108 = .ok (.aload_n 0, 1) := by decide +kernel
theorem dX4_count_109 : decode cX4_count 109 = .ok (.getfield 12, 3) := by decide +kernel
theorem dX4_count_112 : decode cX4_count 112 = .ok (.iconst 4, 1) := by decide +kernel
theorem dX4_count_113 : decode cX4_count 113 = .ok (.invokevirtual 250, 3) := by decide +kernel
theorem dX4_count_116 : decode cX4_count 116 = .ok (.ireturn, 1) := by decide +kernel
theorem dX4_count_117 : decode cX4_count 117 = .ok (.aload_n 0, 1) := by decide +kernel
theorem dX4_count_118 : decode cX4_count 118 = .ok (.getfield 46, 3) := by decide +kernel
theorem dX4_count_121 : decode cX4_count 121 = .ok (.ireturn, 1) := by decide +kernel
theorem dX4_count_122 : decode cX4_count 122 = .ok (.bipush (-2), 2) := by decide +kernel
theorem dX4_count_124 : decode cX4_count 124 = .ok (.ireturn, 1) := by decide +kernel
theorem dX4_digest_0 : decode cX4_digest 0 = .ok (.ldc2_w 253, 3) := by decide +kernel
theorem dX4_digest_3 : decode cX4_digest 3 = .ok (.lstore_n 1, 1) := by decide +kernel
theorem dX4_digest_4 : decode cX4_digest 4 = .ok (.iconst 0, 1) := by decide +kernel
theorem dX4_digest_5 : decode cX4_digest 5 = .ok (.istore_n 3, 1) := by decide +kernel
theorem dX4_digest_6 : decode cX4_digest 6 = .ok (.iload_n 3, 1) := by decide +kernel
theorem dX4_digest_7 : decode cX4_digest 7 = .ok (.bipush 7, 2) := by decide +kernel
theorem dX4_digest_9 : decode cX4_digest 9 = .ok (.if_icmp .gt 22, 3) := by decide +kernel
theorem dX4_digest_12 : decode cX4_digest 12 = .ok (.ldc2_w 255, 3) := by decide +kernel
theorem dX4_digest_15 : decode cX4_digest 15 = .ok (.lload_n 1, 1) := by decide +kernel
theorem dX4_digest_16 : decode cX4_digest 16 = .ok (.lmul, 1) := by decide +kernel
theorem dX4_digest_17 : decode cX4_digest 17 = .ok (.aload_n 0, 1) := by decide +kernel
theorem dX4_digest_18 : decode cX4_digest 18 = .ok (.iload_n 3, 1) := by decide +kernel
theorem dX4_digest_19 : decode cX4_digest 19 = .ok (.invokevirtual 257, 3) := by decide +kernel
theorem dX4_digest_22 : decode cX4_digest 22 = .ok (.i2l, 1) := by decide +kernel
theorem dX4_digest_23 : decode cX4_digest 23 = .ok (.ladd, 1) := by decide +kernel
theorem dX4_digest_24 : decode cX4_digest 24 = .ok (.lstore_n 1, 1) := by decide +kernel
theorem dX4_digest_25 : decode cX4_digest 25 = .ok (.iinc 3 1, 3) := by decide +kernel
theorem dX4_digest_28 : decode cX4_digest 28 = .ok (.goto (-22), 3) := by decide +kernel
theorem dX4_digest_31 : decode cX4_digest 31 = .ok (.ldc2_w 255, 3) := by decide +kernel
theorem dX4_digest_34 : decode cX4_digest 34 = .ok (.lload_n 1, 1) := by decide +kernel
theorem dX4_digest_35 : decode cX4_digest 35 = .ok (.lmul, 1) := by decide +kernel
theorem dX4_digest_36 : decode cX4_digest 36 = .ok (.aload_n 0, 1) := by decide +kernel
theorem dX4_digest_37 : decode cX4_digest 37 = .ok (.invokevirtual 259, 3) := by decide +kernel
theorem dX4_digest_40 : decode cX4_digest 40 = .ok (.i2l, 1) := by decide +kernel
theorem dX4_digest_41 : decode cX4_digest 41 = .ok (.ladd, 1) := by decide +kernel
theorem dX4_digest_42 : decode cX4_digest 42 = .ok (.lstore_n 1, 1) := by decide +kernel
theorem dX4_digest_43 : decode cX4_digest 43 = .ok (.iconst 0, 1) := by decide +kernel
theorem dX4_digest_44 : decode cX4_digest 44 = .ok (.istore_n 3, 1) := by decide +kernel
theorem dX4_digest_45 : decode cX4_digest 45 = .ok (.iload_n 3, 1) := by decide +kernel
theorem dX4_digest_46 : decode cX4_digest 46 = .ok (.bipush 9, 2) := by decide +kernel
theorem dX4_digest_48 : decode cX4_digest 48 = .ok (.if_icmp .ge 22, 3) := by decide +kernel
theorem dX4_digest_51 : decode cX4_digest 51 = .ok (.ldc2_w 255, 3) := by decide +kernel
theorem dX4_digest_54 : decode cX4_digest 54 = .ok (.lload_n 1, 1) := by decide +kernel
theorem dX4_digest_55 : decode cX4_digest 55 = .ok (.lmul, 1) := by decide +kernel
theorem dX4_digest_56 : decode cX4_digest 56 = .ok (.aload_n 0, 1) := by decide +kernel
theorem dX4_digest_57 : decode cX4_digest 57 = .ok (.iload_n 3, 1) := by decide +kernel
theorem dX4_digest_58 : decode cX4_digest 58 = .ok (.invokevirtual 261, 3) := by decide +kernel
theorem dX4_digest_61 : decode cX4_digest 61 = .ok (.i2l, 1) := by decide +kernel
theorem dX4_digest_62 : decode cX4_digest 62 = .ok (.ladd, 1) := by decide +kernel
theorem dX4_digest_63 : decode cX4_digest 63 = .ok (.lstore_n 1, 1) := by decide +kernel
theorem dX4_digest_64 : decode cX4_digest 64 = .ok (.iinc 3 1, 3) := by decide +kernel
theorem dX4_digest_67 : decode cX4_digest 67 = .ok (.goto (-22), 3) := by decide +kernel
theorem dX4_digest_70 : decode cX4_digest 70 = .ok (.iconst 0, 1) := by decide +kernel
theorem dX4_digest_71 : decode cX4_digest 71 = .ok (.istore_n 3, 1) := by decide +kernel
theorem dX4_digest_72 : decode cX4_digest 72 = .ok (.iload_n 3, 1) := by decide +kernel
theorem dX4_digest_73 : decode cX4_digest 73 = .ok (.aload_n 0, 1) := by decide +kernel
theorem dX4_digest_74 : decode cX4_digest 74 = .ok (.getfield 12, 3) := by decide +kernel
theorem dX4_digest_77 : decode cX4_digest 77 = .ok (.getfield 173, 3) := by decide +kernel
theorem dX4_digest_80 : decode cX4_digest 80 = .ok (.if_icmp .ge 16, 3) := by decide +kernel
theorem dX4_digest_83 : decode cX4_digest 83 = .ok (.aload_n 0, 1) := by decide +kernel
theorem dX4_digest_84 : decode cX4_digest 84 = .ok (.lload_n 1, 1) := by decide +kernel
theorem dX4_digest_85 : decode cX4_digest 85 = .ok (.iload_n 3, 1) := by decide +kernel
theorem dX4_digest_86 : decode cX4_digest 86 = .ok (.invokevirtual 264, 3) := by decide +kernel
theorem dX4_digest_89 : decode cX4_digest 89 = .ok (.lstore_n 1, 1) := by decide +kernel
theorem dX4_digest_90 : decode cX4_digest 90 = .ok (.iinc 3 1, 3) := by decide +kernel
theorem dX4_digest_93 : decode cX4_digest 93 = .ok (.goto (-21), 3) := by decide +kernel
theorem dX4_digest_96 : decode cX4_digest 96 = .ok (.getstatic 268, 3) := by decide +kernel
theorem dX4_digest_99 : decode cX4_digest 99 = .ok (.astore_n 3, 1) := by decide +kernel
theorem dX4_digest_100 : decode cX4_digest 100 = .ok (.aload_n 3, 1) := by decide +kernel
theorem dX4_digest_101 : decode cX4_digest 101 = .ok (.arraylength, 1) := by decide +kernel
theorem dX4_digest_102 : decode cX4_digest 102 = .ok (.istore 4, 2) := by decide +kernel
theorem dX4_digest_104 : decode cX4_digest 104 = .ok (.iconst 0, 1) := by decide +kernel
theorem dX4_digest_105 : decode cX4_digest 105 = .ok (.istore 5, 2) := by decide +kernel
theorem dX4_digest_107 : decode cX4_digest 107 = .ok (.iload 5, 2) := by decide +kernel
theorem dX4_digest_109 : decode cX4_digest 109 = .ok (.iload 4, 2) := by decide +kernel
theorem dX4_digest_111 : decode cX4_digest 111 = .ok (.if_icmp .ge 45, 3) := by decide +kernel
theorem dX4_digest_114 : decode cX4_digest 114 = .ok (.aload_n 3, 1) := by decide +kernel
theorem dX4_digest_115 : decode cX4_digest 115 = .ok (.iload 5, 2) := by decide +kernel
theorem dX4_digest_117 : decode cX4_digest 117 = .ok (.iaload, 1) := by decide +kernel
theorem dX4_digest_118 : decode cX4_digest 118 = .ok (.istore 6, 2) := by decide +kernel
theorem dX4_digest_120 : decode cX4_digest 120 = .ok (.ldc2_w 255, 3) := by decide +kernel
theorem dX4_digest_123 : decode cX4_digest 123 = .ok (.lload_n 1, 1) := by decide +kernel
theorem dX4_digest_124 : decode cX4_digest 124 = .ok (.lmul, 1) := by decide +kernel
theorem dX4_digest_125 : decode cX4_digest 125 = .ok (.aload_n 0, 1) := by decide +kernel
theorem dX4_digest_126 : decode cX4_digest 126 = .ok (.iload 6, 2) := by decide +kernel
theorem dX4_digest_128 : decode cX4_digest 128 = .ok (.iconst 0, 1) := by decide +kernel
theorem dX4_digest_129 : decode cX4_digest 129 = .ok (.invokevirtual 271, 3) := by decide +kernel
theorem dX4_digest_132 : decode cX4_digest 132 = .ok (.i2l, 1) := by decide +kernel
theorem dX4_digest_133 : decode cX4_digest 133 = .ok (.ladd, 1) := by decide +kernel
theorem dX4_digest_134 : decode cX4_digest 134 = .ok (.lstore_n 1, 1) := by decide +kernel
theorem dX4_digest_135 : decode cX4_digest 135 = .ok (.ldc2_w 255, 3) := by decide +kernel
theorem dX4_digest_138 : decode cX4_digest 138 = .ok (.lload_n 1, 1) := by decide +kernel
theorem dX4_digest_139 : decode cX4_digest 139 = .ok (.lmul, 1) := by decide +kernel
theorem dX4_digest_140 : decode cX4_digest 140 = .ok (.aload_n 0, 1) := by decide +kernel
theorem dX4_digest_141 : decode cX4_digest 141 = .ok (.iload 6, 2) := by decide +kernel
theorem dX4_digest_143 : decode cX4_digest 143 = .ok (.iconst 1, 1) := by decide +kernel
theorem dX4_digest_144 : decode cX4_digest 144 = .ok (.invokevirtual 271, 3) := by decide +kernel
theorem dX4_digest_147 : decode cX4_digest 147 = .ok (.i2l, 1) := by decide +kernel
theorem dX4_digest_148 : decode cX4_digest 148 = .ok (.ladd, 1) := by decide +kernel
theorem dX4_digest_149 : decode cX4_digest 149 = .ok (.lstore_n 1, 1) := by decide +kernel
theorem dX4_digest_150 : decode cX4_digest 150 = .ok (.iinc 5 1, 3) := by decide +kernel
theorem dX4_digest_153 : decode cX4_digest 153 = .ok (.goto (-46), 3) := by decide +kernel
theorem dX4_digest_156 : decode cX4_digest 156 = .ok (.ldc2_w 255, 3) := by decide +kernel
theorem dX4_digest_159 : decode cX4_digest 159 = .ok (.lload_n 1, 1) := by decide +kernel
theorem dX4_digest_160 : decode cX4_digest 160 = .ok (.lmul, 1) := by decide +kernel
theorem dX4_digest_161 : decode cX4_digest 161 = .ok (.aload_n 0, 1) := by decide +kernel
theorem dX4_digest_162 : decode cX4_digest 162 = .ok (.invokevirtual 274, 3) := by decide +kernel
theorem dX4_digest_165 : decode cX4_digest 165 = .ok (.i2l, 1) := by decide +kernel
theorem dX4_digest_166 : decode cX4_digest 166 = .ok (.ladd, 1) := by decide +kernel
theorem dX4_digest_167 : decode cX4_digest 167 = .ok (.lstore_n 1, 1) := by decide +kernel
theorem dX4_digest_168 : decode cX4_digest 168 = .ok (.ldc2_w 255, 3) := by decide +kernel
theorem dX4_digest_171 : decode cX4_digest 171 = .ok (.lload_n 1, 1) := by decide +kernel
theorem dX4_digest_172 : decode cX4_digest 172 = .ok (.lmul, 1) := by decide +kernel
theorem dX4_digest_173 : decode cX4_digest 173 = .ok (.aload_n 0, 1) := by decide +kernel
theorem dX4_digest_174 : decode cX4_digest 174 = .ok (.iconst 0, 1) := by decide +kernel
theorem dX4_digest_175 : decode cX4_digest 175 = .ok (.invokevirtual 277, 3) := by decide +kernel
theorem dX4_digest_178 : decode cX4_digest 178 = .ok (.i2l, 1) := by decide +kernel
theorem dX4_digest_179 : decode cX4_digest 179 = .ok (.ladd, 1) := by decide +kernel
theorem dX4_digest_180 : decode cX4_digest 180 = .ok (.lstore_n 1, 1) := by decide +kernel
theorem dX4_digest_181 : decode cX4_digest 181 = .ok (.ldc2_w 255, 3) := by decide +kernel
theorem dX4_digest_184 : decode cX4_digest 184 = .ok (.lload_n 1, 1) := by decide +kernel
theorem dX4_digest_185 : decode cX4_digest 185 = .ok (.lmul, 1) := by decide +kernel
theorem dX4_digest_186 : decode cX4_digest 186 = .ok (.aload_n 0, 1) := by decide +kernel
theorem dX4_digest_187 : decode cX4_digest 187 = .ok (.iconst 1, 1) := by decide +kernel
theorem dX4_digest_188 : decode cX4_digest 188 = .ok (.invokevirtual 277, 3) := by decide +kernel
theorem dX4_digest_191 : decode cX4_digest 191 = .ok (.i2l, 1) := by decide +kernel
theorem dX4_digest_192 : decode cX4_digest 192 = .ok (.ladd, 1) := by decide +kernel
theorem dX4_digest_193 : decode cX4_digest 193 = .ok (.lstore_n 1, 1) := by decide +kernel
theorem dX4_digest_194 : decode cX4_digest 194 = .ok (.ldc2_w 255, 3) := by decide +kernel
theorem dX4_digest_197 : decode cX4_digest 197 = .ok (.lload_n 1, 1) := by decide +kernel
theorem dX4_digest_198 : decode cX4_digest 198 = .ok (.lmul, 1) := by decide +kernel
theorem dX4_digest_199 : decode cX4_digest 199 = .ok (.aload_n 0, 1) := by decide +kernel
theorem dX4_digest_200 : decode cX4_digest 200 = .ok (.iconst 0, 1) := by decide +kernel
theorem dX4_digest_201 : decode cX4_digest 201 = .ok (.iconst 0, 1) := by decide +kernel
theorem dX4_digest_202 : decode cX4_digest 202 = .ok (.iconst 1, 1) := by decide +kernel
theorem dX4_digest_203 : decode cX4_digest 203 = .ok (.invokevirtual 280, 3) := by decide +kernel
theorem dX4_digest_206 : decode cX4_digest 206 = .ok (.i2l, 1) := by decide +kernel
theorem dX4_digest_207 : decode cX4_digest 207 = .ok (.ladd, 1) := by decide +kernel
theorem dX4_digest_208 : decode cX4_digest 208 = .ok (.lstore_n 1, 1) := by decide +kernel
theorem dX4_digest_209 : decode cX4_digest 209 = .ok (.ldc2_w 255, 3) := by decide +kernel
theorem dX4_digest_212 : decode cX4_digest 212 = .ok (.lload_n 1, 1) := by decide +kernel
theorem dX4_digest_213 : decode cX4_digest 213 = .ok (.lmul, 1) := by decide +kernel
theorem dX4_digest_214 : decode cX4_digest 214 = .ok (.aload_n 0, 1) := by decide +kernel
theorem dX4_digest_215 : decode cX4_digest 215 = .ok (.bipush 9, 2) := by decide +kernel
theorem dX4_digest_217 : decode cX4_digest 217 = .ok (.iconst 0, 1) := by decide +kernel
theorem dX4_digest_218 : decode cX4_digest 218 = .ok (.invokevirtual 283, 3) := by decide +kernel
theorem dX4_digest_221 : decode cX4_digest 221 = .ok (.i2l, 1) := by decide +kernel
theorem dX4_digest_222 : decode cX4_digest 222 = .ok (.ladd, 1) := by decide +kernel
theorem dX4_digest_223 : decode cX4_digest 223 = .ok (.lstore_n 1, 1) := by decide +kernel
theorem dX4_digest_224 : decode cX4_digest 224 = .ok (.ldc2_w 255, 3) := by decide +kernel
theorem dX4_digest_227 : decode cX4_digest 227 = .ok (.lload_n 1, 1) := by decide +kernel
theorem dX4_digest_228 : decode cX4_digest 228 = .ok (.lmul, 1) := by decide +kernel
theorem dX4_digest_229 : decode cX4_digest 229 = .ok (.aload_n 0, 1) := by decide +kernel
theorem dX4_digest_230 : decode cX4_digest 230 = .ok (.bipush 9, 2) := by decide +kernel
theorem dX4_digest_232 : decode cX4_digest 232 = .ok (.iconst 1, 1) := by decide +kernel
theorem dX4_digest_233 : decode cX4_digest 233 = .ok (.invokevirtual 283, 3) := by decide +kernel
theorem dX4_digest_236 : decode cX4_digest 236 = .ok (.i2l, 1) := by decide +kernel
theorem dX4_digest_237 : decode cX4_digest 237 = .ok (.ladd, 1) := by decide +kernel
theorem dX4_digest_238 : decode cX4_digest 238 = .ok (.lstore_n 1, 1) := by decide +kernel
theorem dX4_digest_239 : decode cX4_digest 239 = .ok (.iconst 0, 1) := by decide +kernel
theorem dX4_digest_240 : decode cX4_digest 240 = .ok (.istore_n 3, 1) := by decide +kernel
theorem dX4_digest_241 : decode cX4_digest 241 = .ok (.iload_n 3, 1) := by decide +kernel
theorem dX4_digest_242 : decode cX4_digest 242 = .ok (.iconst 1, 1) := by decide +kernel
theorem dX4_digest_243 : decode cX4_digest 243 = .ok (.if_icmp .gt 39, 3) := by decide +kernel
theorem dX4_digest_246 : decode cX4_digest 246 = .ok (.ldc2_w 255, 3) := by decide +kernel
theorem dX4_digest_249 : decode cX4_digest 249 = .ok (.lload_n 1, 1) := by decide +kernel
theorem dX4_digest_250 : decode cX4_digest 250 = .ok (.lmul, 1) := by decide +kernel
theorem dX4_digest_251 : decode cX4_digest 251 = .ok (.aload_n 0, 1) := by decide +kernel
theorem dX4_digest_252 : decode cX4_digest 252 = .ok (.iconst 3, 1) := by decide +kernel
theorem dX4_digest_253 : decode cX4_digest 253 = .ok (.iload_n 3, 1) := by decide +kernel
theorem dX4_digest_254 : decode cX4_digest 254 = .ok (.iconst (-1), 1) := by decide +kernel
theorem dX4_digest_255 : decode cX4_digest 255 = .ok (.invokevirtual 286, 3) := by decide +kernel
theorem dX4_digest_258 : decode cX4_digest 258 = .ok (.i2l, 1) := by decide +kernel
theorem dX4_digest_259 : decode cX4_digest 259 = .ok (.ladd, 1) := by decide +kernel
theorem dX4_digest_260 : decode cX4_digest 260 = .ok (.lstore_n 1, 1) := by decide +kernel
theorem dX4_digest_261 : decode cX4_digest 261 = .ok (.ldc2_w 255, 3) := by decide +kernel
theorem dX4_digest_264 : decode cX4_digest 264 = .ok (.lload_n 1, 1) := by decide +kernel
theorem dX4_digest_265 : decode cX4_digest 265 = .ok (.lmul, 1) := by decide +kernel
theorem dX4_digest_266 : decode cX4_digest 266 = .ok (.aload_n 0, 1) := by decide +kernel
theorem dX4_digest_267 : decode cX4_digest 267 = .ok (.iconst 3, 1) := by decide +kernel
theorem dX4_digest_268 : decode cX4_digest 268 = .ok (.iload_n 3, 1) := by decide +kernel
theorem dX4_digest_269 : decode cX4_digest 269 = .ok (.iconst 0, 1) := by decide +kernel
theorem dX4_digest_270 : decode cX4_digest 270 = .ok (.invokevirtual 286, 3) := by decide +kernel
theorem dX4_digest_273 : decode cX4_digest 273 = .ok (.i2l, 1) := by decide +kernel
theorem dX4_digest_274 : decode cX4_digest 274 = .ok (.ladd, 1) := by decide +kernel
theorem dX4_digest_275 : decode cX4_digest 275 = .ok (.lstore_n 1, 1) := by decide +kernel
theorem dX4_digest_276 : decode cX4_digest 276 = .ok (.iinc 3 1, 3) := by decide +kernel
theorem dX4_digest_279 : decode cX4_digest 279 = .ok (.goto (-38), 3) := by decide +kernel
theorem dX4_digest_282 : decode cX4_digest 282 = .ok (.ldc2_w 255, 3) := by decide +kernel
theorem dX4_digest_285 : decode cX4_digest 285 = .ok (.lload_n 1, 1) := by decide +kernel
theorem dX4_digest_286 : decode cX4_digest 286 = .ok (.lmul, 1) := by decide +kernel
theorem dX4_digest_287 : decode cX4_digest 287 = .ok (.aload_n 0, 1) := by decide +kernel
theorem dX4_digest_288 : decode cX4_digest 288 = .ok (.invokevirtual 289, 3) := by decide +kernel
theorem dX4_digest_291 : decode cX4_digest 291 = .ok (.i2l, 1) := by decide +kernel
theorem dX4_digest_292 : decode cX4_digest 292 = .ok (.ladd, 1) := by decide +kernel
theorem dX4_digest_293 : decode cX4_digest 293 = .ok (.lstore_n 1, 1) := by decide +kernel
theorem dX4_digest_294 : decode cX4_digest 294 = .ok (.ldc2_w 255, 3) := by decide +kernel
theorem dX4_digest_297 : decode cX4_digest 297 = .ok (.lload_n 1, 1) := by decide +kernel
theorem dX4_digest_298 : decode cX4_digest 298 = .ok (.lmul, 1) := by decide +kernel
theorem dX4_digest_299 : decode cX4_digest 299 = .ok (.aload_n 0, 1) := by decide +kernel
theorem dX4_digest_300 : decode cX4_digest 300 = .ok (.iconst 0, 1) := by decide +kernel
theorem dX4_digest_301 : decode cX4_digest 301 = .ok (.iconst 4, 1) := by decide +kernel
theorem dX4_digest_302 : decode cX4_digest 302 = .ok (.invokevirtual 292, 3) := by decide +kernel
theorem dX4_digest_305 : decode cX4_digest 305 = .ok (.i2l, 1) := by decide +kernel
theorem dX4_digest_306 : decode cX4_digest 306 = .ok (.ladd, 1) := by decide +kernel
theorem dX4_digest_307 : decode cX4_digest 307 = .ok (.lstore_n 1, 1) := by decide +kernel
theorem dX4_digest_308 : decode cX4_digest 308 = .ok (.ldc2_w 255, 3) := by decide +kernel
theorem dX4_digest_311 : decode cX4_digest 311 = .ok (.lload_n 1, 1) := by decide +kernel
theorem dX4_digest_312 : decode cX4_digest 312 = .ok (.lmul, 1) := by decide +kernel
theorem dX4_digest_313 : decode cX4_digest 313 = .ok (.aload_n 0, 1) := by decide +kernel
theorem dX4_digest_314 : decode cX4_digest 314 = .ok (.bipush 7, 2) := by decide +kernel
theorem dX4_digest_316 : decode cX4_digest 316 = .ok (.bipush 20, 2) := by decide +kernel
theorem dX4_digest_318 : decode cX4_digest 318 = .ok (.iconst 0, 1) := by decide +kernel
theorem dX4_digest_319 : decode cX4_digest 319 = .ok (.invokevirtual 295, 3) := by decide +kernel
theorem dX4_digest_322 : decode cX4_digest 322 = .ok (.i2l, 1) := by decide +kernel
theorem dX4_digest_323 : decode cX4_digest 323 = .ok (.ladd, 1) := by decide +kernel
theorem dX4_digest_324 : decode cX4_digest 324 = .ok (.lstore_n 1, 1) := by decide +kernel
theorem dX4_digest_325 : decode cX4_digest 325 = .ok (.ldc2_w 255, 3) := by decide +kernel
theorem dX4_digest_328 : decode cX4_digest 328 = .ok (.lload_n 1, 1) := by decide +kernel
theorem dX4_digest_329 : decode cX4_digest 329 = .ok (.lmul, 1) := by decide +kernel
theorem dX4_digest_330 : decode cX4_digest 330 = .ok (.aload_n 0, 1) := by decide +kernel
theorem dX4_digest_331 : decode cX4_digest 331 = .ok (.bipush 7, 2) := by decide +kernel
theorem dX4_digest_333 : decode cX4_digest 333 = .ok (.bipush 20, 2) := by decide +kernel
theorem dX4_digest_335 : decode cX4_digest 335 = .ok (.iconst 1, 1) := by decide +kernel
theorem dX4_digest_336 : decode cX4_digest 336 = .ok (.invokevirtual 295, 3) := by decide +kernel
theorem dX4_digest_339 : decode cX4_digest 339 = .ok (.i2l, 1) := by decide +kernel
theorem dX4_digest_340 : decode cX4_digest 340 = .ok (.ladd, 1) := by decide +kernel
theorem dX4_digest_341 : decode cX4_digest 341 = .ok (.lreturn, 1) := by decide +kernel
theorem dX4_digestBox_0 : decode cX4_digestBox 0 = .ok (.lload_n 1, 1) := by decide +kernel
theorem dX4_digestBox_1 : decode cX4_digestBox 1 = .ok (.lstore 4, 2) := by decide +kernel
theorem dX4_digestBox_3 : decode cX4_digestBox 3 = .ok (.iconst 0, 1) := by decide +kernel
theorem dX4_digestBox_4 : decode cX4_digestBox 4 = .ok (.istore 6, 2) := by decide +kernel
theorem dX4_digestBox_6 : decode cX4_digestBox 6 = .ok (.iload 6, 2) := by decide +kernel
theorem dX4_digestBox_8 : decode cX4_digestBox 8 = .ok (.iconst 2, 1) := by decide +kernel
theorem dX4_digestBox_9 : decode cX4_digestBox 9 = .ok (.if_icmp .gt 26, 3) := by decide +kernel
theorem dX4_digestBox_12 : decode cX4_digestBox 12 = .ok (.ldc2_w 255, 3) := by decide +kernel
theorem dX4_digestBox_15 : decode cX4_digestBox 15 = .ok (.lload 4, 2) := by decide +kernel
theorem dX4_digestBox_17 : decode cX4_digestBox 17 = .ok (.lmul, 1) := by decide +kernel
theorem dX4_digestBox_18 : decode cX4_digestBox 18 = .ok (.aload_n 0, 1) := by decide +kernel
theorem dX4_digestBox_19 : decode cX4_digestBox 19 = .ok (.iload_n 3, 1) := by decide +kernel
theorem dX4_digestBox_20 : decode cX4_digestBox 20 = .ok (.iload 6, 2) := by decide +kernel
theorem dX4_digestBox_22 : decode cX4_digestBox 22 = .ok (.invokevirtual 298, 3) := by decide +kernel
theorem dX4_digestBox_25 : decode cX4_digestBox 25 = .ok (.i2l, 1) := by decide +kernel
theorem dX4_digestBox_26 : decode cX4_digestBox 26 = .ok (.ladd, 1) := by decide +kernel
theorem dX4_digestBox_27 : decode cX4_digestBox 27 = .ok (.lstore 4, 2) := by decide +kernel
theorem dX4_digestBox_29 : decode cX4_digestBox 29 = .ok (.iinc 6 1, 3) := by decide +kernel
theorem dX4_digestBox_32 : decode cX4_digestBox 32 = .ok (.goto (-26), 3) := by decide +kernel
theorem dX4_digestBox_35 : decode cX4_digestBox 35 = .ok (.ldc2_w 255, 3) := by decide +kernel
theorem dX4_digestBox_38 : decode cX4_digestBox 38 = .ok (.lload 4, 2) := by decide +kernel
theorem dX4_digestBox_40 : decode cX4_digestBox 40 = .ok (.lmul, 1) := by decide +kernel
theorem dX4_digestBox_41 : decode cX4_digestBox 41 = .ok (.aload_n 0, 1) := by decide +kernel
theorem dX4_digestBox_42 : decode cX4_digestBox 42 = .ok (.iload_n 3, 1) := by decide +kernel
theorem dX4_digestBox_43 : decode cX4_digestBox 43 = .ok (.invokevirtual 301, 3) := by decide +kernel
theorem dX4_digestBox_46 : decode cX4_digestBox 46 = .ok (.i2l, 1) := by decide +kernel
theorem dX4_digestBox_47 : decode cX4_digestBox 47 = .ok (.ladd, 1) := by decide +kernel
theorem dX4_digestBox_48 : decode cX4_digestBox 48 = .ok (.lstore 4, 2) := by decide +kernel
theorem dX4_digestBox_50 : decode cX4_digestBox 50 = .ok (.ldc2_w 255, 3) := by decide +kernel
theorem dX4_digestBox_53 : decode cX4_digestBox 53 = .ok (.lload 4, 2) := by decide +kernel
theorem dX4_digestBox_55 : decode cX4_digestBox 55 = .ok (.lmul, 1) := by decide +kernel
theorem dX4_digestBox_56 : decode cX4_digestBox 56 = .ok (.aload_n 0, 1) := by decide +kernel
theorem dX4_digestBox_57 : decode cX4_digestBox 57 = .ok (.bipush 9, 2) := by decide +kernel
theorem dX4_digestBox_59 : decode cX4_digestBox 59 = .ok (.iload_n 3, 1) := by decide +kernel
theorem dX4_digestBox_60 : decode cX4_digestBox 60 = .ok (.invokevirtual 304, 3) := by decide +kernel
theorem dX4_digestBox_63 : decode cX4_digestBox 63 = .ok (.i2l, 1) := by decide +kernel
theorem dX4_digestBox_64 : decode cX4_digestBox 64 = .ok (.ladd, 1) := by decide +kernel
theorem dX4_digestBox_65 : decode cX4_digestBox 65 = .ok (.lstore 4, 2) := by decide +kernel
theorem dX4_digestBox_67 : decode cX4_digestBox 67 = .ok (.ldc2_w 255, 3) := by decide +kernel
theorem dX4_digestBox_70 : decode cX4_digestBox 70 = .ok (.lload 4, 2) := by decide +kernel
theorem dX4_digestBox_72 : decode cX4_digestBox 72 = .ok (.lmul, 1) := by decide +kernel
theorem dX4_digestBox_73 : decode cX4_digestBox 73 = .ok (.aload_n 0, 1) := by decide +kernel
theorem dX4_digestBox_74 : decode cX4_digestBox 74 = .ok (.iload_n 3, 1) := by decide +kernel
theorem dX4_digestBox_75 : decode cX4_digestBox 75 = .ok (.iconst 0, 1) := by decide +kernel
theorem dX4_digestBox_76 : decode cX4_digestBox 76 = .ok (.invokevirtual 307, 3) := by decide +kernel
theorem dX4_digestBox_79 : decode cX4_digestBox 79 = .ok (.i2l, 1) := by decide +kernel
theorem dX4_digestBox_80 : decode cX4_digestBox 80 = .ok (.ladd, 1) := by decide +kernel
theorem dX4_digestBox_81 : decode cX4_digestBox 81 = .ok (.lstore 4, 2) := by decide +kernel
theorem dX4_digestBox_83 : decode cX4_digestBox 83 = .ok (.ldc2_w 255, 3) := by decide +kernel
theorem dX4_digestBox_86 : decode cX4_digestBox 86 = .ok (.lload 4, 2) := by decide +kernel
theorem dX4_digestBox_88 : decode cX4_digestBox 88 = .ok (.lmul, 1) := by decide +kernel
theorem dX4_digestBox_89 : decode cX4_digestBox 89 = .ok (.aload_n 0, 1) := by decide +kernel
theorem dX4_digestBox_90 : decode cX4_digestBox 90 = .ok (.iload_n 3, 1) := by decide +kernel
theorem dX4_digestBox_91 : decode cX4_digestBox 91 = .ok (.iconst 2, 1) := by decide +kernel
theorem dX4_digestBox_92 : decode cX4_digestBox 92 = .ok (.invokevirtual 310, 3) := by decide +kernel
theorem dX4_digestBox_95 : decode cX4_digestBox 95 = .ok (.i2l, 1) := by decide +kernel
theorem dX4_digestBox_96 : decode cX4_digestBox 96 = .ok (.ladd, 1) := by decide +kernel
theorem dX4_digestBox_97 : decode cX4_digestBox 97 = .ok (.lstore 4, 2) := by decide +kernel
theorem dX4_digestBox_99 : decode cX4_digestBox 99 = .ok (.ldc2_w 255, 3) := by decide +kernel
theorem dX4_digestBox_102 : decode cX4_digestBox 102 = .ok (.lload 4, 2) := by decide +kernel
theorem dX4_digestBox_104 : decode cX4_digestBox 104 = .ok (.lmul, 1) := by decide +kernel
theorem dX4_digestBox_105 : decode cX4_digestBox 105 = .ok (.aload_n 0, 1) := by decide +kernel
theorem dX4_digestBox_106 : decode cX4_digestBox 106 = .ok (.iload_n 3, 1) := by decide +kernel
theorem dX4_digestBox_107 : decode cX4_digestBox 107 = .ok (.iconst (-1), 1) := by decide +kernel
theorem dX4_digestBox_108 : decode cX4_digestBox 108 = .ok (.invokevirtual 313, 3) := by decide +kernel
theorem dX4_digestBox_111 : decode cX4_digestBox 111 = .ok (.i2l, 1) := by decide +kernel
theorem dX4_digestBox_112 : decode cX4_digestBox 112 = .ok (.ladd, 1) := by decide +kernel
theorem dX4_digestBox_113 : decode cX4_digestBox 113 = .ok (.lstore 4, 2) := by decide +kernel
theorem dX4_digestBox_115 : decode cX4_digestBox 115 = .ok (.ldc2_w 255, 3) := by decide +kernel
theorem dX4_digestBox_118 : decode cX4_digestBox 118 = .ok (.lload 4, 2) := by decide +kernel
theorem dX4_digestBox_120 : decode cX4_digestBox 120 = .ok (.lmul, 1) := by decide +kernel
theorem dX4_digestBox_121 : decode cX4_digestBox 121 = .ok (.aload_n 0, 1) := by decide +kernel
theorem dX4_digestBox_122 : decode cX4_digestBox 122 = .ok (.iload_n 3, 1) := by decide +kernel
theorem dX4_digestBox_123 : decode cX4_digestBox 123 = .ok (.iconst 0, 1) := by decide +kernel
theorem dX4_digestBox_124 : decode cX4_digestBox 124 = .ok (.invokevirtual 313, 3) := by decide +kernel
theorem dX4_digestBox_127 : decode cX4_digestBox 127 = .ok (.i2l, 1) := by decide +kernel
theorem dX4_digestBox_128 : decode cX4_digestBox 128 = .ok (.ladd, 1) := by decide +kernel
theorem dX4_digestBox_129 : decode cX4_digestBox 129 = .ok (.lstore 4, 2) := by decide +kernel
theorem dX4_digestBox_131 : decode cX4_digestBox 131 = .ok (.ldc2_w 255, 3) := by decide +kernel
theorem dX4_digestBox_134 : decode cX4_digestBox 134 = .ok (.lload 4, 2) := by decide +kernel
theorem dX4_digestBox_136 : decode cX4_digestBox 136 = .ok (.lmul, 1) := by decide +kernel
theorem dX4_digestBox_137 : decode cX4_digestBox 137 = .ok (.aload_n 0, 1) := by decide +kernel
theorem dX4_digestBox_138 : decode cX4_digestBox 138 = .ok (.iconst 5, 1) := by decide +kernel
theorem dX4_digestBox_139 : decode cX4_digestBox 139 = .ok (.iload_n 3, 1) := by decide +kernel
theorem dX4_digestBox_140 : decode cX4_digestBox 140 = .ok (.iconst 4, 1) := by decide +kernel
theorem dX4_digestBox_141 : decode cX4_digestBox 141 = .ok (.iconst 0, 1) := by decide +kernel
theorem dX4_digestBox_142 : decode cX4_digestBox 142 = .ok (.invokevirtual 316, 3) := by decide +kernel
theorem dX4_digestBox_145 : decode cX4_digestBox 145 = .ok (.ladd, 1) := by decide +kernel
theorem dX4_digestBox_146 : decode cX4_digestBox 146 = .ok (.lstore 4, 2) := by decide +kernel
theorem dX4_digestBox_148 : decode cX4_digestBox 148 = .ok (.ldc2_w 255, 3) := by decide +kernel
theorem dX4_digestBox_151 : decode cX4_digestBox 151 = .ok (.lload 4, 2) := by decide +kernel
theorem dX4_digestBox_153 : decode cX4_digestBox 153 = .ok (.lmul, 1) := by decide +kernel
theorem dX4_digestBox_154 : decode cX4_digestBox 154 = .ok (.aload_n 0, 1) := by decide +kernel
theorem dX4_digestBox_155 : decode cX4_digestBox 155 = .ok (.iconst 5, 1) := by decide +kernel
theorem dX4_digestBox_156 : decode cX4_digestBox 156 = .ok (.iload_n 3, 1) := by decide +kernel
theorem dX4_digestBox_157 : decode cX4_digestBox 157 = .ok (.iconst 4, 1) := by decide +kernel
theorem dX4_digestBox_158 : decode cX4_digestBox 158 = .ok (.iconst 1, 1) := by decide +kernel
theorem dX4_digestBox_159 : decode cX4_digestBox 159 = .ok (.invokevirtual 316, 3) := by decide +kernel
theorem dX4_digestBox_162 : decode cX4_digestBox 162 = .ok (.ladd, 1) := by decide +kernel
theorem dX4_digestBox_163 : decode cX4_digestBox 163 = .ok (.lreturn, 1) := by decide +kernel
theorem dX4_isBox_0 : decode cX4_isBox 0 = .ok (.iload_n 1, 1) := by decide +kernel
theorem dX4_isBox_1 : decode cX4_isBox 1 = .ok (.ifCond .lt 18, 3) := by decide +kernel
theorem dX4_isBox_4 : decode cX4_isBox 4 = .ok (.iload_n 1, 1) := by decide +kernel
theorem dX4_isBox_5 : decode cX4_isBox 5 = .ok (.aload_n 0, 1) := by decide +kernel
theorem dX4_isBox_6 : decode cX4_isBox 6 = .ok (.getfield 12, 3) := by decide +kernel
theorem dX4_isBox_9 : decode cX4_isBox 9 = .ok (.getfield 173, 3) := by decide +kernel
theorem dX4_isBox_12 : decode cX4_isBox 12 = .ok (.if_icmp .ge 7, 3) := by decide +kernel
theorem dX4_isBox_15 : decode cX4_isBox 15 = .ok (.iconst 1, 1) := by decide +kernel
theorem dX4_isBox_16 : decode cX4_isBox 16 = .ok (.goto 4, 3) := by decide +kernel
theorem dX4_isBox_19 : decode cX4_isBox 19 = .ok (.iconst 0, 1) := by decide +kernel
theorem dX4_isBox_20 : decode cX4_isBox 20 = .ok (.ireturn, 1) := by decide +kernel
theorem dX4_isNumber_0 : decode cX4_isNumber 0 = .ok (.iload_n 0, 1) := by decide +kernel
theorem dX4_isNumber_1 : decode cX4_isNumber 1 = .ok (.ifCond .lt 13, 3) := by decide +kernel
theorem dX4_isNumber_4 : decode cX4_isNumber 4 = .ok (.iload_n 0, 1) := by decide +kernel
theorem dX4_isNumber_5 : decode cX4_isNumber 5 = .ok (.bipush 9, 2) := by decide +kernel
theorem dX4_isNumber_7 : decode cX4_isNumber 7 = .ok (.if_icmp .ge 7, 3) := by decide +kernel
theorem dX4_isNumber_10 : decode cX4_isNumber 10 = .ok (.iconst 1, 1) := by decide +kernel
theorem dX4_isNumber_11 : decode cX4_isNumber 11 = .ok (.goto 4, 3) := by decide +kernel
theorem dX4_isNumber_14 : decode cX4_isNumber 14 = .ok (.iconst 0, 1) := by decide +kernel
theorem dX4_isNumber_15 : decode cX4_isNumber 15 = .ok (.ireturn, 1) := by decide +kernel
theorem dX4_isStep_0 : decode cX4_isStep 0 = .ok (.iload_n 0, 1) := by decide +kernel
theorem dX4_isStep_1 : decode cX4_isStep 1 = .ok (.ifCond .lt 13, 3) := by decide +kernel
theorem dX4_isStep_4 : decode cX4_isStep 4 = .ok (.iload_n 0, 1) := by decide +kernel
theorem dX4_isStep_5 : decode cX4_isStep 5 = .ok (.bipush 60, 2) := by decide +kernel
theorem dX4_isStep_7 : decode cX4_isStep 7 = .ok (.if_icmp .ge 7, 3) := by decide +kernel
theorem dX4_isStep_10 : decode cX4_isStep 10 = .ok (.iconst 1, 1) := by decide +kernel
theorem dX4_isStep_11 : decode cX4_isStep 11 = .ok (.goto 4, 3) := by decide +kernel
theorem dX4_isStep_14 : decode cX4_isStep 14 = .ok (.iconst 0, 1) := by decide +kernel
theorem dX4_isStep_15 : decode cX4_isStep 15 = .ok (.ireturn, 1) := by decide +kernel
theorem dX4_isEither_0 : decode cX4_isEither 0 = .ok (.iload_n 0, 1) := by decide +kernel
theorem dX4_isEither_1 : decode cX4_isEither 1 = .ok (.ifCond .eq 8, 3) := by decide +kernel
theorem dX4_isEither_4 : decode cX4_isEither 4 = .ok (.iload_n 0, 1) := by decide +kernel
theorem dX4_isEither_5 : decode cX4_isEither 5 = .ok (.iconst 1, 1) := by decide +kernel
theorem dX4_isEither_6 : decode cX4_isEither 6 = .ok (.if_icmp .ne 7, 3) := by decide +kernel
theorem dX4_isEither_9 : decode cX4_isEither 9 = .ok (.iconst 1, 1) := by decide +kernel
theorem dX4_isEither_10 : decode cX4_isEither 10 = .ok (.goto 4, 3) := by decide +kernel
theorem dX4_isEither_13 : decode cX4_isEither 13 = .ok (.iconst 0, 1) := by decide +kernel
theorem dX4_isEither_14 : decode cX4_isEither 14 = .ok (.ireturn, 1) := by decide +kernel
theorem dX4_isSheet_0 : decode cX4_isSheet 0 = .ok (.iload_n 0, 1) := by decide +kernel
theorem dX4_isSheet_1 : decode cX4_isSheet 1 = .ok (.ifCond .lt 12, 3) := by decide +kernel
theorem dX4_isSheet_4 : decode cX4_isSheet 4 = .ok (.iload_n 0, 1) := by decide +kernel
theorem dX4_isSheet_5 : decode cX4_isSheet 5 = .ok (.iconst 4, 1) := by decide +kernel
theorem dX4_isSheet_6 : decode cX4_isSheet 6 = .ok (.if_icmp .ge 7, 3) := by decide +kernel
theorem dX4_isSheet_9 : decode cX4_isSheet 9 = .ok (.iconst 1, 1) := by decide +kernel
theorem dX4_isSheet_10 : decode cX4_isSheet 10 = .ok (.goto 4, 3) := by decide +kernel
theorem dX4_isSheet_13 : decode cX4_isSheet 13 = .ok (.iconst 0, 1) := by decide +kernel
theorem dX4_isSheet_14 : decode cX4_isSheet 14 = .ok (.ireturn, 1) := by decide +kernel
theorem dX4_isForm_0 : decode cX4_isForm 0 = .ok (.iload_n 0, 1) := by decide +kernel
theorem dX4_isForm_1 : decode cX4_isForm 1 = .ok (.ifCond .lt 12, 3) := by decide +kernel
theorem dX4_isForm_4 : decode cX4_isForm 4 = .ok (.iload_n 0, 1) := by decide +kernel
theorem dX4_isForm_5 : decode cX4_isForm 5 = .ok (.iconst 3, 1) := by decide +kernel
theorem dX4_isForm_6 : decode cX4_isForm 6 = .ok (.if_icmp .ge 7, 3) := by decide +kernel
theorem dX4_isForm_9 : decode cX4_isForm 9 = .ok (.iconst 1, 1) := by decide +kernel
theorem dX4_isForm_10 : decode cX4_isForm 10 = .ok (.goto 4, 3) := by decide +kernel
theorem dX4_isForm_13 : decode cX4_isForm 13 = .ok (.iconst 0, 1) := by decide +kernel
theorem dX4_isForm_14 : decode cX4_isForm 14 = .ok (.ireturn, 1) := by decide +kernel
theorem dX4_finding_0 : decode cX4_finding 0 = .ok (.aload_n 0, 1) := by decide +kernel
theorem dX4_finding_1 : decode cX4_finding 1 = .ok (.iload_n 1, 1) := by decide +kernel
theorem dX4_finding_2 : decode cX4_finding 2 = .ok (.putfield 46, 3) := by decide +kernel
theorem dX4_finding_5 : decode cX4_finding 5 = .ok (.bipush (-10), 2) := by decide +kernel
theorem dX4_finding_7 : decode cX4_finding 7 = .ok (.iload_n 1, 1) := by decide +kernel
theorem dX4_finding_8 : decode cX4_finding 8 = .ok (.isub, 1) := by decide +kernel
theorem dX4_finding_9 : decode cX4_finding 9 = .ok (.ireturn, 1) := by decide +kernel
theorem dX4_lengthen_0 : decode cX4_lengthen 0 = .ok (.aload_n 0, 1) := by decide +kernel
theorem dX4_lengthen_1 : decode cX4_lengthen 1 = .ok (.getfield 12, 3) := by decide +kernel
theorem dX4_lengthen_4 : decode cX4_lengthen 4 = .ok (.iload_n 1, 1) := by decide +kernel
theorem dX4_lengthen_5 : decode cX4_lengthen 5 = .ok (.putfield 76, 3) := by decide +kernel
theorem dX4_lengthen_8 : decode cX4_lengthen 8 = .ok (.aload_n 0, 1) := by decide +kernel
theorem dX4_lengthen_9 : decode cX4_lengthen 9 = .ok (.getfield 12, 3) := by decide +kernel
theorem dX4_lengthen_12 : decode cX4_lengthen 12 = .ok (.invokevirtual 320, 3) := by decide +kernel
theorem dX4_lengthen_15 : decode cX4_lengthen 15 = .ok (.aload_n 0, 1) := by decide +kernel
theorem dX4_lengthen_16 : decode cX4_lengthen 16 = .ok (.iconst 1, 1) := by decide +kernel
theorem dX4_lengthen_17 : decode cX4_lengthen 17 = .ok (.putfield 56, 3) := by decide +kernel
theorem dX4_lengthen_20 : decode cX4_lengthen 20 = .ok (.iload_n 1, 1) := by decide +kernel
theorem dX4_lengthen_21 : decode cX4_lengthen 21 = .ok (.ireturn, 1) := by decide +kernel
theorem dX4_runAsTold_0 : decode cX4_runAsTold 0 = .ok (.aload_n 0, 1) := by decide +kernel
theorem dX4_runAsTold_1 : decode cX4_runAsTold 1 = .ok (.getfield 56, 3) := by decide +kernel
theorem dX4_runAsTold_4 : decode cX4_runAsTold 4 = .ok (.ifCond .eq 40, 3) := by decide +kernel
theorem dX4_runAsTold_7 : decode cX4_runAsTold 7 = .ok (.aload_n 0, 1) := by decide +kernel
theorem dX4_runAsTold_8 : decode cX4_runAsTold 8 = .ok (.getfield 52, 3) := by decide +kernel
theorem dX4_runAsTold_11 : decode cX4_runAsTold 11 = .ok (.aload_n 0, 1) := by decide +kernel
theorem dX4_runAsTold_12 : decode cX4_runAsTold 12 = .ok (.getfield 12, 3) := by decide +kernel
theorem dX4_runAsTold_15 : decode cX4_runAsTold 15 = .ok (.aload_n 0, 1) := by decide +kernel
theorem dX4_runAsTold_16 : decode cX4_runAsTold 16 = .ok (.getfield 16, 3) := by decide +kernel
theorem dX4_runAsTold_19 : decode cX4_runAsTold 19 = .ok (.aload_n 0, 1) := by decide +kernel
theorem dX4_runAsTold_20 : decode cX4_runAsTold 20 = .ok (.getfield 20, 3) := by decide +kernel
theorem dX4_runAsTold_23 : decode cX4_runAsTold 23 = .ok (.aload_n 0, 1) := by decide +kernel
theorem dX4_runAsTold_24 : decode cX4_runAsTold 24 = .ok (.getfield 27, 3) := by decide +kernel
theorem dX4_runAsTold_27 : decode cX4_runAsTold 27 = .ok (.invokevirtual 161, 3) := by decide +kernel
theorem dX4_runAsTold_30 : decode cX4_runAsTold 30 = .ok (.aload_n 0, 1) := by decide +kernel
theorem dX4_runAsTold_31 : decode cX4_runAsTold 31 = .ok (.getfield 52, 3) := by decide +kernel
theorem dX4_runAsTold_34 : decode cX4_runAsTold 34 = .ok (.bipush 59, 2) := by decide +kernel
theorem dX4_runAsTold_36 : decode cX4_runAsTold 36 = .ok (.invokevirtual 187, 3) := by decide +kernel
theorem dX4_runAsTold_39 : decode cX4_runAsTold 39 = .ok (.aload_n 0, 1) := by decide +kernel
theorem dX4_runAsTold_40 : decode cX4_runAsTold 40 = .ok (.iconst 0, 1) := by decide +kernel
theorem dX4_runAsTold_41 : decode cX4_runAsTold 41 = .ok (.putfield 56, 3) := by decide +kernel
theorem dX4_runAsTold_44 : decode cX4_runAsTold 44 = .ok (.return_, 1) := by decide +kernel
theorem dX4_spread_0 : decode cX4_spread 0 = .ok (.iload_n 0, 1) := by decide +kernel
theorem dX4_spread_1 : decode cX4_spread 1 = .ok (.iload_n 1, 1) := by decide +kernel
theorem dX4_spread_2 : decode cX4_spread 2 = .ok (.iand, 1) := by decide +kernel
theorem dX4_spread_3 : decode cX4_spread 3 = .ok (.ifCond .eq 9, 3) := by decide +kernel
theorem dX4_spread_6 : decode cX4_spread 6 = .ok (.iload_n 0, 1) := by decide +kernel
theorem dX4_spread_7 : decode cX4_spread 7 = .ok (.iload_n 1, 1) := by decide +kernel
theorem dX4_spread_8 : decode cX4_spread 8 = .ok (.ior, 1) := by decide +kernel
theorem dX4_spread_9 : decode cX4_spread 9 = .ok (.goto 4, 3) := by decide +kernel
theorem dX4_spread_12 : decode cX4_spread 12 = .ok (.iload_n 0, 1) := by decide +kernel
theorem dX4_spread_13 : decode cX4_spread 13 = .ok (.ireturn, 1) := by decide +kernel
theorem dX4_exchange_0 : decode cX4_exchange 0 = .ok (.aload_n 0, 1) := by decide +kernel
theorem dX4_exchange_1 : decode cX4_exchange 1 = .ok (.iload_n 1, 1) := by decide +kernel
theorem dX4_exchange_2 : decode cX4_exchange 2 = .ok (.iaload, 1) := by decide +kernel
theorem dX4_exchange_3 : decode cX4_exchange 3 = .ok (.istore_n 3, 1) := by decide +kernel
theorem dX4_exchange_4 : decode cX4_exchange 4 = .ok (.aload_n 0, 1) := by decide +kernel
theorem dX4_exchange_5 : decode cX4_exchange 5 = .ok (.iload_n 1, 1) := by decide +kernel
theorem dX4_exchange_6 : decode cX4_exchange 6 = .ok (.aload_n 0, 1) := by decide +kernel
theorem dX4_exchange_7 : decode cX4_exchange 7 = .ok (.iload_n 2, 1) := by decide +kernel
theorem dX4_exchange_8 : decode cX4_exchange 8 = .ok (.iaload, 1) := by decide +kernel
theorem dX4_exchange_9 : decode cX4_exchange 9 = .ok (.iastore, 1) := by decide +kernel
theorem dX4_exchange_10 : decode cX4_exchange 10 = .ok (.aload_n 0, 1) := by decide +kernel
theorem dX4_exchange_11 : decode cX4_exchange 11 = .ok (.iload_n 2, 1) := by decide +kernel
theorem dX4_exchange_12 : decode cX4_exchange 12 = .ok (.iload_n 3, 1) := by decide +kernel
theorem dX4_exchange_13 : decode cX4_exchange 13 = .ok (.iastore, 1) := by decide +kernel
theorem dX4_exchange_14 : decode cX4_exchange 14 = .ok (.return_, 1) := by decide +kernel
theorem dX4_isHushed_0 : decode cX4_isHushed 0 = .ok (.aload_n 0, 1) := by decide +kernel
theorem dX4_isHushed_1 : decode cX4_isHushed 1 = .ok (.getfield 60, 3) := by decide +kernel
theorem dX4_isHushed_4 : decode cX4_isHushed 4 = .ok (.aload_n 0, 1) := by decide +kernel
theorem dX4_isHushed_5 : decode cX4_isHushed 5 = .ok (.getfield 20, 3) := by decide +kernel
theorem dX4_isHushed_8 : decode cX4_isHushed 8 = .ok (.iload_n 1, 1) := by decide +kernel
theorem dX4_isHushed_9 : decode cX4_isHushed 9 = .ok (.ior, 1) := by decide +kernel
theorem dX4_isHushed_10 : decode cX4_isHushed 10 = .ok (.putfield 323, 3) := by decide +kernel
theorem dX4_isHushed_13 : decode cX4_isHushed 13 = .ok (.aload_n 0, 1) := by decide +kernel
theorem dX4_isHushed_14 : decode cX4_isHushed 14 = .ok (.getfield 60, 3) := by decide +kernel
theorem dX4_isHushed_17 : decode cX4_isHushed 17 = .ok (.iload_n 2, 1) := by decide +kernel
theorem dX4_isHushed_18 : decode cX4_isHushed 18 = .ok (.invokevirtual 187, 3) := by decide +kernel
theorem dX4_isHushed_21 : decode cX4_isHushed 21 = .ok (.aload_n 0, 1) := by decide +kernel
theorem dX4_isHushed_22 : decode cX4_isHushed 22 = .ok (.getfield 60, 3) := by decide +kernel
theorem dX4_isHushed_25 : decode cX4_isHushed 25 = .ok (.getfield 149, 3) := by decide +kernel
theorem dX4_isHushed_28 : decode cX4_isHushed 28 = .ok (.iload_n 2, 1) := by decide +kernel
theorem dX4_isHushed_29 : decode cX4_isHushed 29 = .ok (.iaload, 1) := by decide +kernel
theorem dX4_isHushed_30 : decode cX4_isHushed 30 = .ok (.ifCond .ne 7, 3) := by decide +kernel
theorem dX4_isHushed_33 : decode cX4_isHushed 33 = .ok (.iconst 1, 1) := by decide +kernel
theorem dX4_isHushed_34 : decode cX4_isHushed 34 = .ok (.goto 4, 3) := by decide +kernel
theorem dX4_isHushed_37 : decode cX4_isHushed 37 = .ok (.iconst 0, 1) := by decide +kernel
theorem dX4_isHushed_38 : decode cX4_isHushed 38 = .ok (.ireturn, 1) := by decide +kernel
theorem dX4_findShelf_0 : decode cX4_findShelf 0 = .ok (.aload_n 0, 1) := by decide +kernel
theorem dX4_findShelf_1 : decode cX4_findShelf 1 = .ok (.getfield 60, 3) := by decide +kernel
theorem dX4_findShelf_4 : decode cX4_findShelf 4 = .ok (.aload_n 0, 1) := by decide +kernel
theorem dX4_findShelf_5 : decode cX4_findShelf 5 = .ok (.getfield 12, 3) := by decide +kernel
theorem dX4_findShelf_8 : decode cX4_findShelf 8 = .ok (.aload_n 0, 1) := by decide +kernel
theorem dX4_findShelf_9 : decode cX4_findShelf 9 = .ok (.getfield 16, 3) := by decide +kernel
theorem dX4_findShelf_12 : decode cX4_findShelf 12 = .ok (.aload_n 0, 1) := by decide +kernel
theorem dX4_findShelf_13 : decode cX4_findShelf 13 = .ok (.getfield 20, 3) := by decide +kernel
theorem dX4_findShelf_16 : decode cX4_findShelf 16 = .ok (.aload_n 0, 1) := by decide +kernel
theorem dX4_findShelf_17 : decode cX4_findShelf 17 = .ok (.getfield 27, 3) := by decide +kernel
theorem dX4_findShelf_20 : decode cX4_findShelf 20 = .ok (.invokevirtual 161, 3) := by decide +kernel
theorem dX4_findShelf_23 : decode cX4_findShelf 23 = .ok (.iconst 0, 1) := by decide +kernel
theorem dX4_findShelf_24 : decode cX4_findShelf 24 = .ok (.istore_n 3, 1) := by decide +kernel
theorem dX4_findShelf_25 : decode cX4_findShelf 25 = .ok (.iload_n 3, 1) := by decide +kernel
theorem dX4_findShelf_26 : decode cX4_findShelf 26 = .ok (.bipush 9, 2) := by decide +kernel
theorem dX4_findShelf_28 : decode cX4_findShelf 28 = .ok (.if_icmp .ge 16, 3) := by decide +kernel
theorem dX4_findShelf_31 : decode cX4_findShelf 31 = .ok (.aload_n 0, 1) := by decide +kernel
theorem dX4_findShelf_32 : decode cX4_findShelf 32 = .ok (.getfield 69, 3) := by decide +kernel
theorem dX4_findShelf_35 : decode cX4_findShelf 35 = .ok (.iload_n 3, 1) := by decide +kernel
theorem dX4_findShelf_36 : decode cX4_findShelf 36 = .ok (.iload_n 3, 1) := by decide +kernel
theorem dX4_findShelf_37 : decode cX4_findShelf 37 = .ok (.iastore, 1) := by decide +kernel
theorem dX4_findShelf_38 : decode cX4_findShelf 38 = .ok (.iinc 3 1, 3) := by decide +kernel
theorem dX4_findShelf_41 : decode cX4_findShelf 41 = .ok (.goto (-16), 3) := by decide +kernel
theorem dX4_findShelf_44 : decode cX4_findShelf 44 = .ok (.iconst (-1), 1) := by decide +kernel
theorem dX4_findShelf_45 : decode cX4_findShelf 45 = .ok (.istore_n 3, 1) := by decide +kernel
theorem dX4_findShelf_46 : decode cX4_findShelf 46 = .ok (.iconst 1, 1) := by decide +kernel
theorem dX4_findShelf_47 : decode cX4_findShelf 47 = .ok (.istore 4, 2) := by decide +kernel
theorem dX4_findShelf_49 : decode cX4_findShelf 49 = .ok (.iconst 0, 1) := by decide +kernel
theorem dX4_findShelf_50 : decode cX4_findShelf 50 = .ok (.istore 5, 2) := by decide +kernel
theorem dX4_findShelf_52 : decode cX4_findShelf 52 = .ok (.iload 5, 2) := by decide +kernel
theorem dX4_findShelf_54 : decode cX4_findShelf 54 = .ok (.sipush 720, 3) := by decide +kernel
theorem dX4_findShelf_57 : decode cX4_findShelf 57 = .ok (.if_icmp .ge 94, 3) := by decide +kernel
theorem dX4_findShelf_60 : decode cX4_findShelf 60 = .ok (.iload 4, 2) := by decide +kernel
theorem dX4_findShelf_62 : decode cX4_findShelf 62 = .ok (.ifCond .eq 89, 3) := by decide +kernel
theorem dX4_findShelf_65 : decode cX4_findShelf 65 = .ok (.aload_n 0, 1) := by decide +kernel
theorem dX4_findShelf_66 : decode cX4_findShelf 66 = .ok (.getfield 60, 3) := by decide +kernel
theorem dX4_findShelf_69 : decode cX4_findShelf 69 = .ok (.aload_n 0, 1) := by decide +kernel
theorem dX4_findShelf_70 : decode cX4_findShelf 70 = .ok (.getfield 69, 3) := by decide +kernel
theorem dX4_findShelf_73 : decode cX4_findShelf 73 = .ok (.invokevirtual 326, 3) := by decide +kernel
theorem dX4_findShelf_76 : decode cX4_findShelf 76 = .ok (.aload_n 0, 1) := by decide +kernel
theorem dX4_findShelf_77 : decode cX4_findShelf 77 = .ok (.getfield 60, 3) := by decide +kernel
theorem dX4_findShelf_80 : decode cX4_findShelf 80 = .ok (.bipush 19, 2) := by decide +kernel
theorem dX4_findShelf_82 : decode cX4_findShelf 82 = .ok (.invokevirtual 187, 3) := by decide +kernel
theorem dX4_findShelf_85 : decode cX4_findShelf 85 = .ok (.aload_n 0, 1) := by decide +kernel
theorem dX4_findShelf_86 : decode cX4_findShelf 86 = .ok (.getfield 60, 3) := by decide +kernel
theorem dX4_findShelf_89 : decode cX4_findShelf 89 = .ok (.bipush 19, 2) := by decide +kernel
theorem dX4_findShelf_91 : decode cX4_findShelf 91 = .ok (.invokevirtual 218, 3) := by decide +kernel
theorem dX4_findShelf_94 : decode cX4_findShelf 94 = .ok (.istore 6, 2) := by decide +kernel
theorem dX4_findShelf_96 : decode cX4_findShelf 96 = .ok (.iload_n 3, 1) := by decide +kernel
theorem dX4_findShelf_97 : decode cX4_findShelf 97 = .ok (.iconst (-1), 1) := by decide +kernel
theorem dX4_findShelf_98 : decode cX4_findShelf 98 = .ok (.if_icmp .eq 22, 3) := by decide +kernel
theorem dX4_findShelf_101 : decode cX4_findShelf 101 = .ok (.iload_n 2, 1) := by decide +kernel
theorem dX4_findShelf_102 : decode cX4_findShelf 102 = .ok (.ifCond .eq 12, 3) := by decide +kernel
theorem dX4_findShelf_105 : decode cX4_findShelf 105 = .ok (.iload 6, 2) := by decide +kernel
theorem dX4_findShelf_107 : decode cX4_findShelf 107 = .ok (.iload_n 3, 1) := by decide +kernel
theorem dX4_findShelf_108 : decode cX4_findShelf 108 = .ok (.if_icmp .le 30, 3) := by decide +kernel
theorem dX4_findShelf_111 : decode cX4_findShelf 111 = .ok (.goto 9, 3) := by decide +kernel
theorem dX4_findShelf_114 : decode cX4_findShelf 114 = .ok (.iload 6, 2) := by decide +kernel
theorem dX4_findShelf_116 : decode cX4_findShelf 116 = .ok (.iload_n 3, 1) := by decide +kernel
theorem dX4_findShelf_117 : decode cX4_findShelf 117 = .ok (.if_icmp .ge 21, 3) := by decide +kernel
theorem dX4_findShelf_120 : decode cX4_findShelf 120 = .ok (.iload 6, 2) := by decide +kernel
theorem dX4_findShelf_122 : decode cX4_findShelf 122 = .ok (.istore_n 3, 1) := by decide +kernel
theorem dX4_findShelf_123 : decode cX4_findShelf 123 = .ok (.aload_n 0, 1) := by decide +kernel
theorem dX4_findShelf_124 : decode cX4_findShelf 124 = .ok (.getfield 69, 3) := by decide +kernel
theorem dX4_findShelf_127 : decode cX4_findShelf 127 = .ok (.iconst 0, 1) := by decide +kernel
theorem dX4_findShelf_128 : decode cX4_findShelf 128 = .ok (.aload_n 0, 1) := by decide +kernel
theorem dX4_findShelf_129 : decode cX4_findShelf 129 = .ok (.getfield 72, 3) := by decide +kernel
theorem dX4_findShelf_132 : decode cX4_findShelf 132 = .ok (.iconst 0, 1) := by decide +kernel
theorem dX4_findShelf_133 : decode cX4_findShelf 133 = .ok (.bipush 9, 2) := by decide +kernel
theorem dX4_findShelf_135 : decode cX4_findShelf 135 = .ok (.invokestatic 241, 3) := by decide +kernel
theorem dX4_findShelf_138 : decode cX4_findShelf 138 = .ok (.aload_n 0, 1) := by decide +kernel
theorem dX4_findShelf_139 : decode cX4_findShelf 139 = .ok (.iload_n 1, 1) := by decide +kernel
theorem dX4_findShelf_140 : decode cX4_findShelf 140 = .ok (.invokevirtual 330, 3) := by decide +kernel
theorem dX4_findShelf_143 : decode cX4_findShelf 143 = .ok (.istore 4, 2) := by decide +kernel
theorem dX4_findShelf_145 : decode cX4_findShelf 145 = .ok (.iinc 5 1, 3) := by decide +kernel
theorem dX4_findShelf_148 : decode cX4_findShelf 148 = .ok (.goto (-96), 3) := by decide +kernel
theorem dX4_findShelf_151 : decode cX4_findShelf 151 = .ok (.iload_n 3, 1) := by decide +kernel
theorem dX4_findShelf_152 : decode cX4_findShelf 152 = .ok (.ireturn, 1) := by decide +kernel
theorem dX4_stepToNextRow_0 : decode cX4_stepToNextRow 0 = .ok (.iload_n 1, 1) := by decide +kernel
theorem dX4_stepToNextRow_1 : decode cX4_stepToNextRow 1 = .ok (.iconst 2, 1) := by decide +kernel
theorem dX4_stepToNextRow_2 : decode cX4_stepToNextRow 2 = .ok (.isub, 1) := by decide +kernel
theorem dX4_stepToNextRow_3 : decode cX4_stepToNextRow 3 = .ok (.istore_n 2, 1) := by decide +kernel
theorem dX4_stepToNextRow_4 : decode cX4_stepToNextRow 4 = .ok (.iload_n 2, 1) := by decide +kernel
theorem dX4_stepToNextRow_5 : decode cX4_stepToNextRow 5 = .ok (.ifCond .lt 26, 3) := by decide +kernel
theorem dX4_stepToNextRow_8 : decode cX4_stepToNextRow 8 = .ok (.aload_n 0, 1) := by decide +kernel
theorem dX4_stepToNextRow_9 : decode cX4_stepToNextRow 9 = .ok (.getfield 69, 3) := by decide +kernel
theorem dX4_stepToNextRow_12 : decode cX4_stepToNextRow 12 = .ok (.iload_n 2, 1) := by decide +kernel
theorem dX4_stepToNextRow_13 : decode cX4_stepToNextRow 13 = .ok (.iaload, 1) := by decide +kernel
theorem dX4_stepToNextRow_14 : decode cX4_stepToNextRow 14 = .ok (.aload_n 0, 1) := by decide +kernel
theorem dX4_stepToNextRow_15 : decode cX4_stepToNextRow 15 = .ok (.getfield 69, 3) := by decide +kernel
theorem dX4_stepToNextRow_18 : decode cX4_stepToNextRow 18 = .ok (.iload_n 2, 1) := by decide +kernel
theorem dX4_stepToNextRow_19 : decode cX4_stepToNextRow 19 = .ok (.iconst 1, 1) := by decide +kernel
theorem dX4_stepToNextRow_20 : decode cX4_stepToNextRow 20 = .ok (.iadd, 1) := by decide +kernel
theorem dX4_stepToNextRow_21 : decode cX4_stepToNextRow 21 = .ok (.iaload, 1) := by decide +kernel
theorem dX4_stepToNextRow_22 : decode cX4_stepToNextRow 22 = .ok (.if_icmp .le 9, 3) := by decide +kernel
theorem dX4_stepToNextRow_25 : decode cX4_stepToNextRow 25 = .ok (.iinc 2 (-1), 3) := by decide +kernel
theorem dX4_stepToNextRow_28 : decode cX4_stepToNextRow 28 = .ok (.goto (-24), 3) := by decide +kernel
theorem dX4_stepToNextRow_31 : decode cX4_stepToNextRow 31 = .ok (.iload_n 2, 1) := by decide +kernel
theorem dX4_stepToNextRow_32 : decode cX4_stepToNextRow 32 = .ok (.ifCond .ge 5, 3) := by decide +kernel
theorem dX4_stepToNextRow_35 : decode cX4_stepToNextRow 35 = .ok (.iconst 0, 1) := by decide +kernel
theorem dX4_stepToNextRow_36 : decode cX4_stepToNextRow 36 = .ok (.ireturn, 1) := by decide +kernel
theorem dX4_stepToNextRow_37 : decode cX4_stepToNextRow 37 = .ok (.iload_n 1, 1) := by decide +kernel
theorem dX4_stepToNextRow_38 : decode cX4_stepToNextRow 38 = .ok (.iconst 1, 1) := by decide +kernel
theorem dX4_stepToNextRow_39 : decode cX4_stepToNextRow 39 = .ok (.isub, 1) := by decide +kernel
theorem dX4_stepToNextRow_40 : decode cX4_stepToNextRow 40 = .ok (.istore_n 3, 1) := by decide +kernel
theorem dX4_stepToNextRow_41 : decode cX4_stepToNextRow 41 = .ok (.iload_n 3, 1) := by decide +kernel
theorem dX4_stepToNextRow_42 : decode cX4_stepToNextRow 42 = .ok (.iload_n 2, 1) := by decide +kernel
theorem dX4_stepToNextRow_43 : decode cX4_stepToNextRow 43 = .ok (.if_icmp .le 24, 3) := by decide +kernel
theorem dX4_stepToNextRow_46 : decode cX4_stepToNextRow 46 = .ok (.aload_n 0, 1) := by decide +kernel
theorem dX4_stepToNextRow_47 : decode cX4_stepToNextRow 47 = .ok (.getfield 69, 3) := by decide +kernel
theorem dX4_stepToNextRow_50 : decode cX4_stepToNextRow 50 = .ok (.iload_n 3, 1) := by decide +kernel
theorem dX4_stepToNextRow_51 : decode cX4_stepToNextRow 51 = .ok (.iaload, 1) := by decide +kernel
theorem dX4_stepToNextRow_52 : decode cX4_stepToNextRow 52 = .ok (.aload_n 0, 1) := by decide +kernel
theorem dX4_stepToNextRow_53 : decode cX4_stepToNextRow 53 = .ok (.getfield 69, 3) := by decide +kernel
theorem dX4_stepToNextRow_56 : decode cX4_stepToNextRow 56 = .ok (.iload_n 2, 1) := by decide +kernel
theorem dX4_stepToNextRow_57 : decode cX4_stepToNextRow 57 = .ok (.iaload, 1) := by decide +kernel
theorem dX4_stepToNextRow_58 : decode cX4_stepToNextRow 58 = .ok (.if_icmp .ge 9, 3) := by decide +kernel
theorem dX4_stepToNextRow_61 : decode cX4_stepToNextRow 61 = .ok (.iinc 3 (-1), 3) := by decide +kernel
theorem dX4_stepToNextRow_64 : decode cX4_stepToNextRow 64 = .ok (.goto (-23), 3) := by decide +kernel
theorem dX4_stepToNextRow_67 : decode cX4_stepToNextRow 67 = .ok (.aload_n 0, 1) := by decide +kernel
theorem dX4_stepToNextRow_68 : decode cX4_stepToNextRow 68 = .ok (.getfield 69, 3) := by decide +kernel
theorem dX4_stepToNextRow_71 : decode cX4_stepToNextRow 71 = .ok (.iload_n 2, 1) := by decide +kernel
theorem dX4_stepToNextRow_72 : decode cX4_stepToNextRow 72 = .ok (.iload_n 3, 1) := by decide +kernel
theorem dX4_stepToNextRow_73 : decode cX4_stepToNextRow 73 = .ok (.invokestatic 105, 3) := by decide +kernel
theorem dX4_stepToNextRow_76 : decode cX4_stepToNextRow 76 = .ok (.iload_n 2, 1) := by decide +kernel
theorem dX4_stepToNextRow_77 : decode cX4_stepToNextRow 77 = .ok (.iconst 1, 1) := by decide +kernel
theorem dX4_stepToNextRow_78 : decode cX4_stepToNextRow 78 = .ok (.iadd, 1) := by decide +kernel
theorem dX4_stepToNextRow_79 : decode cX4_stepToNextRow 79 = .ok (.istore 4, 2) := by decide +kernel
theorem dX4_stepToNextRow_81 : decode cX4_stepToNextRow 81 = .ok (.iload_n 1, 1) := by decide +kernel
theorem dX4_stepToNextRow_82 : decode cX4_stepToNextRow 82 = .ok (.iconst 1, 1) := by decide +kernel
theorem dX4_stepToNextRow_83 : decode cX4_stepToNextRow 83 = .ok (.isub, 1) := by decide +kernel
theorem dX4_stepToNextRow_84 : decode cX4_stepToNextRow 84 = .ok (.istore 5, 2) := by decide +kernel
theorem dX4_stepToNextRow_86 : decode cX4_stepToNextRow 86 = .ok (.iload 4, 2) := by decide +kernel
theorem dX4_stepToNextRow_88 : decode cX4_stepToNextRow 88 = .ok (.iload 5, 2) := by decide +kernel
theorem dX4_stepToNextRow_90 : decode cX4_stepToNextRow 90 = .ok (.if_icmp .ge 23, 3) := by decide +kernel
theorem dX4_stepToNextRow_93 : decode cX4_stepToNextRow 93 = .ok (.aload_n 0, 1) := by decide +kernel
theorem dX4_stepToNextRow_94 : decode cX4_stepToNextRow 94 = .ok (.getfield 69, 3) := by decide +kernel
theorem dX4_stepToNextRow_97 : decode cX4_stepToNextRow 97 = .ok (.iload 4, 2) := by decide +kernel
theorem dX4_stepToNextRow_99 : decode cX4_stepToNextRow 99 = .ok (.iload 5, 2) := by decide +kernel
theorem dX4_stepToNextRow_101 : decode cX4_stepToNextRow 101 = .ok (.invokestatic 105, 3) := by decide +kernel
theorem dX4_stepToNextRow_104 : decode cX4_stepToNextRow 104 = .ok (.iinc 4 1, 3) := by decide +kernel
theorem dX4_stepToNextRow_107 : decode cX4_stepToNextRow 107 = .ok (.iinc 5 (-1), 3) := by decide +kernel
theorem dX4_stepToNextRow_110 : decode cX4_stepToNextRow 110 = .ok (.goto (-24), 3) := by decide +kernel
theorem dX4_stepToNextRow_113 : decode cX4_stepToNextRow 113 = .ok (.iconst 1, 1) := by decide +kernel
theorem dX4_stepToNextRow_114 : decode cX4_stepToNextRow 114 = .ok (.ireturn, 1) := by decide +kernel
theorem dX4_lastHeardStep_0 : decode cX4_lastHeardStep 0 = .ok (.iconst (-1), 1) := by decide +kernel
theorem dX4_lastHeardStep_1 : decode cX4_lastHeardStep 1 = .ok (.istore_n 1, 1) := by decide +kernel
theorem dX4_lastHeardStep_2 : decode cX4_lastHeardStep 2 = .ok (.iconst 0, 1) := by decide +kernel
theorem dX4_lastHeardStep_3 : decode cX4_lastHeardStep 3 = .ok (.istore_n 2, 1) := by decide +kernel
theorem dX4_lastHeardStep_4 : decode cX4_lastHeardStep 4 = .ok (.iload_n 2, 1) := by decide +kernel
theorem dX4_lastHeardStep_5 : decode cX4_lastHeardStep 5 = .ok (.aload_n 0, 1) := by decide +kernel
theorem dX4_lastHeardStep_6 : decode cX4_lastHeardStep 6 = .ok (.getfield 37, 3) := by decide +kernel
theorem dX4_lastHeardStep_9 : decode cX4_lastHeardStep 9 = .ok (.if_icmp .ge 20, 3) := by decide +kernel
theorem dX4_lastHeardStep_12 : decode cX4_lastHeardStep 12 = .ok (.iload_n 1, 1) := by decide +kernel
theorem dX4_lastHeardStep_13 : decode cX4_lastHeardStep 13 = .ok (.aload_n 0, 1) := by decide +kernel
theorem dX4_lastHeardStep_14 : decode cX4_lastHeardStep 14 = .ok (.getfield 31, 3) := by decide +kernel
theorem dX4_lastHeardStep_17 : decode cX4_lastHeardStep 17 = .ok (.iload_n 2, 1) := by decide +kernel
theorem dX4_lastHeardStep_18 : decode cX4_lastHeardStep 18 = .ok (.iaload, 1) := by decide +kernel
theorem dX4_lastHeardStep_19 : decode cX4_lastHeardStep 19 = .ok (.invokestatic 333, 3) := by decide +kernel
theorem dX4_lastHeardStep_22 : decode cX4_lastHeardStep 22 = .ok (.istore_n 1, 1) := by decide +kernel
theorem dX4_lastHeardStep_23 : decode cX4_lastHeardStep 23 = .ok (.iinc 2 1, 3) := by decide +kernel
theorem dX4_lastHeardStep_26 : decode cX4_lastHeardStep 26 = .ok (.goto (-22), 3) := by decide +kernel
theorem dX4_lastHeardStep_29 : decode cX4_lastHeardStep 29 = .ok (.iload_n 1, 1) := by decide +kernel
theorem dX4_lastHeardStep_30 : decode cX4_lastHeardStep 30 = .ok (.ireturn, 1) := by decide +kernel
theorem dX4_isAsHeard_0 : decode cX4_isAsHeard 0 = .ok (.iconst 0, 1) := by decide +kernel
theorem dX4_isAsHeard_1 : decode cX4_isAsHeard 1 = .ok (.istore_n 1, 1) := by decide +kernel
theorem dX4_isAsHeard_2 : decode cX4_isAsHeard 2 = .ok (.iload_n 1, 1) := by decide +kernel
theorem dX4_isAsHeard_3 : decode cX4_isAsHeard 3 = .ok (.aload_n 0, 1) := by decide +kernel
theorem dX4_isAsHeard_4 : decode cX4_isAsHeard 4 = .ok (.getfield 37, 3) := by decide +kernel
theorem dX4_isAsHeard_7 : decode cX4_isAsHeard 7 = .ok (.if_icmp .ge 37, 3) := by decide +kernel
theorem dX4_isAsHeard_10 : decode cX4_isAsHeard 10 = .ok (.aload_n 0, 1) := by decide +kernel
theorem dX4_isAsHeard_11 : decode cX4_isAsHeard 11 = .ok (.getfield 60, 3) := by decide +kernel
theorem dX4_isAsHeard_14 : decode cX4_isAsHeard 14 = .ok (.getfield 146, 3) := by decide +kernel
theorem dX4_isAsHeard_17 : decode cX4_isAsHeard 17 = .ok (.aload_n 0, 1) := by decide +kernel
theorem dX4_isAsHeard_18 : decode cX4_isAsHeard 18 = .ok (.getfield 31, 3) := by decide +kernel
theorem dX4_isAsHeard_21 : decode cX4_isAsHeard 21 = .ok (.iload_n 1, 1) := by decide +kernel
theorem dX4_isAsHeard_22 : decode cX4_isAsHeard 22 = .ok (.iaload, 1) := by decide +kernel
theorem dX4_isAsHeard_23 : decode cX4_isAsHeard 23 = .ok (.iaload, 1) := by decide +kernel
theorem dX4_isAsHeard_24 : decode cX4_isAsHeard 24 = .ok (.invokestatic 152, 3) := by decide +kernel
theorem dX4_isAsHeard_27 : decode cX4_isAsHeard 27 = .ok (.aload_n 0, 1) := by decide +kernel
theorem dX4_isAsHeard_28 : decode cX4_isAsHeard 28 = .ok (.getfield 34, 3) := by decide +kernel
theorem dX4_isAsHeard_31 : decode cX4_isAsHeard 31 = .ok (.iload_n 1, 1) := by decide +kernel
theorem dX4_isAsHeard_32 : decode cX4_isAsHeard 32 = .ok (.iaload, 1) := by decide +kernel
theorem dX4_isAsHeard_33 : decode cX4_isAsHeard 33 = .ok (.if_icmp .eq 5, 3) := by decide +kernel
theorem dX4_isAsHeard_36 : decode cX4_isAsHeard 36 = .ok (.iconst 0, 1) := by decide +kernel
theorem dX4_isAsHeard_37 : decode cX4_isAsHeard 37 = .ok (.ireturn, 1) := by decide +kernel
theorem dX4_isAsHeard_38 : decode cX4_isAsHeard 38 = .ok (.iinc 1 1, 3) := by decide +kernel
theorem dX4_isAsHeard_41 : decode cX4_isAsHeard 41 = .ok (.goto (-39), 3) := by decide +kernel
theorem dX4_isAsHeard_44 : decode cX4_isAsHeard 44 = .ok (.iconst 1, 1) := by decide +kernel
theorem dX4_isAsHeard_45 : decode cX4_isAsHeard 45 = .ok (.ireturn, 1) := by decide +kernel
theorem dX4_findFitting_0 : decode cX4_findFitting 0 = .ok (.aload_n 0, 1) := by decide +kernel
theorem dX4_findFitting_1 : decode cX4_findFitting 1 = .ok (.getfield 60, 3) := by decide +kernel
theorem dX4_findFitting_4 : decode cX4_findFitting 4 = .ok (.aload_n 0, 1) := by decide +kernel
theorem dX4_findFitting_5 : decode cX4_findFitting 5 = .ok (.getfield 12, 3) := by decide +kernel
theorem dX4_findFitting_8 : decode cX4_findFitting 8 = .ok (.aload_n 0, 1) := by decide +kernel
theorem dX4_findFitting_9 : decode cX4_findFitting 9 = .ok (.getfield 16, 3) := by decide +kernel
theorem dX4_findFitting_12 : decode cX4_findFitting 12 = .ok (.aload_n 0, 1) := by decide +kernel
theorem dX4_findFitting_13 : decode cX4_findFitting 13 = .ok (.getfield 20, 3) := by decide +kernel
theorem dX4_findFitting_16 : decode cX4_findFitting 16 = .ok (.aload_n 0, 1) := by decide +kernel
theorem dX4_findFitting_17 : decode cX4_findFitting 17 = .ok (.getfield 27, 3) := by decide +kernel
theorem dX4_findFitting_20 : decode cX4_findFitting 20 = .ok (.invokevirtual 161, 3) := by decide +kernel
theorem dX4_findFitting_23 : decode cX4_findFitting 23 = .ok (.aload_n 0, 1) := by decide +kernel
theorem dX4_findFitting_24 : decode cX4_findFitting 24 = .ok (.invokevirtual 183, 3) := by decide +kernel
theorem dX4_findFitting_27 : decode cX4_findFitting 27 = .ok (.istore_n 2, 1) := by decide +kernel
theorem dX4_findFitting_28 : decode cX4_findFitting 28 = .ok (.iconst 0, 1) := by decide +kernel
theorem dX4_findFitting_29 : decode cX4_findFitting 29 = .ok (.istore_n 3, 1) := by decide +kernel
theorem dX4_findFitting_30 : decode cX4_findFitting 30 = .ok (.iconst 1, 1) := by decide +kernel
theorem dX4_findFitting_31 : decode cX4_findFitting 31 = .ok (.istore 4, 2) := by decide +kernel
theorem dX4_findFitting_33 : decode cX4_findFitting 33 = .ok (.iload 4, 2) := by decide +kernel
theorem dX4_findFitting_35 : decode cX4_findFitting 35 = .ok (.bipush 40, 2) := by decide +kernel
theorem dX4_findFitting_37 : decode cX4_findFitting 37 = .ok (.if_icmp .gt 69, 3) := by decide +kernel
theorem dX4_findFitting_40 : decode cX4_findFitting 40 = .ok (.iload_n 3, 1) := by decide +kernel
theorem dX4_findFitting_41 : decode cX4_findFitting 41 = .ok (.bipush 37, 2) := by decide +kernel
theorem dX4_findFitting_43 : decode cX4_findFitting 43 = .ok (.if_icmp .ge 63, 3) := by decide +kernel
theorem dX4_findFitting_46 : decode cX4_findFitting 46 = .ok (.iload 4, 2) := by decide +kernel
theorem dX4_findFitting_48 : decode cX4_findFitting 48 = .ok (.bipush 10, 2) := by decide +kernel
theorem dX4_findFitting_50 : decode cX4_findFitting 50 = .ok (.irem, 1) := by decide +kernel
theorem dX4_findFitting_51 : decode cX4_findFitting 51 = .ok (.ifCond .ne 13, 3) := by decide +kernel
theorem dX4_findFitting_54 : decode cX4_findFitting 54 = .ok (.iload 4, 2) := by decide +kernel
theorem dX4_findFitting_56 : decode cX4_findFitting 56 = .ok (.bipush 40, 2) := by decide +kernel
theorem dX4_findFitting_58 : decode cX4_findFitting 58 = .ok (.if_icmp .eq 6, 3) := by decide +kernel
theorem dX4_findFitting_61 : decode cX4_findFitting 61 = .ok (.goto 39, 3) := by decide +kernel
theorem dX4_findFitting_64 : decode cX4_findFitting 64 = .ok (.aload_n 0, 1) := by decide +kernel
theorem dX4_findFitting_65 : decode cX4_findFitting 65 = .ok (.getfield 60, 3) := by decide +kernel
theorem dX4_findFitting_68 : decode cX4_findFitting 68 = .ok (.iload_n 1, 1) := by decide +kernel
theorem dX4_findFitting_69 : decode cX4_findFitting 69 = .ok (.iload 4, 2) := by decide +kernel
theorem dX4_findFitting_71 : decode cX4_findFitting 71 = .ok (.invokevirtual 338, 3) := by decide +kernel
theorem dX4_findFitting_74 : decode cX4_findFitting 74 = .ok (.aload_n 0, 1) := by decide +kernel
theorem dX4_findFitting_75 : decode cX4_findFitting 75 = .ok (.getfield 60, 3) := by decide +kernel
theorem dX4_findFitting_78 : decode cX4_findFitting 78 = .ok (.iload_n 2, 1) := by decide +kernel
theorem dX4_findFitting_79 : decode cX4_findFitting 79 = .ok (.invokevirtual 187, 3) := by decide +kernel
theorem dX4_findFitting_82 : decode cX4_findFitting 82 = .ok (.aload_n 0, 1) := by decide +kernel
theorem dX4_findFitting_83 : decode cX4_findFitting 83 = .ok (.invokevirtual 191, 3) := by decide +kernel
theorem dX4_findFitting_86 : decode cX4_findFitting 86 = .ok (.ifCond .eq 14, 3) := by decide +kernel
theorem dX4_findFitting_89 : decode cX4_findFitting 89 = .ok (.aload_n 0, 1) := by decide +kernel
theorem dX4_findFitting_90 : decode cX4_findFitting 90 = .ok (.getfield 63, 3) := by decide +kernel
theorem dX4_findFitting_93 : decode cX4_findFitting 93 = .ok (.iload_n 3, 1) := by decide +kernel
theorem dX4_findFitting_94 : decode cX4_findFitting 94 = .ok (.iload 4, 2) := by decide +kernel
theorem dX4_findFitting_96 : decode cX4_findFitting 96 = .ok (.iastore, 1) := by decide +kernel
theorem dX4_findFitting_97 : decode cX4_findFitting 97 = .ok (.iinc 3 1, 3) := by decide +kernel
theorem dX4_findFitting_100 : decode cX4_findFitting 100 = .ok (.iinc 4 1, 3) := by decide +kernel
theorem dX4_findFitting_103 : decode cX4_findFitting 103 = .ok (.goto (-70), 3) := by decide +kernel
theorem dX4_findFitting_106 : decode cX4_findFitting 106 = .ok (.iload_n 3, 1) := by decide +kernel
theorem dX4_findFitting_107 : decode cX4_findFitting 107 = .ok (.ireturn, 1) := by decide +kernel
theorem dX4_greatestAlike_0 : decode cX4_greatestAlike 0 = .ok (.aload_n 0, 1) := by decide +kernel
theorem dX4_greatestAlike_1 : decode cX4_greatestAlike 1 = .ok (.getfield 60, 3) := by decide +kernel
theorem dX4_greatestAlike_4 : decode cX4_greatestAlike 4 = .ok (.getfield 214, 3) := by decide +kernel
theorem dX4_greatestAlike_7 : decode cX4_greatestAlike 7 = .ok (.iconst 0, 1) := by decide +kernel
theorem dX4_greatestAlike_8 : decode cX4_greatestAlike 8 = .ok (.aaload, 1) := by decide +kernel
theorem dX4_greatestAlike_9 : decode cX4_greatestAlike 9 = .ok (.iload_n 2, 1) := by decide +kernel
theorem dX4_greatestAlike_10 : decode cX4_greatestAlike 10 = .ok (.iaload, 1) := by decide +kernel
theorem dX4_greatestAlike_11 : decode cX4_greatestAlike 11 = .ok (.istore 5, 2) := by decide +kernel
theorem dX4_greatestAlike_13 : decode cX4_greatestAlike 13 = .ok (.aload_n 0, 1) := by decide +kernel
theorem dX4_greatestAlike_14 : decode cX4_greatestAlike 14 = .ok (.getfield 60, 3) := by decide +kernel
theorem dX4_greatestAlike_17 : decode cX4_greatestAlike 17 = .ok (.getfield 214, 3) := by decide +kernel
theorem dX4_greatestAlike_20 : decode cX4_greatestAlike 20 = .ok (.iconst 0, 1) := by decide +kernel
theorem dX4_greatestAlike_21 : decode cX4_greatestAlike 21 = .ok (.aaload, 1) := by decide +kernel
theorem dX4_greatestAlike_22 : decode cX4_greatestAlike 22 = .ok (.iload_n 2, 1) := by decide +kernel
theorem dX4_greatestAlike_23 : decode cX4_greatestAlike 23 = .ok (.iload 5, 2) := by decide +kernel
theorem dX4_greatestAlike_25 : decode cX4_greatestAlike 25 = .ok (.iconst 1, 1) := by decide +kernel
theorem dX4_greatestAlike_26 : decode cX4_greatestAlike 26 = .ok (.iload_n 3, 1) := by decide +kernel
theorem dX4_greatestAlike_27 : decode cX4_greatestAlike 27 = .ok (.ishl, 1) := by decide +kernel
theorem dX4_greatestAlike_28 : decode cX4_greatestAlike 28 = .ok (.ior, 1) := by decide +kernel
theorem dX4_greatestAlike_29 : decode cX4_greatestAlike 29 = .ok (.iastore, 1) := by decide +kernel
theorem dX4_greatestAlike_30 : decode cX4_greatestAlike 30 = .ok (.aload_n 0, 1) := by decide +kernel
theorem dX4_greatestAlike_31 : decode cX4_greatestAlike 31 = .ok (.getfield 66, 3) := by decide +kernel
theorem dX4_greatestAlike_34 : decode cX4_greatestAlike 34 = .ok (.iconst 0, 1) := by decide +kernel
theorem dX4_greatestAlike_35 : decode cX4_greatestAlike 35 = .ok (.invokestatic 341, 3) := by decide +kernel
theorem dX4_greatestAlike_38 : decode cX4_greatestAlike 38 = .ok (.iconst 0, 1) := by decide +kernel
theorem dX4_greatestAlike_39 : decode cX4_greatestAlike 39 = .ok (.istore 6, 2) := by decide +kernel
theorem dX4_greatestAlike_41 : decode cX4_greatestAlike 41 = .ok (.iconst 0, 1) := by decide +kernel
theorem dX4_greatestAlike_42 : decode cX4_greatestAlike 42 = .ok (.istore 7, 2) := by decide +kernel
theorem dX4_greatestAlike_44 : decode cX4_greatestAlike 44 = .ok (.iload 7, 2) := by decide +kernel
theorem dX4_greatestAlike_46 : decode cX4_greatestAlike 46 = .ok (.iload 4, 2) := by decide +kernel
theorem dX4_greatestAlike_48 : decode cX4_greatestAlike 48 = .ok (.if_icmp .ge 71, 3) := by decide +kernel
theorem dX4_greatestAlike_51 : decode cX4_greatestAlike 51 = .ok (.aload_n 0, 1) := by decide +kernel
theorem dX4_greatestAlike_52 : decode cX4_greatestAlike 52 = .ok (.getfield 60, 3) := by decide +kernel
theorem dX4_greatestAlike_55 : decode cX4_greatestAlike 55 = .ok (.iload_n 1, 1) := by decide +kernel
theorem dX4_greatestAlike_56 : decode cX4_greatestAlike 56 = .ok (.aload_n 0, 1) := by decide +kernel
theorem dX4_greatestAlike_57 : decode cX4_greatestAlike 57 = .ok (.getfield 63, 3) := by decide +kernel
theorem dX4_greatestAlike_60 : decode cX4_greatestAlike 60 = .ok (.iload 7, 2) := by decide +kernel
theorem dX4_greatestAlike_62 : decode cX4_greatestAlike 62 = .ok (.iaload, 1) := by decide +kernel
theorem dX4_greatestAlike_63 : decode cX4_greatestAlike 63 = .ok (.invokevirtual 338, 3) := by decide +kernel
theorem dX4_greatestAlike_66 : decode cX4_greatestAlike 66 = .ok (.aload_n 0, 1) := by decide +kernel
theorem dX4_greatestAlike_67 : decode cX4_greatestAlike 67 = .ok (.getfield 60, 3) := by decide +kernel
theorem dX4_greatestAlike_70 : decode cX4_greatestAlike 70 = .ok (.iload_n 2, 1) := by decide +kernel
theorem dX4_greatestAlike_71 : decode cX4_greatestAlike 71 = .ok (.invokevirtual 187, 3) := by decide +kernel
theorem dX4_greatestAlike_74 : decode cX4_greatestAlike 74 = .ok (.aload_n 0, 1) := by decide +kernel
theorem dX4_greatestAlike_75 : decode cX4_greatestAlike 75 = .ok (.getfield 60, 3) := by decide +kernel
theorem dX4_greatestAlike_78 : decode cX4_greatestAlike 78 = .ok (.getfield 146, 3) := by decide +kernel
theorem dX4_greatestAlike_81 : decode cX4_greatestAlike 81 = .ok (.iload_n 2, 1) := by decide +kernel
theorem dX4_greatestAlike_82 : decode cX4_greatestAlike 82 = .ok (.iaload, 1) := by decide +kernel
theorem dX4_greatestAlike_83 : decode cX4_greatestAlike 83 = .ok (.invokestatic 152, 3) := by decide +kernel
theorem dX4_greatestAlike_86 : decode cX4_greatestAlike 86 = .ok (.istore 8, 2) := by decide +kernel
theorem dX4_greatestAlike_88 : decode cX4_greatestAlike 88 = .ok (.aload_n 0, 1) := by decide +kernel
theorem dX4_greatestAlike_89 : decode cX4_greatestAlike 89 = .ok (.getfield 66, 3) := by decide +kernel
theorem dX4_greatestAlike_92 : decode cX4_greatestAlike 92 = .ok (.iload 8, 2) := by decide +kernel
theorem dX4_greatestAlike_94 : decode cX4_greatestAlike 94 = .ok (.dup2, 1) := by decide +kernel
theorem dX4_greatestAlike_95 : decode cX4_greatestAlike 95 = .ok (.iaload, 1) := by decide +kernel
theorem dX4_greatestAlike_96 : decode cX4_greatestAlike 96 = .ok (.iconst 1, 1) := by decide +kernel
theorem dX4_greatestAlike_97 : decode cX4_greatestAlike 97 = .ok (.iadd, 1) := by decide +kernel
theorem dX4_greatestAlike_98 : decode cX4_greatestAlike 98 = .ok (.iastore, 1) := by decide +kernel
theorem dX4_greatestAlike_99 : decode cX4_greatestAlike 99 = .ok (.iload 6, 2) := by decide +kernel
theorem dX4_greatestAlike_101 : decode cX4_greatestAlike 101 = .ok (.aload_n 0, 1) := by decide +kernel
theorem dX4_greatestAlike_102 : decode cX4_greatestAlike 102 = .ok (.getfield 66, 3) := by decide +kernel
theorem dX4_greatestAlike_105 : decode cX4_greatestAlike 105 = .ok (.iload 8, 2) := by decide +kernel
theorem dX4_greatestAlike_107 : decode cX4_greatestAlike 107 = .ok (.iaload, 1) := by decide +kernel
theorem dX4_greatestAlike_108 : decode cX4_greatestAlike 108 = .ok (.invokestatic 333, 3) := by decide +kernel
theorem dX4_greatestAlike_111 : decode cX4_greatestAlike 111 = .ok (.istore 6, 2) := by decide +kernel
theorem dX4_greatestAlike_113 : decode cX4_greatestAlike 113 = .ok (.iinc 7 1, 3) := by decide +kernel
theorem dX4_greatestAlike_116 : decode cX4_greatestAlike 116 = .ok (.goto (-72), 3) := by decide +kernel
theorem dX4_greatestAlike_119 : decode cX4_greatestAlike 119 = .ok (.aload_n 0, 1) := by decide +kernel
theorem dX4_greatestAlike_120 : decode cX4_greatestAlike 120 = .ok (.getfield 60, 3) := by decide +kernel
theorem dX4_greatestAlike_123 : decode cX4_greatestAlike 123 = .ok (.getfield 214, 3) := by decide +kernel
theorem dX4_greatestAlike_126 : decode cX4_greatestAlike 126 = .ok (.iconst 0, 1) := by decide +kernel
theorem dX4_greatestAlike_127 : decode cX4_greatestAlike 127 = .ok (.aaload, 1) := by decide +kernel
theorem dX4_greatestAlike_128 : decode cX4_greatestAlike 128 = .ok (.iload_n 2, 1) := by decide +kernel
theorem dX4_greatestAlike_129 : decode cX4_greatestAlike 129 = .ok (.iload 5, 2) := by decide +kernel
theorem dX4_greatestAlike_131 : decode cX4_greatestAlike 131 = .ok (.iastore, 1) := by decide +kernel
theorem dX4_greatestAlike_132 : decode cX4_greatestAlike 132 = .ok (.iload 6, 2) := by decide +kernel
theorem dX4_greatestAlike_134 : decode cX4_greatestAlike 134 = .ok (.ireturn, 1) := by decide +kernel
theorem dX4_weightUp_0 : decode cX4_weightUp 0 = .ok (.aload_n 0, 1) := by decide +kernel
theorem dX4_weightUp_1 : decode cX4_weightUp 1 = .ok (.getfield 60, 3) := by decide +kernel
theorem dX4_weightUp_4 : decode cX4_weightUp 4 = .ok (.aload_n 0, 1) := by decide +kernel
theorem dX4_weightUp_5 : decode cX4_weightUp 5 = .ok (.getfield 12, 3) := by decide +kernel
theorem dX4_weightUp_8 : decode cX4_weightUp 8 = .ok (.aload_n 0, 1) := by decide +kernel
theorem dX4_weightUp_9 : decode cX4_weightUp 9 = .ok (.getfield 16, 3) := by decide +kernel
theorem dX4_weightUp_12 : decode cX4_weightUp 12 = .ok (.aload_n 0, 1) := by decide +kernel
theorem dX4_weightUp_13 : decode cX4_weightUp 13 = .ok (.getfield 20, 3) := by decide +kernel
theorem dX4_weightUp_16 : decode cX4_weightUp 16 = .ok (.aload_n 0, 1) := by decide +kernel
theorem dX4_weightUp_17 : decode cX4_weightUp 17 = .ok (.getfield 27, 3) := by decide +kernel
theorem dX4_weightUp_20 : decode cX4_weightUp 20 = .ok (.invokevirtual 161, 3) := by decide +kernel
theorem dX4_weightUp_23 : decode cX4_weightUp 23 = .ok (.aload_n 0, 1) := by decide +kernel
theorem dX4_weightUp_24 : decode cX4_weightUp 24 = .ok (.getfield 12, 3) := by decide +kernel
theorem dX4_weightUp_27 : decode cX4_weightUp 27 = .ok (.getfield 93, 3) := by decide +kernel
theorem dX4_weightUp_30 : decode cX4_weightUp 30 = .ok (.iload_n 2, 1) := by decide +kernel
theorem dX4_weightUp_31 : decode cX4_weightUp 31 = .ok (.iaload, 1) := by decide +kernel
theorem dX4_weightUp_32 : decode cX4_weightUp 32 = .ok (.iconst 2, 1) := by decide +kernel
theorem dX4_weightUp_33 : decode cX4_weightUp 33 = .ok (.if_icmp .eq 32, 3) := by decide +kernel
theorem dX4_weightUp_36 : decode cX4_weightUp 36 = .ok (.aload_n 0, 1) := by decide +kernel
theorem dX4_weightUp_37 : decode cX4_weightUp 37 = .ok (.getfield 60, 3) := by decide +kernel
theorem dX4_weightUp_40 : decode cX4_weightUp 40 = .ok (.iload_n 3, 1) := by decide +kernel
theorem dX4_weightUp_41 : decode cX4_weightUp 41 = .ok (.invokevirtual 187, 3) := by decide +kernel
theorem dX4_weightUp_44 : decode cX4_weightUp 44 = .ok (.aload_n 0, 1) := by decide +kernel
theorem dX4_weightUp_45 : decode cX4_weightUp 45 = .ok (.getfield 60, 3) := by decide +kernel
theorem dX4_weightUp_48 : decode cX4_weightUp 48 = .ok (.iload_n 2, 1) := by decide +kernel
theorem dX4_weightUp_49 : decode cX4_weightUp 49 = .ok (.iload_n 3, 1) := by decide +kernel
theorem dX4_weightUp_50 : decode cX4_weightUp 50 = .ok (.invokevirtual 347, 3) := by decide +kernel
theorem dX4_weightUp_53 : decode cX4_weightUp 53 = .ok (.ifCond .eq 10, 3) := by decide +kernel
theorem dX4_weightUp_56 : decode cX4_weightUp 56 = .ok (.iload_n 3, 1) := by decide +kernel
theorem dX4_weightUp_57 : decode cX4_weightUp 57 = .ok (.invokestatic 201, 3) := by decide +kernel
theorem dX4_weightUp_60 : decode cX4_weightUp 60 = .ok (.goto 4, 3) := by decide +kernel
theorem dX4_weightUp_63 : decode cX4_weightUp 63 = .ok (.lconst 0, 1) := by decide +kernel
theorem dX4_weightUp_64 : decode cX4_weightUp 64 = .ok (.lreturn, 1) := by decide +kernel
theorem dX4_weightUp_65 : decode cX4_weightUp 65 = .ok (.lconst 0, 1) := by decide +kernel
theorem dX4_weightUp_66 : decode cX4_weightUp 66 = .ok (.lstore 4, 2) := by decide +kernel
theorem dX4_weightUp_68 : decode cX4_weightUp 68 = .ok (.iconst 1, 1) := by decide +kernel
theorem dX4_weightUp_69 : decode cX4_weightUp 69 = .ok (.iload_n 3, 1) := by decide +kernel
theorem dX4_weightUp_70 : decode cX4_weightUp 70 = .ok (.iconst 1, 1) := by decide +kernel
theorem dX4_weightUp_71 : decode cX4_weightUp 71 = .ok (.iadd, 1) := by decide +kernel
theorem dX4_weightUp_72 : decode cX4_weightUp 72 = .ok (.ishl, 1) := by decide +kernel
theorem dX4_weightUp_73 : decode cX4_weightUp 73 = .ok (.istore 6, 2) := by decide +kernel
theorem dX4_weightUp_75 : decode cX4_weightUp 75 = .ok (.iconst 0, 1) := by decide +kernel
theorem dX4_weightUp_76 : decode cX4_weightUp 76 = .ok (.istore 7, 2) := by decide +kernel
theorem dX4_weightUp_78 : decode cX4_weightUp 78 = .ok (.iload 7, 2) := by decide +kernel
theorem dX4_weightUp_80 : decode cX4_weightUp 80 = .ok (.iload 6, 2) := by decide +kernel
theorem dX4_weightUp_82 : decode cX4_weightUp 82 = .ok (.if_icmp .ge 66, 3) := by decide +kernel
theorem dX4_weightUp_85 : decode cX4_weightUp 85 = .ok (.iload_n 1, 1) := by decide +kernel
theorem dX4_weightUp_86 : decode cX4_weightUp 86 = .ok (.iload 7, 2) := by decide +kernel
theorem dX4_weightUp_88 : decode cX4_weightUp 88 = .ok (.iload_n 3, 1) := by decide +kernel
theorem dX4_weightUp_89 : decode cX4_weightUp 89 = .ok (.invokestatic 350, 3) := by decide +kernel
theorem dX4_weightUp_92 : decode cX4_weightUp 92 = .ok (.lstore 8, 2) := by decide +kernel
theorem dX4_weightUp_94 : decode cX4_weightUp 94 = .ok (.lload 8, 2) := by decide +kernel
theorem dX4_weightUp_96 : decode cX4_weightUp 96 = .ok (.lconst 0, 1) := by decide +kernel
theorem dX4_weightUp_97 : decode cX4_weightUp 97 = .ok (.lcmp, 1) := by decide +kernel
theorem dX4_weightUp_98 : decode cX4_weightUp 98 = .ok (.ifCond .ne 6, 3) := by decide +kernel
theorem dX4_weightUp_101 : decode cX4_weightUp 101 = .ok (.goto 41, 3) := by decide +kernel
theorem dX4_weightUp_104 : decode cX4_weightUp 104 = .ok (.aload_n 0, 1) := by decide +kernel
theorem dX4_weightUp_105 : decode cX4_weightUp 105 = .ok (.getfield 60, 3) := by decide +kernel
theorem dX4_weightUp_108 : decode cX4_weightUp 108 = .ok (.iload_n 2, 1) := by decide +kernel
theorem dX4_weightUp_109 : decode cX4_weightUp 109 = .ok (.iload 7, 2) := by decide +kernel
theorem dX4_weightUp_111 : decode cX4_weightUp 111 = .ok (.iload_n 3, 1) := by decide +kernel
theorem dX4_weightUp_112 : decode cX4_weightUp 112 = .ok (.invokevirtual 353, 3) := by decide +kernel
theorem dX4_weightUp_115 : decode cX4_weightUp 115 = .ok (.aload_n 0, 1) := by decide +kernel
theorem dX4_weightUp_116 : decode cX4_weightUp 116 = .ok (.getfield 60, 3) := by decide +kernel
theorem dX4_weightUp_119 : decode cX4_weightUp 119 = .ok (.iload_n 3, 1) := by decide +kernel
theorem dX4_weightUp_120 : decode cX4_weightUp 120 = .ok (.invokevirtual 187, 3) := by decide +kernel
theorem dX4_weightUp_123 : decode cX4_weightUp 123 = .ok (.aload_n 0, 1) := by decide +kernel
theorem dX4_weightUp_124 : decode cX4_weightUp 124 = .ok (.getfield 60, 3) := by decide +kernel
theorem dX4_weightUp_127 : decode cX4_weightUp 127 = .ok (.iload_n 2, 1) := by decide +kernel
theorem dX4_weightUp_128 : decode cX4_weightUp 128 = .ok (.iload_n 3, 1) := by decide +kernel
theorem dX4_weightUp_129 : decode cX4_weightUp 129 = .ok (.invokevirtual 347, 3) := by decide +kernel
theorem dX4_weightUp_132 : decode cX4_weightUp 132 = .ok (.ifCond .eq 10, 3) := by decide +kernel
theorem dX4_weightUp_135 : decode cX4_weightUp 135 = .ok (.lload 4, 2) := by decide +kernel
theorem dX4_weightUp_137 : decode cX4_weightUp 137 = .ok (.lload 8, 2) := by decide +kernel
theorem dX4_weightUp_139 : decode cX4_weightUp 139 = .ok (.ladd, 1) := by decide +kernel
theorem dX4_weightUp_140 : decode cX4_weightUp 140 = .ok (.lstore 4, 2) := by decide +kernel
theorem dX4_weightUp_142 : decode cX4_weightUp 142 = .ok (.iinc 7 1, 3) := by decide +kernel
theorem dX4_weightUp_145 : decode cX4_weightUp 145 = .ok (.goto (-67), 3) := by decide +kernel
theorem dX4_weightUp_148 : decode cX4_weightUp 148 = .ok (.lload 4, 2) := by decide +kernel
theorem dX4_weightUp_150 : decode cX4_weightUp 150 = .ok (.lreturn, 1) := by decide +kernel
theorem dX4_wholeWeight_0 : decode cX4_wholeWeight 0 = .ok (.lconst 1, 1) := by decide +kernel
theorem dX4_wholeWeight_1 : decode cX4_wholeWeight 1 = .ok (.iconst 4, 1) := by decide +kernel
theorem dX4_wholeWeight_2 : decode cX4_wholeWeight 2 = .ok (.iload_n 0, 1) := by decide +kernel
theorem dX4_wholeWeight_3 : decode cX4_wholeWeight 3 = .ok (.iconst 1, 1) := by decide +kernel
theorem dX4_wholeWeight_4 : decode cX4_wholeWeight 4 = .ok (.iadd, 1) := by decide +kernel
theorem dX4_wholeWeight_5 : decode cX4_wholeWeight 5 = .ok (.imul, 1) := by decide +kernel
theorem dX4_wholeWeight_6 : decode cX4_wholeWeight 6 = .ok (.lshl, 1) := by decide +kernel
theorem dX4_wholeWeight_7 : decode cX4_wholeWeight 7 = .ok (.lreturn, 1) := by decide +kernel
theorem dX4_weight_0 : decode cX4_weight 0 = .ok (.lconst 1, 1) := by decide +kernel
theorem dX4_weight_1 : decode cX4_weight 1 = .ok (.lstore_n 3, 1) := by decide +kernel
theorem dX4_weight_2 : decode cX4_weight 2 = .ok (.iconst 0, 1) := by decide +kernel
theorem dX4_weight_3 : decode cX4_weight 3 = .ok (.istore 5, 2) := by decide +kernel
theorem dX4_weight_5 : decode cX4_weight 5 = .ok (.iload 5, 2) := by decide +kernel
theorem dX4_weight_7 : decode cX4_weight 7 = .ok (.iload_n 2, 1) := by decide +kernel
theorem dX4_weight_8 : decode cX4_weight 8 = .ok (.if_icmp .gt 31, 3) := by decide +kernel
theorem dX4_weight_11 : decode cX4_weight 11 = .ok (.lload_n 3, 1) := by decide +kernel
theorem dX4_weight_12 : decode cX4_weight 12 = .ok (.iload_n 1, 1) := by decide +kernel
theorem dX4_weight_13 : decode cX4_weight 13 = .ok (.iload 5, 2) := by decide +kernel
theorem dX4_weight_15 : decode cX4_weight 15 = .ok (.ishr, 1) := by decide +kernel
theorem dX4_weight_16 : decode cX4_weight 16 = .ok (.iconst 1, 1) := by decide +kernel
theorem dX4_weight_17 : decode cX4_weight 17 = .ok (.iand, 1) := by decide +kernel
theorem dX4_weight_18 : decode cX4_weight 18 = .ok (.ifCond .eq 8, 3) := by decide +kernel
theorem dX4_weight_21 : decode cX4_weight 21 = .ok (.iload_n 0, 1) := by decide +kernel
theorem dX4_weight_22 : decode cX4_weight 22 = .ok (.i2l, 1) := by decide +kernel
theorem dX4_weight_23 : decode cX4_weight 23 = .ok (.goto 8, 3) := by decide +kernel
theorem dX4_weight_26 : decode cX4_weight 26 = .ok (.bipush 16, 2) := by decide +kernel
theorem dX4_weight_28 : decode cX4_weight 28 = .ok (.iload_n 0, 1) := by decide +kernel
theorem dX4_weight_29 : decode cX4_weight 29 = .ok (.isub, 1) := by decide +kernel
theorem dX4_weight_30 : decode cX4_weight 30 = .ok (.i2l, 1) := by decide +kernel
theorem dX4_weight_31 : decode cX4_weight 31 = .ok (.lmul, 1) := by decide +kernel
theorem dX4_weight_32 : decode cX4_weight 32 = .ok (.lstore_n 3, 1) := by decide +kernel
theorem dX4_weight_33 : decode cX4_weight 33 = .ok (.iinc 5 1, 3) := by decide +kernel
theorem dX4_weight_36 : decode cX4_weight 36 = .ok (.goto (-31), 3) := by decide +kernel
theorem dX4_weight_39 : decode cX4_weight 39 = .ok (.lload_n 3, 1) := by decide +kernel
theorem dX4_weight_40 : decode cX4_weight 40 = .ok (.lreturn, 1) := by decide +kernel
theorem dX4_commonDivisor_0 : decode cX4_commonDivisor 0 = .ok (.lload_n 2, 1) := by decide +kernel
theorem dX4_commonDivisor_1 : decode cX4_commonDivisor 1 = .ok (.lstore 4, 2) := by decide +kernel
theorem dX4_commonDivisor_3 : decode cX4_commonDivisor 3 = .ok (.lload_n 0, 1) := by decide +kernel
theorem dX4_commonDivisor_4 : decode cX4_commonDivisor 4 = .ok (.lstore 6, 2) := by decide +kernel
theorem dX4_commonDivisor_6 : decode cX4_commonDivisor 6 = .ok (.iconst 0, 1) := by decide +kernel
theorem dX4_commonDivisor_7 : decode cX4_commonDivisor 7 = .ok (.istore 8, 2) := by decide +kernel
theorem dX4_commonDivisor_9 : decode cX4_commonDivisor 9 = .ok (.iload 8, 2) := by decide +kernel
theorem dX4_commonDivisor_11 : decode cX4_commonDivisor 11 = .ok (.bipush 100, 2) := by decide +kernel
theorem dX4_commonDivisor_13 : decode cX4_commonDivisor 13 = .ok (.if_icmp .ge 31, 3) := by decide +kernel
theorem dX4_commonDivisor_16 : decode cX4_commonDivisor 16 = .ok (.lload 6, 2) := by decide +kernel
theorem dX4_commonDivisor_18 : decode cX4_commonDivisor 18 = .ok (.lconst 0, 1) := by decide +kernel
theorem dX4_commonDivisor_19 : decode cX4_commonDivisor 19 = .ok (.lcmp, 1) := by decide +kernel
theorem dX4_commonDivisor_20 : decode cX4_commonDivisor 20 = .ok (.ifCond .eq 24, 3) := by decide +kernel
theorem dX4_commonDivisor_23 : decode cX4_commonDivisor 23 = .ok (.lload 4, 2) := by decide +kernel
theorem dX4_commonDivisor_25 : decode cX4_commonDivisor 25 = .ok (.lload 6, 2) := by decide +kernel
theorem dX4_commonDivisor_27 : decode cX4_commonDivisor 27 = .ok (.lrem, 1) := by decide +kernel
theorem dX4_commonDivisor_28 : decode cX4_commonDivisor 28 = .ok (.lstore 9, 2) := by decide +kernel
theorem dX4_commonDivisor_30 : decode cX4_commonDivisor 30 = .ok (.lload 6, 2) := by decide +kernel
theorem dX4_commonDivisor_32 : decode cX4_commonDivisor 32 = .ok (.lstore 4, 2) := by decide +kernel
theorem dX4_commonDivisor_34 : decode cX4_commonDivisor 34 = .ok (.lload 9, 2) := by decide +kernel
theorem dX4_commonDivisor_36 : decode cX4_commonDivisor 36 = .ok (.lstore 6, 2) := by decide +kernel
theorem dX4_commonDivisor_38 : decode cX4_commonDivisor 38 = .ok (.iinc 8 1, 3) := by decide +kernel
theorem dX4_commonDivisor_41 : decode cX4_commonDivisor 41 = .ok (.goto (-32), 3) := by decide +kernel
theorem dX4_commonDivisor_44 : decode cX4_commonDivisor 44 = .ok (.lload 4, 2) := by decide +kernel
theorem dX4_commonDivisor_46 : decode cX4_commonDivisor 46 = .ok (.lreturn, 1) := by decide +kernel
