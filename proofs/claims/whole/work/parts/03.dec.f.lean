theorem dX5_heard_58 : decode cX5_heard 58 = .ok (.iload_n 2, 1) := by decide +kernel
theorem dX5_heard_59 : decode cX5_heard 59 = .ok (.iastore, 1) := by decide +kernel
theorem dX5_heard_60 : decode cX5_heard 60 = .ok (.aload_n 0, 1) := by decide +kernel
theorem dX5_heard_61 : decode cX5_heard 61 = .ok (.dup, 1) := by decide +kernel
theorem dX5_heard_62 : decode cX5_heard 62 = .ok (.getfield 236, 3) := by decide +kernel
theorem dX5_heard_65 : decode cX5_heard 65 = .ok (.iconst 1, 1) := by decide +kernel
theorem dX5_heard_66 : decode cX5_heard 66 = .ok (.iadd, 1) := by decide +kernel
theorem dX5_heard_67 : decode cX5_heard 67 = .ok (.putfield 236, 3) := by decide +kernel
theorem dX5_heard_70 : decode cX5_heard 70 = .ok (.aload_n 0, 1) := by decide +kernel
theorem dX5_heard_71 : decode cX5_heard 71 = .ok (.getfield 236, 3) := by decide +kernel
theorem dX5_heard_74 : decode cX5_heard 74 = .ok (.ireturn, 1) := by decide +kernel
theorem dX5_forget_0 : decode cX5_forget 0 = .ok (.aload_n 0, 1) := by decide +kernel
theorem dX5_forget_1 : decode cX5_forget 1 = .ok (.getfield 236, 3) := by decide +kernel
theorem dX5_forget_4 : decode cX5_forget 4 = .ok (.istore_n 1, 1) := by decide +kernel
theorem dX5_forget_5 : decode cX5_forget 5 = .ok (.aload_n 0, 1) := by decide +kernel
theorem dX5_forget_6 : decode cX5_forget 6 = .ok (.iconst 0, 1) := by decide +kernel
theorem dX5_forget_7 : decode cX5_forget 7 = .ok (.putfield 236, 3) := by decide +kernel
theorem dX5_forget_10 : decode cX5_forget 10 = .ok (.iload_n 1, 1) := by decide +kernel
theorem dX5_forget_11 : decode cX5_forget 11 = .ok (.ireturn, 1) := by decide +kernel
theorem dX5_isHeard_0 : decode cX5_isHeard 0 = .ok (.iconst 1, 1) := by decide +kernel
theorem dX5_isHeard_1 : decode cX5_isHeard 1 = .ok (.istore_n 1, 1) := by decide +kernel
theorem dX5_isHeard_2 : decode cX5_isHeard 2 = .ok (.iconst 0, 1) := by decide +kernel
theorem dX5_isHeard_3 : decode cX5_isHeard 3 = .ok (.istore_n 2, 1) := by decide +kernel
theorem dX5_isHeard_4 : decode cX5_isHeard 4 = .ok (.iload_n 2, 1) := by decide +kernel
theorem dX5_isHeard_5 : decode cX5_isHeard 5 = .ok (.aload_n 0, 1) := by decide +kernel
theorem dX5_isHeard_6 : decode cX5_isHeard 6 = .ok (.getfield 236, 3) := by decide +kernel
theorem dX5_isHeard_9 : decode cX5_isHeard 9 = .ok (.if_icmp .ge 48, 3) := by decide +kernel
theorem dX5_isHeard_12 : decode cX5_isHeard 12 = .ok (.iload_n 1, 1) := by decide +kernel
theorem dX5_isHeard_13 : decode cX5_isHeard 13 = .ok (.ifCond .eq 36, 3) := by decide +kernel
theorem dX5_isHeard_16 : decode cX5_isHeard 16 = .ok (.aload_n 0, 1) := by decide +kernel
theorem dX5_isHeard_17 : decode cX5_isHeard 17 = .ok (.getfield 37, 3) := by decide +kernel
theorem dX5_isHeard_20 : decode cX5_isHeard 20 = .ok (.aload_n 0, 1) := by decide +kernel
theorem dX5_isHeard_21 : decode cX5_isHeard 21 = .ok (.getfield 67, 3) := by decide +kernel
theorem dX5_isHeard_24 : decode cX5_isHeard 24 = .ok (.iconst 2, 1) := by decide +kernel
theorem dX5_isHeard_25 : decode cX5_isHeard 25 = .ok (.iload_n 2, 1) := by decide +kernel
theorem dX5_isHeard_26 : decode cX5_isHeard 26 = .ok (.imul, 1) := by decide +kernel
theorem dX5_isHeard_27 : decode cX5_isHeard 27 = .ok (.iaload, 1) := by decide +kernel
theorem dX5_isHeard_28 : decode cX5_isHeard 28 = .ok (.iaload, 1) := by decide +kernel
theorem dX5_isHeard_29 : decode cX5_isHeard 29 = .ok (.invokestatic 167, 3) := by decide +kernel
theorem dX5_isHeard_32 : decode cX5_isHeard 32 = .ok (.aload_n 0, 1) := by decide +kernel
theorem dX5_isHeard_33 : decode cX5_isHeard 33 = .ok (.getfield 67, 3) := by decide +kernel
theorem dX5_isHeard_36 : decode cX5_isHeard 36 = .ok (.iconst 2, 1) := by decide +kernel
theorem dX5_isHeard_37 : decode cX5_isHeard 37 = .ok (.iload_n 2, 1) := by decide +kernel
theorem dX5_isHeard_38 : decode cX5_isHeard 38 = .ok (.imul, 1) := by decide +kernel
theorem dX5_isHeard_39 : decode cX5_isHeard 39 = .ok (.iconst 1, 1) := by decide +kernel
theorem dX5_isHeard_40 : decode cX5_isHeard 40 = .ok (.iadd, 1) := by decide +kernel
theorem dX5_isHeard_41 : decode cX5_isHeard 41 = .ok (.iaload, 1) := by decide +kernel
theorem dX5_isHeard_42 : decode cX5_isHeard 42 = .ok (.if_icmp .ne 7, 3) := by decide +kernel
theorem dX5_isHeard_45 : decode cX5_isHeard 45 = .ok (.iconst 1, 1) := by decide +kernel
theorem dX5_isHeard_46 : decode cX5_isHeard 46 = .ok (.goto 4, 3) := by decide +kernel
theorem dX5_isHeard_49 : decode cX5_isHeard 49 = .ok (.iconst 0, 1) := by decide +kernel
theorem dX5_isHeard_50 : decode cX5_isHeard 50 = .ok (.istore_n 1, 1) := by decide +kernel
theorem dX5_isHeard_51 : decode cX5_isHeard 51 = .ok (.iinc 2 1, 3) := by decide +kernel
theorem dX5_isHeard_54 : decode cX5_isHeard 54 = .ok (.goto (-50), 3) := by decide +kernel
theorem dX5_isHeard_57 : decode cX5_isHeard 57 = .ok (.iload_n 1, 1) := by decide +kernel
theorem dX5_isHeard_58 : decode cX5_isHeard 58 = .ok (.ireturn, 1) := by decide +kernel
theorem dX5_takes_0 : decode cX5_takes 0 = .ok (.aload_n 0, 1) := by decide +kernel
theorem dX5_takes_1 : decode cX5_takes 1 = .ok (.getfield 49, 3) := by decide +kernel
theorem dX5_takes_4 : decode cX5_takes 4 = .ok (.iload_n 1, 1) := by decide +kernel
theorem dX5_takes_5 : decode cX5_takes 5 = .ok (.iload_n 2, 1) := by decide +kernel
theorem dX5_takes_6 : decode cX5_takes 6 = .ok (.bipush 9, 2) := by decide +kernel
theorem dX5_takes_8 : decode cX5_takes 8 = .ok (.idiv, 1) := by decide +kernel
theorem dX5_takes_9 : decode cX5_takes 9 = .ok (.iastore, 1) := by decide +kernel
theorem dX5_takes_10 : decode cX5_takes 10 = .ok (.aload_n 0, 1) := by decide +kernel
theorem dX5_takes_11 : decode cX5_takes 11 = .ok (.getfield 52, 3) := by decide +kernel
theorem dX5_takes_14 : decode cX5_takes 14 = .ok (.iload_n 1, 1) := by decide +kernel
theorem dX5_takes_15 : decode cX5_takes 15 = .ok (.iload_n 2, 1) := by decide +kernel
theorem dX5_takes_16 : decode cX5_takes 16 = .ok (.bipush 9, 2) := by decide +kernel
theorem dX5_takes_18 : decode cX5_takes 18 = .ok (.irem, 1) := by decide +kernel
theorem dX5_takes_19 : decode cX5_takes 19 = .ok (.iconst 1, 1) := by decide +kernel
theorem dX5_takes_20 : decode cX5_takes 20 = .ok (.iadd, 1) := by decide +kernel
theorem dX5_takes_21 : decode cX5_takes 21 = .ok (.iastore, 1) := by decide +kernel
theorem dX5_takes_22 : decode cX5_takes 22 = .ok (.return_, 1) := by decide +kernel
theorem dX5_gives_0 : decode cX5_gives 0 = .ok (.aload_n 0, 1) := by decide +kernel
theorem dX5_gives_1 : decode cX5_gives 1 = .ok (.getfield 49, 3) := by decide +kernel
theorem dX5_gives_4 : decode cX5_gives 4 = .ok (.iload_n 1, 1) := by decide +kernel
theorem dX5_gives_5 : decode cX5_gives 5 = .ok (.aload_n 0, 1) := by decide +kernel
theorem dX5_gives_6 : decode cX5_gives 6 = .ok (.getfield 25, 3) := by decide +kernel
theorem dX5_gives_9 : decode cX5_gives 9 = .ok (.iconst 3, 1) := by decide +kernel
theorem dX5_gives_10 : decode cX5_gives 10 = .ok (.iload_n 1, 1) := by decide +kernel
theorem dX5_gives_11 : decode cX5_gives 11 = .ok (.imul, 1) := by decide +kernel
theorem dX5_gives_12 : decode cX5_gives 12 = .ok (.iaload, 1) := by decide +kernel
theorem dX5_gives_13 : decode cX5_gives 13 = .ok (.iastore, 1) := by decide +kernel
theorem dX5_gives_14 : decode cX5_gives 14 = .ok (.aload_n 0, 1) := by decide +kernel
theorem dX5_gives_15 : decode cX5_gives 15 = .ok (.getfield 52, 3) := by decide +kernel
theorem dX5_gives_18 : decode cX5_gives 18 = .ok (.iload_n 1, 1) := by decide +kernel
theorem dX5_gives_19 : decode cX5_gives 19 = .ok (.aload_n 0, 1) := by decide +kernel
theorem dX5_gives_20 : decode cX5_gives 20 = .ok (.getfield 25, 3) := by decide +kernel
theorem dX5_gives_23 : decode cX5_gives 23 = .ok (.iconst 3, 1) := by decide +kernel
theorem dX5_gives_24 : decode cX5_gives 24 = .ok (.iload_n 1, 1) := by decide +kernel
theorem dX5_gives_25 : decode cX5_gives 25 = .ok (.imul, 1) := by decide +kernel
theorem dX5_gives_26 : decode cX5_gives 26 = .ok (.iconst 1, 1) := by decide +kernel
theorem dX5_gives_27 : decode cX5_gives 27 = .ok (.iadd, 1) := by decide +kernel
theorem dX5_gives_28 : decode cX5_gives 28 = .ok (.iaload, 1) := by decide +kernel
theorem dX5_gives_29 : decode cX5_gives 29 = .ok (.iastore, 1) := by decide +kernel
theorem dX5_gives_30 : decode cX5_gives 30 = .ok (.aload_n 0, 1) := by decide +kernel
theorem dX5_gives_31 : decode cX5_gives 31 = .ok (.bipush 59, 2) := by decide +kernel
theorem dX5_gives_33 : decode cX5_gives 33 = .ok (.invokevirtual 179, 3) := by decide +kernel
theorem dX5_gives_36 : decode cX5_gives 36 = .ok (.return_, 1) := by decide +kernel
theorem dX5_lawName_0 : decode cX5_lawName 0 = .ok (.iload_n 0, 1) := by decide +kernel
theorem dX5_lawName_1 : decode cX5_lawName 1 = .ok (.bipush 36, 2) := by decide +kernel
theorem dX5_lawName_3 : decode cX5_lawName 3 = .ok (.if_icmp .ne 8, 3) := by decide +kernel
theorem dX5_lawName_6 : decode cX5_lawName 6 = .ok (.bipush 40, 2) := by decide +kernel
theorem dX5_lawName_8 : decode cX5_lawName 8 = .ok (.goto 17, 3) := by decide +kernel
theorem dX5_lawName_11 : decode cX5_lawName 11 = .ok (.bipush 10, 2) := by decide +kernel
theorem dX5_lawName_13 : decode cX5_lawName 13 = .ok (.iload_n 0, 1) := by decide +kernel
theorem dX5_lawName_14 : decode cX5_lawName 14 = .ok (.bipush 9, 2) := by decide +kernel
theorem dX5_lawName_16 : decode cX5_lawName 16 = .ok (.idiv, 1) := by decide +kernel
theorem dX5_lawName_17 : decode cX5_lawName 17 = .ok (.imul, 1) := by decide +kernel
theorem dX5_lawName_18 : decode cX5_lawName 18 = .ok (.iload_n 0, 1) := by decide +kernel
theorem dX5_lawName_19 : decode cX5_lawName 19 = .ok (.bipush 9, 2) := by decide +kernel
theorem dX5_lawName_21 : decode cX5_lawName 21 = .ok (.irem, 1) := by decide +kernel
theorem dX5_lawName_22 : decode cX5_lawName 22 = .ok (.iadd, 1) := by decide +kernel
theorem dX5_lawName_23 : decode cX5_lawName 23 = .ok (.iconst 1, 1) := by decide +kernel
theorem dX5_lawName_24 : decode cX5_lawName 24 = .ok (.iadd, 1) := by decide +kernel
theorem dX5_lawName_25 : decode cX5_lawName 25 = .ok (.ireturn, 1) := by decide +kernel
theorem dX5_learnOf_0 : decode cX5_learnOf 0 = .ok (.iconst 0, 1) := by decide +kernel
theorem dX5_learnOf_1 : decode cX5_learnOf 1 = .ok (.istore_n 3, 1) := by decide +kernel
theorem dX5_learnOf_2 : decode cX5_learnOf 2 = .ok (.iconst (-1), 1) := by decide +kernel
theorem dX5_learnOf_3 : decode cX5_learnOf 3 = .ok (.istore 4, 2) := by decide +kernel
theorem dX5_learnOf_5 : decode cX5_learnOf 5 = .ok (.iconst 0, 1) := by decide +kernel
theorem dX5_learnOf_6 : decode cX5_learnOf 6 = .ok (.istore 5, 2) := by decide +kernel
theorem dX5_learnOf_8 : decode cX5_learnOf 8 = .ok (.iload 5, 2) := by decide +kernel
theorem dX5_learnOf_10 : decode cX5_learnOf 10 = .ok (.bipush 37, 2) := by decide +kernel
theorem dX5_learnOf_12 : decode cX5_learnOf 12 = .ok (.if_icmp .ge 49, 3) := by decide +kernel
theorem dX5_learnOf_15 : decode cX5_learnOf 15 = .ok (.aload_n 0, 1) := by decide +kernel
theorem dX5_learnOf_16 : decode cX5_learnOf 16 = .ok (.iload_n 1, 1) := by decide +kernel
theorem dX5_learnOf_17 : decode cX5_learnOf 17 = .ok (.iload 5, 2) := by decide +kernel
theorem dX5_learnOf_19 : decode cX5_learnOf 19 = .ok (.invokevirtual 239, 3) := by decide +kernel
theorem dX5_learnOf_22 : decode cX5_learnOf 22 = .ok (.aload_n 0, 1) := by decide +kernel
theorem dX5_learnOf_23 : decode cX5_learnOf 23 = .ok (.bipush 59, 2) := by decide +kernel
theorem dX5_learnOf_25 : decode cX5_learnOf 25 = .ok (.invokevirtual 179, 3) := by decide +kernel
theorem dX5_learnOf_28 : decode cX5_learnOf 28 = .ok (.aload_n 0, 1) := by decide +kernel
theorem dX5_learnOf_29 : decode cX5_learnOf 29 = .ok (.invokevirtual 242, 3) := by decide +kernel
theorem dX5_learnOf_32 : decode cX5_learnOf 32 = .ok (.ifCond .eq 23, 3) := by decide +kernel
theorem dX5_learnOf_35 : decode cX5_learnOf 35 = .ok (.iload_n 3, 1) := by decide +kernel
theorem dX5_learnOf_36 : decode cX5_learnOf 36 = .ok (.iload_n 2, 1) := by decide +kernel
theorem dX5_learnOf_37 : decode cX5_learnOf 37 = .ok (.if_icmp .ne 11, 3) := by decide +kernel
theorem dX5_learnOf_40 : decode cX5_learnOf 40 = .ok (.iload 5, 2) := by decide +kernel
theorem dX5_learnOf_42 : decode cX5_learnOf 42 = .ok (.invokestatic 245, 3) := by decide +kernel
theorem dX5_learnOf_45 : decode cX5_learnOf 45 = .ok (.goto 5, 3) := by decide +kernel
theorem dX5_learnOf_48 : decode cX5_learnOf 48 = .ok (.iload 4, 2) := by decide +kernel
theorem dX5_learnOf_50 : decode cX5_learnOf 50 = .ok (.istore 4, 2) := by decide +kernel
theorem dX5_learnOf_52 : decode cX5_learnOf 52 = .ok (.iinc 3 1, 3) := by decide +kernel
theorem dX5_learnOf_55 : decode cX5_learnOf 55 = .ok (.iinc 5 1, 3) := by decide +kernel
theorem dX5_learnOf_58 : decode cX5_learnOf 58 = .ok (.goto (-50), 3) := by decide +kernel
theorem dX5_learnOf_61 : decode cX5_learnOf 61 = .ok (.aload_n 0, 1) := by decide +kernel
theorem dX5_learnOf_62 : decode cX5_learnOf 62 = .ok (.iload_n 1, 1) := by decide +kernel
theorem dX5_learnOf_63 : decode cX5_learnOf 63 = .ok (.invokevirtual 248, 3) := by decide +kernel
theorem dX5_learnOf_66 : decode cX5_learnOf 66 = .ok (.iload_n 2, 1) := by decide +kernel
theorem dX5_learnOf_67 : decode cX5_learnOf 67 = .ok (.iconst (-1), 1) := by decide +kernel
theorem dX5_learnOf_68 : decode cX5_learnOf 68 = .ok (.if_icmp .ne 7, 3) := by decide +kernel
theorem dX5_learnOf_71 : decode cX5_learnOf 71 = .ok (.iload_n 3, 1) := by decide +kernel
theorem dX5_learnOf_72 : decode cX5_learnOf 72 = .ok (.goto 5, 3) := by decide +kernel
theorem dX5_learnOf_75 : decode cX5_learnOf 75 = .ok (.iload 4, 2) := by decide +kernel
theorem dX5_learnOf_77 : decode cX5_learnOf 77 = .ok (.ireturn, 1) := by decide +kernel
theorem dX5_learn_0 : decode cX5_learn 0 = .ok (.aload_n 0, 1) := by decide +kernel
theorem dX5_learn_1 : decode cX5_learn 1 = .ok (.invokevirtual 183, 3) := by decide +kernel
theorem dX5_learn_4 : decode cX5_learn 4 = .ok (.aload_n 0, 1) := by decide +kernel
theorem dX5_learn_5 : decode cX5_learn 5 = .ok (.iload_n 1, 1) := by decide +kernel
theorem dX5_learn_6 : decode cX5_learn 6 = .ok (.invokevirtual 134, 3) := by decide +kernel
theorem dX5_learn_9 : decode cX5_learn 9 = .ok (.ifCond .eq 26, 3) := by decide +kernel
theorem dX5_learn_12 : decode cX5_learn 12 = .ok (.iload_n 2, 1) := by decide +kernel
theorem dX5_learn_13 : decode cX5_learn 13 = .ok (.i2l, 1) := by decide +kernel
theorem dX5_learn_14 : decode cX5_learn 14 = .ok (.ldc2_w 229, 3) := by decide +kernel
theorem dX5_learn_17 : decode cX5_learn 17 = .ok (.ldc2_w 251, 3) := by decide +kernel
theorem dX5_learn_20 : decode cX5_learn 20 = .ok (.invokestatic 75, 3) := by decide +kernel
theorem dX5_learn_23 : decode cX5_learn 23 = .ok (.ifCond .eq 12, 3) := by decide +kernel
theorem dX5_learn_26 : decode cX5_learn 26 = .ok (.aload_n 0, 1) := by decide +kernel
theorem dX5_learn_27 : decode cX5_learn 27 = .ok (.iload_n 1, 1) := by decide +kernel
theorem dX5_learn_28 : decode cX5_learn 28 = .ok (.iload_n 2, 1) := by decide +kernel
theorem dX5_learn_29 : decode cX5_learn 29 = .ok (.invokevirtual 253, 3) := by decide +kernel
theorem dX5_learn_32 : decode cX5_learn 32 = .ok (.goto 5, 3) := by decide +kernel
theorem dX5_learn_35 : decode cX5_learn 35 = .ok (.bipush (-2), 2) := by decide +kernel
theorem dX5_learn_37 : decode cX5_learn 37 = .ok (.ireturn, 1) := by decide +kernel
theorem dX5_emptyNow_0 : decode cX5_emptyNow 0 = .ok (.iconst 0, 1) := by decide +kernel
theorem dX5_emptyNow_1 : decode cX5_emptyNow 1 = .ok (.istore_n 1, 1) := by decide +kernel
theorem dX5_emptyNow_2 : decode cX5_emptyNow 2 = .ok (.iconst 0, 1) := by decide +kernel
theorem dX5_emptyNow_3 : decode cX5_emptyNow 3 = .ok (.istore_n 2, 1) := by decide +kernel
theorem dX5_emptyNow_4 : decode cX5_emptyNow 4 = .ok (.iload_n 2, 1) := by decide +kernel
theorem dX5_emptyNow_5 : decode cX5_emptyNow 5 = .ok (.aload_n 0, 1) := by decide +kernel
theorem dX5_emptyNow_6 : decode cX5_emptyNow 6 = .ok (.getfield 109, 3) := by decide +kernel
theorem dX5_emptyNow_9 : decode cX5_emptyNow 9 = .ok (.if_icmp .ge 44, 3) := by decide +kernel
theorem dX5_emptyNow_12 : decode cX5_emptyNow 12 = .ok (.aload_n 0, 1) := by decide +kernel
theorem dX5_emptyNow_13 : decode cX5_emptyNow 13 = .ok (.iload_n 2, 1) := by decide +kernel
theorem dX5_emptyNow_14 : decode cX5_emptyNow 14 = .ok (.bipush 36, 2) := by decide +kernel
theorem dX5_emptyNow_16 : decode cX5_emptyNow 16 = .ok (.invokevirtual 239, 3) := by decide +kernel
theorem dX5_emptyNow_19 : decode cX5_emptyNow 19 = .ok (.aload_n 0, 1) := by decide +kernel
theorem dX5_emptyNow_20 : decode cX5_emptyNow 20 = .ok (.bipush 59, 2) := by decide +kernel
theorem dX5_emptyNow_22 : decode cX5_emptyNow 22 = .ok (.invokevirtual 179, 3) := by decide +kernel
theorem dX5_emptyNow_25 : decode cX5_emptyNow 25 = .ok (.iload_n 1, 1) := by decide +kernel
theorem dX5_emptyNow_26 : decode cX5_emptyNow 26 = .ok (.aload_n 0, 1) := by decide +kernel
theorem dX5_emptyNow_27 : decode cX5_emptyNow 27 = .ok (.invokevirtual 242, 3) := by decide +kernel
theorem dX5_emptyNow_30 : decode cX5_emptyNow 30 = .ok (.ifCond .eq 9, 3) := by decide +kernel
theorem dX5_emptyNow_33 : decode cX5_emptyNow 33 = .ok (.iconst 1, 1) := by decide +kernel
theorem dX5_emptyNow_34 : decode cX5_emptyNow 34 = .ok (.iload_n 2, 1) := by decide +kernel
theorem dX5_emptyNow_35 : decode cX5_emptyNow 35 = .ok (.ishl, 1) := by decide +kernel
theorem dX5_emptyNow_36 : decode cX5_emptyNow 36 = .ok (.goto 4, 3) := by decide +kernel
theorem dX5_emptyNow_39 : decode cX5_emptyNow 39 = .ok (.iconst 0, 1) := by decide +kernel
theorem dX5_emptyNow_40 : decode cX5_emptyNow 40 = .ok (.ior, 1) := by decide +kernel
theorem dX5_emptyNow_41 : decode cX5_emptyNow 41 = .ok (.istore_n 1, 1) := by decide +kernel
theorem dX5_emptyNow_42 : decode cX5_emptyNow 42 = .ok (.aload_n 0, 1) := by decide +kernel
theorem dX5_emptyNow_43 : decode cX5_emptyNow 43 = .ok (.iload_n 2, 1) := by decide +kernel
theorem dX5_emptyNow_44 : decode cX5_emptyNow 44 = .ok (.invokevirtual 248, 3) := by decide +kernel
theorem dX5_emptyNow_47 : decode cX5_emptyNow 47 = .ok (.iinc 2 1, 3) := by decide +kernel
theorem dX5_emptyNow_50 : decode cX5_emptyNow 50 = .ok (.goto (-46), 3) := by decide +kernel
theorem dX5_emptyNow_53 : decode cX5_emptyNow 53 = .ok (.iload_n 1, 1) := by decide +kernel
theorem dX5_emptyNow_54 : decode cX5_emptyNow 54 = .ok (.ireturn, 1) := by decide +kernel
theorem dX5_empty_0 : decode cX5_empty 0 = .ok (.aload_n 0, 1) := by decide +kernel
theorem dX5_empty_1 : decode cX5_empty 1 = .ok (.invokevirtual 183, 3) := by decide +kernel
theorem dX5_empty_4 : decode cX5_empty 4 = .ok (.aload_n 0, 1) := by decide +kernel
theorem dX5_empty_5 : decode cX5_empty 5 = .ok (.invokevirtual 256, 3) := by decide +kernel
theorem dX5_empty_8 : decode cX5_empty 8 = .ok (.ireturn, 1) := by decide +kernel
theorem dX5_turnOf_0 : decode cX5_turnOf 0 = .ok (.iconst (-1), 1) := by decide +kernel
theorem dX5_turnOf_1 : decode cX5_turnOf 1 = .ok (.istore_n 3, 1) := by decide +kernel
theorem dX5_turnOf_2 : decode cX5_turnOf 2 = .ok (.iconst 0, 1) := by decide +kernel
theorem dX5_turnOf_3 : decode cX5_turnOf 3 = .ok (.istore 4, 2) := by decide +kernel
theorem dX5_turnOf_5 : decode cX5_turnOf 5 = .ok (.iconst 0, 1) := by decide +kernel
theorem dX5_turnOf_6 : decode cX5_turnOf 6 = .ok (.istore 5, 2) := by decide +kernel
theorem dX5_turnOf_8 : decode cX5_turnOf 8 = .ok (.iload 5, 2) := by decide +kernel
theorem dX5_turnOf_10 : decode cX5_turnOf 10 = .ok (.aload_n 0, 1) := by decide +kernel
theorem dX5_turnOf_11 : decode cX5_turnOf 11 = .ok (.getfield 109, 3) := by decide +kernel
theorem dX5_turnOf_14 : decode cX5_turnOf 14 = .ok (.if_icmp .ge 205, 3) := by decide +kernel
theorem dX5_turnOf_17 : decode cX5_turnOf 17 = .ok (.iconst 0, 1) := by decide +kernel
theorem dX5_turnOf_18 : decode cX5_turnOf 18 = .ok (.istore 6, 2) := by decide +kernel
theorem dX5_turnOf_20 : decode cX5_turnOf 20 = .ok (.iload 6, 2) := by decide +kernel
theorem dX5_turnOf_22 : decode cX5_turnOf 22 = .ok (.bipush 10, 2) := by decide +kernel
theorem dX5_turnOf_24 : decode cX5_turnOf 24 = .ok (.if_icmp .ge 17, 3) := by decide +kernel
theorem dX5_turnOf_27 : decode cX5_turnOf 27 = .ok (.aload_n 0, 1) := by decide +kernel
theorem dX5_turnOf_28 : decode cX5_turnOf 28 = .ok (.getfield 70, 3) := by decide +kernel
theorem dX5_turnOf_31 : decode cX5_turnOf 31 = .ok (.iload 6, 2) := by decide +kernel
theorem dX5_turnOf_33 : decode cX5_turnOf 33 = .ok (.iconst 0, 1) := by decide +kernel
theorem dX5_turnOf_34 : decode cX5_turnOf 34 = .ok (.iastore, 1) := by decide +kernel
theorem dX5_turnOf_35 : decode cX5_turnOf 35 = .ok (.iinc 6 1, 3) := by decide +kernel
theorem dX5_turnOf_38 : decode cX5_turnOf 38 = .ok (.goto (-18), 3) := by decide +kernel
theorem dX5_turnOf_41 : decode cX5_turnOf 41 = .ok (.iconst 0, 1) := by decide +kernel
theorem dX5_turnOf_42 : decode cX5_turnOf 42 = .ok (.istore 6, 2) := by decide +kernel
theorem dX5_turnOf_44 : decode cX5_turnOf 44 = .ok (.iconst 0, 1) := by decide +kernel
theorem dX5_turnOf_45 : decode cX5_turnOf 45 = .ok (.istore 7, 2) := by decide +kernel
theorem dX5_turnOf_47 : decode cX5_turnOf 47 = .ok (.iload 7, 2) := by decide +kernel
theorem dX5_turnOf_49 : decode cX5_turnOf 49 = .ok (.bipush 37, 2) := by decide +kernel
theorem dX5_turnOf_51 : decode cX5_turnOf 51 = .ok (.if_icmp .ge 117, 3) := by decide +kernel
theorem dX5_turnOf_54 : decode cX5_turnOf 54 = .ok (.aload_n 0, 1) := by decide +kernel
theorem dX5_turnOf_55 : decode cX5_turnOf 55 = .ok (.iload_n 1, 1) := by decide +kernel
theorem dX5_turnOf_56 : decode cX5_turnOf 56 = .ok (.iload 7, 2) := by decide +kernel
theorem dX5_turnOf_58 : decode cX5_turnOf 58 = .ok (.invokevirtual 239, 3) := by decide +kernel
theorem dX5_turnOf_61 : decode cX5_turnOf 61 = .ok (.aload_n 0, 1) := by decide +kernel
theorem dX5_turnOf_62 : decode cX5_turnOf 62 = .ok (.bipush 59, 2) := by decide +kernel
theorem dX5_turnOf_64 : decode cX5_turnOf 64 = .ok (.invokevirtual 179, 3) := by decide +kernel
theorem dX5_turnOf_67 : decode cX5_turnOf 67 = .ok (.aload_n 0, 1) := by decide +kernel
theorem dX5_turnOf_68 : decode cX5_turnOf 68 = .ok (.invokevirtual 242, 3) := by decide +kernel
theorem dX5_turnOf_71 : decode cX5_turnOf 71 = .ok (.ifCond .eq 91, 3) := by decide +kernel
theorem dX5_turnOf_74 : decode cX5_turnOf 74 = .ok (.aload_n 0, 1) := by decide +kernel
theorem dX5_turnOf_75 : decode cX5_turnOf 75 = .ok (.getfield 34, 3) := by decide +kernel
theorem dX5_turnOf_78 : decode cX5_turnOf 78 = .ok (.iconst 3, 1) := by decide +kernel
theorem dX5_turnOf_79 : decode cX5_turnOf 79 = .ok (.iload_n 2, 1) := by decide +kernel
theorem dX5_turnOf_80 : decode cX5_turnOf 80 = .ok (.imul, 1) := by decide +kernel
theorem dX5_turnOf_81 : decode cX5_turnOf 81 = .ok (.iaload, 1) := by decide +kernel
theorem dX5_turnOf_82 : decode cX5_turnOf 82 = .ok (.istore 8, 2) := by decide +kernel
theorem dX5_turnOf_84 : decode cX5_turnOf 84 = .ok (.aload_n 0, 1) := by decide +kernel
theorem dX5_turnOf_85 : decode cX5_turnOf 85 = .ok (.getfield 34, 3) := by decide +kernel
theorem dX5_turnOf_88 : decode cX5_turnOf 88 = .ok (.iconst 3, 1) := by decide +kernel
theorem dX5_turnOf_89 : decode cX5_turnOf 89 = .ok (.iload_n 2, 1) := by decide +kernel
theorem dX5_turnOf_90 : decode cX5_turnOf 90 = .ok (.imul, 1) := by decide +kernel
theorem dX5_turnOf_91 : decode cX5_turnOf 91 = .ok (.dup2, 1) := by decide +kernel
theorem dX5_turnOf_92 : decode cX5_turnOf 92 = .ok (.iaload, 1) := by decide +kernel
theorem dX5_turnOf_93 : decode cX5_turnOf 93 = .ok (.iconst 1, 1) := by decide +kernel
theorem dX5_turnOf_94 : decode cX5_turnOf 94 = .ok (.iload 5, 2) := by decide +kernel
theorem dX5_turnOf_96 : decode cX5_turnOf 96 = .ok (.ishl, 1) := by decide +kernel
theorem dX5_turnOf_97 : decode cX5_turnOf 97 = .ok (.ior, 1) := by decide +kernel
theorem dX5_turnOf_98 : decode cX5_turnOf 98 = .ok (.iastore, 1) := by decide +kernel
theorem dX5_turnOf_99 : decode cX5_turnOf 99 = .ok (.aload_n 0, 1) := by decide +kernel
theorem dX5_turnOf_100 : decode cX5_turnOf 100 = .ok (.iload_n 2, 1) := by decide +kernel
theorem dX5_turnOf_101 : decode cX5_turnOf 101 = .ok (.invokevirtual 179, 3) := by decide +kernel
theorem dX5_turnOf_104 : decode cX5_turnOf 104 = .ok (.aload_n 0, 1) := by decide +kernel
theorem dX5_turnOf_105 : decode cX5_turnOf 105 = .ok (.getfield 37, 3) := by decide +kernel
theorem dX5_turnOf_108 : decode cX5_turnOf 108 = .ok (.iload_n 2, 1) := by decide +kernel
theorem dX5_turnOf_109 : decode cX5_turnOf 109 = .ok (.iaload, 1) := by decide +kernel
theorem dX5_turnOf_110 : decode cX5_turnOf 110 = .ok (.invokestatic 167, 3) := by decide +kernel
theorem dX5_turnOf_113 : decode cX5_turnOf 113 = .ok (.istore 9, 2) := by decide +kernel
theorem dX5_turnOf_115 : decode cX5_turnOf 115 = .ok (.aload_n 0, 1) := by decide +kernel
theorem dX5_turnOf_116 : decode cX5_turnOf 116 = .ok (.getfield 70, 3) := by decide +kernel
theorem dX5_turnOf_119 : decode cX5_turnOf 119 = .ok (.iload 9, 2) := by decide +kernel
theorem dX5_turnOf_121 : decode cX5_turnOf 121 = .ok (.dup2, 1) := by decide +kernel
theorem dX5_turnOf_122 : decode cX5_turnOf 122 = .ok (.iaload, 1) := by decide +kernel
theorem dX5_turnOf_123 : decode cX5_turnOf 123 = .ok (.iconst 1, 1) := by decide +kernel
theorem dX5_turnOf_124 : decode cX5_turnOf 124 = .ok (.iadd, 1) := by decide +kernel
theorem dX5_turnOf_125 : decode cX5_turnOf 125 = .ok (.iastore, 1) := by decide +kernel
theorem dX5_turnOf_126 : decode cX5_turnOf 126 = .ok (.aload_n 0, 1) := by decide +kernel
theorem dX5_turnOf_127 : decode cX5_turnOf 127 = .ok (.getfield 70, 3) := by decide +kernel
theorem dX5_turnOf_130 : decode cX5_turnOf 130 = .ok (.iload 9, 2) := by decide +kernel
theorem dX5_turnOf_132 : decode cX5_turnOf 132 = .ok (.iaload, 1) := by decide +kernel
theorem dX5_turnOf_133 : decode cX5_turnOf 133 = .ok (.iload 6, 2) := by decide +kernel
theorem dX5_turnOf_135 : decode cX5_turnOf 135 = .ok (.if_icmp .le 13, 3) := by decide +kernel
theorem dX5_turnOf_138 : decode cX5_turnOf 138 = .ok (.aload_n 0, 1) := by decide +kernel
theorem dX5_turnOf_139 : decode cX5_turnOf 139 = .ok (.getfield 70, 3) := by decide +kernel
theorem dX5_turnOf_142 : decode cX5_turnOf 142 = .ok (.iload 9, 2) := by decide +kernel
theorem dX5_turnOf_144 : decode cX5_turnOf 144 = .ok (.iaload, 1) := by decide +kernel
theorem dX5_turnOf_145 : decode cX5_turnOf 145 = .ok (.goto 5, 3) := by decide +kernel
theorem dX5_turnOf_148 : decode cX5_turnOf 148 = .ok (.iload 6, 2) := by decide +kernel
theorem dX5_turnOf_150 : decode cX5_turnOf 150 = .ok (.istore 6, 2) := by decide +kernel
theorem dX5_turnOf_152 : decode cX5_turnOf 152 = .ok (.aload_n 0, 1) := by decide +kernel
theorem dX5_turnOf_153 : decode cX5_turnOf 153 = .ok (.getfield 34, 3) := by decide +kernel
theorem dX5_turnOf_156 : decode cX5_turnOf 156 = .ok (.iconst 3, 1) := by decide +kernel
theorem dX5_turnOf_157 : decode cX5_turnOf 157 = .ok (.iload_n 2, 1) := by decide +kernel
theorem dX5_turnOf_158 : decode cX5_turnOf 158 = .ok (.imul, 1) := by decide +kernel
theorem dX5_turnOf_159 : decode cX5_turnOf 159 = .ok (.iload 8, 2) := by decide +kernel
theorem dX5_turnOf_161 : decode cX5_turnOf 161 = .ok (.iastore, 1) := by decide +kernel
theorem dX5_turnOf_162 : decode cX5_turnOf 162 = .ok (.iinc 7 1, 3) := by decide +kernel
theorem dX5_turnOf_165 : decode cX5_turnOf 165 = .ok (.goto (-118), 3) := by decide +kernel
theorem dX5_turnOf_168 : decode cX5_turnOf 168 = .ok (.iload_n 3, 1) := by decide +kernel
theorem dX5_turnOf_169 : decode cX5_turnOf 169 = .ok (.iconst (-1), 1) := by decide +kernel
theorem dX5_turnOf_170 : decode cX5_turnOf 170 = .ok (.if_icmp .eq 10, 3) := by decide +kernel
theorem dX5_turnOf_173 : decode cX5_turnOf 173 = .ok (.iload 6, 2) := by decide +kernel
theorem dX5_turnOf_175 : decode cX5_turnOf 175 = .ok (.iload 4, 2) := by decide +kernel
theorem dX5_turnOf_177 : decode cX5_turnOf 177 = .ok (.if_icmp .ge 7, 3) := by decide +kernel
theorem dX5_turnOf_180 : decode cX5_turnOf 180 = .ok (.iconst 1, 1) := by decide +kernel
theorem dX5_turnOf_181 : decode cX5_turnOf 181 = .ok (.goto 4, 3) := by decide +kernel
theorem dX5_turnOf_184 : decode cX5_turnOf 184 = .ok (.iconst 0, 1) := by decide +kernel
theorem dX5_turnOf_185 : decode cX5_turnOf 185 = .ok (.istore 7, 2) := by decide +kernel
theorem dX5_turnOf_187 : decode cX5_turnOf 187 = .ok (.iload 7, 2) := by decide +kernel
theorem dX5_turnOf_189 : decode cX5_turnOf 189 = .ok (.ifCond .eq 8, 3) := by decide +kernel
theorem dX5_turnOf_192 : decode cX5_turnOf 192 = .ok (.iload 5, 2) := by decide +kernel
theorem dX5_turnOf_194 : decode cX5_turnOf 194 = .ok (.goto 4, 3) := by decide +kernel
theorem dX5_turnOf_197 : decode cX5_turnOf 197 = .ok (.iload_n 3, 1) := by decide +kernel
theorem dX5_turnOf_198 : decode cX5_turnOf 198 = .ok (.istore_n 3, 1) := by decide +kernel
theorem dX5_turnOf_199 : decode cX5_turnOf 199 = .ok (.iload 7, 2) := by decide +kernel
theorem dX5_turnOf_201 : decode cX5_turnOf 201 = .ok (.ifCond .eq 8, 3) := by decide +kernel
theorem dX5_turnOf_204 : decode cX5_turnOf 204 = .ok (.iload 6, 2) := by decide +kernel
theorem dX5_turnOf_206 : decode cX5_turnOf 206 = .ok (.goto 5, 3) := by decide +kernel
theorem dX5_turnOf_209 : decode cX5_turnOf 209 = .ok (.iload 4, 2) := by decide +kernel
theorem dX5_turnOf_211 : decode cX5_turnOf 211 = .ok (.istore 4, 2) := by decide +kernel
theorem dX5_turnOf_213 : decode cX5_turnOf 213 = .ok (.iinc 5 1, 3) := by decide +kernel
theorem dX5_turnOf_216 : decode cX5_turnOf 216 = .ok (.goto (-208), 3) := by decide +kernel
theorem dX5_turnOf_219 : decode cX5_turnOf 219 = .ok (.aload_n 0, 1) := by decide +kernel
theorem dX5_turnOf_220 : decode cX5_turnOf 220 = .ok (.iload_n 1, 1) := by decide +kernel
theorem dX5_turnOf_221 : decode cX5_turnOf 221 = .ok (.invokevirtual 248, 3) := by decide +kernel
theorem dX5_turnOf_224 : decode cX5_turnOf 224 = .ok (.iload_n 3, 1) := by decide +kernel
theorem dX5_turnOf_225 : decode cX5_turnOf 225 = .ok (.ireturn, 1) := by decide +kernel
theorem dX5_turn_0 : decode cX5_turn 0 = .ok (.aload_n 0, 1) := by decide +kernel
theorem dX5_turn_1 : decode cX5_turn 1 = .ok (.invokevirtual 183, 3) := by decide +kernel
theorem dX5_turn_4 : decode cX5_turn 4 = .ok (.aload_n 0, 1) := by decide +kernel
theorem dX5_turn_5 : decode cX5_turn 5 = .ok (.iload_n 1, 1) := by decide +kernel
theorem dX5_turn_6 : decode cX5_turn 6 = .ok (.invokevirtual 134, 3) := by decide +kernel
theorem dX5_turn_9 : decode cX5_turn 9 = .ok (.ifCond .eq 19, 3) := by decide +kernel
theorem dX5_turn_12 : decode cX5_turn 12 = .ok (.iload_n 2, 1) := by decide +kernel
theorem dX5_turn_13 : decode cX5_turn 13 = .ok (.invokestatic 145, 3) := by decide +kernel
theorem dX5_turn_16 : decode cX5_turn 16 = .ok (.ifCond .eq 12, 3) := by decide +kernel
theorem dX5_turn_19 : decode cX5_turn 19 = .ok (.aload_n 0, 1) := by decide +kernel
theorem dX5_turn_20 : decode cX5_turn 20 = .ok (.iload_n 1, 1) := by decide +kernel
theorem dX5_turn_21 : decode cX5_turn 21 = .ok (.iload_n 2, 1) := by decide +kernel
theorem dX5_turn_22 : decode cX5_turn 22 = .ok (.invokevirtual 259, 3) := by decide +kernel
theorem dX5_turn_25 : decode cX5_turn 25 = .ok (.goto 5, 3) := by decide +kernel
theorem dX5_turn_28 : decode cX5_turn 28 = .ok (.bipush (-2), 2) := by decide +kernel
theorem dX5_turn_30 : decode cX5_turn 30 = .ok (.ireturn, 1) := by decide +kernel
theorem dX5_looksOf_0 : decode cX5_looksOf 0 = .ok (.lconst 0, 1) := by decide +kernel
theorem dX5_looksOf_1 : decode cX5_looksOf 1 = .ok (.lstore 5, 2) := by decide +kernel
theorem dX5_looksOf_3 : decode cX5_looksOf 3 = .ok (.lconst 1, 1) := by decide +kernel
theorem dX5_looksOf_4 : decode cX5_looksOf 4 = .ok (.lstore 7, 2) := by decide +kernel
theorem dX5_looksOf_6 : decode cX5_looksOf 6 = .ok (.iconst 0, 1) := by decide +kernel
theorem dX5_looksOf_7 : decode cX5_looksOf 7 = .ok (.istore 9, 2) := by decide +kernel
theorem dX5_looksOf_9 : decode cX5_looksOf 9 = .ok (.iload 9, 2) := by decide +kernel
theorem dX5_looksOf_11 : decode cX5_looksOf 11 = .ok (.iload_n 3, 1) := by decide +kernel
theorem dX5_looksOf_12 : decode cX5_looksOf 12 = .ok (.if_icmp .gt 17, 3) := by decide +kernel
theorem dX5_looksOf_15 : decode cX5_looksOf 15 = .ok (.lload 7, 2) := by decide +kernel
theorem dX5_looksOf_17 : decode cX5_looksOf 17 = .ok (.ldc2_w 262, 3) := by decide +kernel
theorem dX5_looksOf_20 : decode cX5_looksOf 20 = .ok (.lmul, 1) := by decide +kernel
theorem dX5_looksOf_21 : decode cX5_looksOf 21 = .ok (.lstore 7, 2) := by decide +kernel
theorem dX5_looksOf_23 : decode cX5_looksOf 23 = .ok (.iinc 9 1, 3) := by decide +kernel
theorem dX5_looksOf_26 : decode cX5_looksOf 26 = .ok (.goto (-17), 3) := by decide +kernel
theorem dX5_looksOf_29 : decode cX5_looksOf 29 = .ok (.iconst 0, 1) := by decide +kernel
theorem dX5_looksOf_30 : decode cX5_looksOf 30 = .ok (.istore 9, 2) := by decide +kernel
theorem dX5_looksOf_32 : decode cX5_looksOf 32 = .ok (.iload 9, 2) := by decide +kernel
theorem dX5_looksOf_34 : decode cX5_looksOf 34 = .ok (.iconst 2, 1) := by decide +kernel
theorem dX5_looksOf_35 : decode cX5_looksOf 35 = .ok (.iload_n 3, 1) := by decide +kernel
theorem dX5_looksOf_36 : decode cX5_looksOf 36 = .ok (.ishl, 1) := by decide +kernel
theorem dX5_looksOf_37 : decode cX5_looksOf 37 = .ok (.if_icmp .ge 126, 3) := by decide +kernel
theorem dX5_looksOf_40 : decode cX5_looksOf 40 = .ok (.lconst 1, 1) := by decide +kernel
theorem dX5_looksOf_41 : decode cX5_looksOf 41 = .ok (.lstore 10, 2) := by decide +kernel
theorem dX5_looksOf_43 : decode cX5_looksOf 43 = .ok (.iconst 0, 1) := by decide +kernel
theorem dX5_looksOf_44 : decode cX5_looksOf 44 = .ok (.istore 12, 2) := by decide +kernel
theorem dX5_looksOf_46 : decode cX5_looksOf 46 = .ok (.iload 12, 2) := by decide +kernel
theorem dX5_looksOf_48 : decode cX5_looksOf 48 = .ok (.iload_n 3, 1) := by decide +kernel
theorem dX5_looksOf_49 : decode cX5_looksOf 49 = .ok (.if_icmp .gt 79, 3) := by decide +kernel
theorem dX5_looksOf_52 : decode cX5_looksOf 52 = .ok (.iload 9, 2) := by decide +kernel
theorem dX5_looksOf_54 : decode cX5_looksOf 54 = .ok (.iload 12, 2) := by decide +kernel
theorem dX5_looksOf_56 : decode cX5_looksOf 56 = .ok (.invokestatic 157, 3) := by decide +kernel
theorem dX5_looksOf_59 : decode cX5_looksOf 59 = .ok (.istore 13, 2) := by decide +kernel
theorem dX5_looksOf_61 : decode cX5_looksOf 61 = .ok (.lload 10, 2) := by decide +kernel
theorem dX5_looksOf_63 : decode cX5_looksOf 63 = .ok (.iload 13, 2) := by decide +kernel
theorem dX5_looksOf_65 : decode cX5_looksOf 65 = .ok (.ifCond .eq 8, 3) := by decide +kernel
theorem dX5_looksOf_68 : decode cX5_looksOf 68 = .ok (.iload_n 1, 1) := by decide +kernel
theorem dX5_looksOf_69 : decode cX5_looksOf 69 = .ok (.i2l, 1) := by decide +kernel
theorem dX5_looksOf_70 : decode cX5_looksOf 70 = .ok (.goto 8, 3) := by decide +kernel
theorem dX5_looksOf_73 : decode cX5_looksOf 73 = .ok (.bipush 16, 2) := by decide +kernel
theorem dX5_looksOf_75 : decode cX5_looksOf 75 = .ok (.iload_n 1, 1) := by decide +kernel
theorem dX5_looksOf_76 : decode cX5_looksOf 76 = .ok (.isub, 1) := by decide +kernel
theorem dX5_looksOf_77 : decode cX5_looksOf 77 = .ok (.i2l, 1) := by decide +kernel
theorem dX5_looksOf_78 : decode cX5_looksOf 78 = .ok (.lmul, 1) := by decide +kernel
theorem dX5_looksOf_79 : decode cX5_looksOf 79 = .ok (.lstore 10, 2) := by decide +kernel
theorem dX5_looksOf_81 : decode cX5_looksOf 81 = .ok (.aload_n 0, 1) := by decide +kernel
theorem dX5_looksOf_82 : decode cX5_looksOf 82 = .ok (.getfield 34, 3) := by decide +kernel
theorem dX5_looksOf_85 : decode cX5_looksOf 85 = .ok (.iconst 3, 1) := by decide +kernel
theorem dX5_looksOf_86 : decode cX5_looksOf 86 = .ok (.iload 12, 2) := by decide +kernel
theorem dX5_looksOf_88 : decode cX5_looksOf 88 = .ok (.imul, 1) := by decide +kernel
theorem dX5_looksOf_89 : decode cX5_looksOf 89 = .ok (.iconst 1, 1) := by decide +kernel
theorem dX5_looksOf_90 : decode cX5_looksOf 90 = .ok (.iadd, 1) := by decide +kernel
theorem dX5_looksOf_91 : decode cX5_looksOf 91 = .ok (.aload_n 0, 1) := by decide +kernel
theorem dX5_looksOf_92 : decode cX5_looksOf 92 = .ok (.getfield 34, 3) := by decide +kernel
theorem dX5_looksOf_95 : decode cX5_looksOf 95 = .ok (.iconst 3, 1) := by decide +kernel
theorem dX5_looksOf_96 : decode cX5_looksOf 96 = .ok (.iload 12, 2) := by decide +kernel
theorem dX5_looksOf_98 : decode cX5_looksOf 98 = .ok (.imul, 1) := by decide +kernel
theorem dX5_looksOf_99 : decode cX5_looksOf 99 = .ok (.iconst 1, 1) := by decide +kernel
theorem dX5_looksOf_100 : decode cX5_looksOf 100 = .ok (.iadd, 1) := by decide +kernel
theorem dX5_looksOf_101 : decode cX5_looksOf 101 = .ok (.iaload, 1) := by decide +kernel
theorem dX5_looksOf_102 : decode cX5_looksOf 102 = .ok (.iconst 1, 1) := by decide +kernel
theorem dX5_looksOf_103 : decode cX5_looksOf 103 = .ok (.iload_n 2, 1) := by decide +kernel
theorem dX5_looksOf_104 : decode cX5_looksOf 104 = .ok (.ishl, 1) := by decide +kernel
theorem dX5_looksOf_105 : decode cX5_looksOf 105 = .ok (.iconst (-1), 1) := by decide +kernel
theorem dX5_looksOf_106 : decode cX5_looksOf 106 = .ok (.ixor, 1) := by decide +kernel
theorem dX5_looksOf_107 : decode cX5_looksOf 107 = .ok (.iand, 1) := by decide +kernel
theorem dX5_looksOf_108 : decode cX5_looksOf 108 = .ok (.iload 13, 2) := by decide +kernel
theorem dX5_looksOf_110 : decode cX5_looksOf 110 = .ok (.ifCond .eq 9, 3) := by decide +kernel
theorem dX5_looksOf_113 : decode cX5_looksOf 113 = .ok (.iconst 1, 1) := by decide +kernel
theorem dX5_looksOf_114 : decode cX5_looksOf 114 = .ok (.iload_n 2, 1) := by decide +kernel
theorem dX5_looksOf_115 : decode cX5_looksOf 115 = .ok (.ishl, 1) := by decide +kernel
theorem dX5_looksOf_116 : decode cX5_looksOf 116 = .ok (.goto 4, 3) := by decide +kernel
theorem dX5_looksOf_119 : decode cX5_looksOf 119 = .ok (.iconst 0, 1) := by decide +kernel
theorem dX5_looksOf_120 : decode cX5_looksOf 120 = .ok (.ior, 1) := by decide +kernel
theorem dX5_looksOf_121 : decode cX5_looksOf 121 = .ok (.iastore, 1) := by decide +kernel
theorem dX5_looksOf_122 : decode cX5_looksOf 122 = .ok (.iinc 12 1, 3) := by decide +kernel
theorem dX5_looksOf_125 : decode cX5_looksOf 125 = .ok (.goto (-79), 3) := by decide +kernel
theorem dX5_looksOf_128 : decode cX5_looksOf 128 = .ok (.aload_n 0, 1) := by decide +kernel
theorem dX5_looksOf_129 : decode cX5_looksOf 129 = .ok (.iload_n 3, 1) := by decide +kernel
theorem dX5_looksOf_130 : decode cX5_looksOf 130 = .ok (.invokevirtual 179, 3) := by decide +kernel
theorem dX5_looksOf_133 : decode cX5_looksOf 133 = .ok (.lload 5, 2) := by decide +kernel
theorem dX5_looksOf_135 : decode cX5_looksOf 135 = .ok (.aload_n 0, 1) := by decide +kernel
theorem dX5_looksOf_136 : decode cX5_looksOf 136 = .ok (.getfield 40, 3) := by decide +kernel
theorem dX5_looksOf_139 : decode cX5_looksOf 139 = .ok (.iload_n 3, 1) := by decide +kernel
theorem dX5_looksOf_140 : decode cX5_looksOf 140 = .ok (.iaload, 1) := by decide +kernel
theorem dX5_looksOf_141 : decode cX5_looksOf 141 = .ok (.iload_n 2, 1) := by decide +kernel
theorem dX5_looksOf_142 : decode cX5_looksOf 142 = .ok (.invokestatic 157, 3) := by decide +kernel
theorem dX5_looksOf_145 : decode cX5_looksOf 145 = .ok (.ifCond .eq 8, 3) := by decide +kernel
theorem dX5_looksOf_148 : decode cX5_looksOf 148 = .ok (.lload 10, 2) := by decide +kernel
theorem dX5_looksOf_150 : decode cX5_looksOf 150 = .ok (.goto 4, 3) := by decide +kernel
theorem dX5_looksOf_153 : decode cX5_looksOf 153 = .ok (.lconst 0, 1) := by decide +kernel
theorem dX5_looksOf_154 : decode cX5_looksOf 154 = .ok (.ladd, 1) := by decide +kernel
theorem dX5_looksOf_155 : decode cX5_looksOf 155 = .ok (.lstore 5, 2) := by decide +kernel
theorem dX5_looksOf_157 : decode cX5_looksOf 157 = .ok (.iinc 9 1, 3) := by decide +kernel
theorem dX5_looksOf_160 : decode cX5_looksOf 160 = .ok (.goto (-128), 3) := by decide +kernel
theorem dX5_looksOf_163 : decode cX5_looksOf 163 = .ok (.aload_n 0, 1) := by decide +kernel
theorem dX5_looksOf_164 : decode cX5_looksOf 164 = .ok (.invokevirtual 183, 3) := by decide +kernel
theorem dX5_looksOf_167 : decode cX5_looksOf 167 = .ok (.lload 5, 2) := by decide +kernel
theorem dX5_looksOf_169 : decode cX5_looksOf 169 = .ok (.lload 7, 2) := by decide +kernel
theorem dX5_looksOf_171 : decode cX5_looksOf 171 = .ok (.iload 4, 2) := by decide +kernel
theorem dX5_looksOf_173 : decode cX5_looksOf 173 = .ok (.invokestatic 264, 3) := by decide +kernel
theorem dX5_looksOf_176 : decode cX5_looksOf 176 = .ok (.lreturn, 1) := by decide +kernel
theorem dX5_looks_0 : decode cX5_looks 0 = .ok (.aload_n 0, 1) := by decide +kernel
theorem dX5_looks_1 : decode cX5_looks 1 = .ok (.invokevirtual 183, 3) := by decide +kernel
theorem dX5_looks_4 : decode cX5_looks 4 = .ok (.iload_n 1, 1) := by decide +kernel
theorem dX5_looks_5 : decode cX5_looks 5 = .ok (.i2l, 1) := by decide +kernel
theorem dX5_looks_6 : decode cX5_looks 6 = .ok (.lconst 0, 1) := by decide +kernel
theorem dX5_looks_7 : decode cX5_looks 7 = .ok (.ldc2_w 262, 3) := by decide +kernel
theorem dX5_looks_10 : decode cX5_looks 10 = .ok (.invokestatic 75, 3) := by decide +kernel
theorem dX5_looks_13 : decode cX5_looks 13 = .ok (.ifCond .eq 43, 3) := by decide +kernel
theorem dX5_looks_16 : decode cX5_looks 16 = .ok (.aload_n 0, 1) := by decide +kernel
theorem dX5_looks_17 : decode cX5_looks 17 = .ok (.iload_n 2, 1) := by decide +kernel
theorem dX5_looks_18 : decode cX5_looks 18 = .ok (.invokevirtual 134, 3) := by decide +kernel
theorem dX5_looks_21 : decode cX5_looks 21 = .ok (.ifCond .eq 35, 3) := by decide +kernel
theorem dX5_looks_24 : decode cX5_looks 24 = .ok (.iload_n 3, 1) := by decide +kernel
theorem dX5_looks_25 : decode cX5_looks 25 = .ok (.i2l, 1) := by decide +kernel
theorem dX5_looks_26 : decode cX5_looks 26 = .ok (.lconst 0, 1) := by decide +kernel
theorem dX5_looks_27 : decode cX5_looks 27 = .ok (.ldc2_w 234, 3) := by decide +kernel
theorem dX5_looks_30 : decode cX5_looks 30 = .ok (.invokestatic 75, 3) := by decide +kernel
theorem dX5_looks_33 : decode cX5_looks 33 = .ok (.ifCond .eq 23, 3) := by decide +kernel
theorem dX5_looks_36 : decode cX5_looks 36 = .ok (.iload 4, 2) := by decide +kernel
theorem dX5_looks_38 : decode cX5_looks 38 = .ok (.invokestatic 186, 3) := by decide +kernel
theorem dX5_looks_41 : decode cX5_looks 41 = .ok (.ifCond .eq 15, 3) := by decide +kernel
theorem dX5_looks_44 : decode cX5_looks 44 = .ok (.aload_n 0, 1) := by decide +kernel
theorem dX5_looks_45 : decode cX5_looks 45 = .ok (.iload_n 1, 1) := by decide +kernel
theorem dX5_looks_46 : decode cX5_looks 46 = .ok (.iload_n 2, 1) := by decide +kernel
theorem dX5_looks_47 : decode cX5_looks 47 = .ok (.iload_n 3, 1) := by decide +kernel
theorem dX5_looks_48 : decode cX5_looks 48 = .ok (.iload 4, 2) := by decide +kernel
theorem dX5_looks_50 : decode cX5_looks 50 = .ok (.invokevirtual 268, 3) := by decide +kernel
theorem dX5_looks_53 : decode cX5_looks 53 = .ok (.goto 8, 3) := by decide +kernel
theorem dX5_looks_56 : decode cX5_looks 56 = .ok (.bipush (-2), 2) := by decide +kernel
theorem dX5_looks_58 : decode cX5_looks 58 = .ok (.invokestatic 272, 3) := by decide +kernel
theorem dX5_looks_61 : decode cX5_looks 61 = .ok (.lreturn, 1) := by decide +kernel
theorem dX5_nightOf_0 : decode cX5_nightOf 0 = .ok (.iload_n 1, 1) := by decide +kernel
theorem dX5_nightOf_1 : decode cX5_nightOf 1 = .ok (.istore 4, 2) := by decide +kernel
theorem dX5_nightOf_3 : decode cX5_nightOf 3 = .ok (.iconst 0, 1) := by decide +kernel
theorem dX5_nightOf_4 : decode cX5_nightOf 4 = .ok (.istore 5, 2) := by decide +kernel
theorem dX5_nightOf_6 : decode cX5_nightOf 6 = .ok (.iload 5, 2) := by decide +kernel
theorem dX5_nightOf_8 : decode cX5_nightOf 8 = .ok (.iload_n 2, 1) := by decide +kernel
theorem dX5_nightOf_9 : decode cX5_nightOf 9 = .ok (.if_icmp .gt 52, 3) := by decide +kernel
theorem dX5_nightOf_12 : decode cX5_nightOf 12 = .ok (.aload_n 0, 1) := by decide +kernel
theorem dX5_nightOf_13 : decode cX5_nightOf 13 = .ok (.getfield 109, 3) := by decide +kernel
theorem dX5_nightOf_16 : decode cX5_nightOf 16 = .ok (.ifCond .le 45, 3) := by decide +kernel
theorem dX5_nightOf_19 : decode cX5_nightOf 19 = .ok (.ldc_w 276, 3) := by decide +kernel
theorem dX5_nightOf_22 : decode cX5_nightOf 22 = .ok (.iload 4, 2) := by decide +kernel
theorem dX5_nightOf_24 : decode cX5_nightOf 24 = .ok (.imul, 1) := by decide +kernel
theorem dX5_nightOf_25 : decode cX5_nightOf 25 = .ok (.sipush 12345, 3) := by decide +kernel
theorem dX5_nightOf_28 : decode cX5_nightOf 28 = .ok (.iadd, 1) := by decide +kernel
theorem dX5_nightOf_29 : decode cX5_nightOf 29 = .ok (.istore 4, 2) := by decide +kernel
theorem dX5_nightOf_31 : decode cX5_nightOf 31 = .ok (.aload_n 0, 1) := by decide +kernel
theorem dX5_nightOf_32 : decode cX5_nightOf 32 = .ok (.getfield 34, 3) := by decide +kernel
theorem dX5_nightOf_35 : decode cX5_nightOf 35 = .ok (.iconst 3, 1) := by decide +kernel
theorem dX5_nightOf_36 : decode cX5_nightOf 36 = .ok (.iload 5, 2) := by decide +kernel
theorem dX5_nightOf_38 : decode cX5_nightOf 38 = .ok (.imul, 1) := by decide +kernel
theorem dX5_nightOf_39 : decode cX5_nightOf 39 = .ok (.dup2, 1) := by decide +kernel
theorem dX5_nightOf_40 : decode cX5_nightOf 40 = .ok (.iaload, 1) := by decide +kernel
theorem dX5_nightOf_41 : decode cX5_nightOf 41 = .ok (.iconst 1, 1) := by decide +kernel
theorem dX5_nightOf_42 : decode cX5_nightOf 42 = .ok (.iload 4, 2) := by decide +kernel
theorem dX5_nightOf_44 : decode cX5_nightOf 44 = .ok (.bipush 16, 2) := by decide +kernel
theorem dX5_nightOf_46 : decode cX5_nightOf 46 = .ok (.iushr, 1) := by decide +kernel
theorem dX5_nightOf_47 : decode cX5_nightOf 47 = .ok (.aload_n 0, 1) := by decide +kernel
theorem dX5_nightOf_48 : decode cX5_nightOf 48 = .ok (.getfield 109, 3) := by decide +kernel
theorem dX5_nightOf_51 : decode cX5_nightOf 51 = .ok (.irem, 1) := by decide +kernel
theorem dX5_nightOf_52 : decode cX5_nightOf 52 = .ok (.ishl, 1) := by decide +kernel
theorem dX5_nightOf_53 : decode cX5_nightOf 53 = .ok (.ior, 1) := by decide +kernel
theorem dX5_nightOf_54 : decode cX5_nightOf 54 = .ok (.iastore, 1) := by decide +kernel
theorem dX5_nightOf_55 : decode cX5_nightOf 55 = .ok (.iinc 5 1, 3) := by decide +kernel
theorem dX5_nightOf_58 : decode cX5_nightOf 58 = .ok (.goto (-52), 3) := by decide +kernel
theorem dX5_nightOf_61 : decode cX5_nightOf 61 = .ok (.aload_n 0, 1) := by decide +kernel
theorem dX5_nightOf_62 : decode cX5_nightOf 62 = .ok (.iload_n 2, 1) := by decide +kernel
theorem dX5_nightOf_63 : decode cX5_nightOf 63 = .ok (.invokevirtual 179, 3) := by decide +kernel
theorem dX5_nightOf_66 : decode cX5_nightOf 66 = .ok (.iload_n 3, 1) := by decide +kernel
theorem dX5_nightOf_67 : decode cX5_nightOf 67 = .ok (.ifCond .ne 11, 3) := by decide +kernel
theorem dX5_nightOf_70 : decode cX5_nightOf 70 = .ok (.aload_n 0, 1) := by decide +kernel
theorem dX5_nightOf_71 : decode cX5_nightOf 71 = .ok (.iload_n 2, 1) := by decide +kernel
theorem dX5_nightOf_72 : decode cX5_nightOf 72 = .ok (.invokevirtual 220, 3) := by decide +kernel
theorem dX5_nightOf_75 : decode cX5_nightOf 75 = .ok (.goto 9, 3) := by decide +kernel
theorem dX5_nightOf_78 : decode cX5_nightOf 78 = .ok (.aload_n 0, 1) := by decide +kernel
theorem dX5_nightOf_79 : decode cX5_nightOf 79 = .ok (.getfield 40, 3) := by decide +kernel
theorem dX5_nightOf_82 : decode cX5_nightOf 82 = .ok (.iload_n 2, 1) := by decide +kernel
theorem dX5_nightOf_83 : decode cX5_nightOf 83 = .ok (.iaload, 1) := by decide +kernel
theorem dX5_nightOf_84 : decode cX5_nightOf 84 = .ok (.istore 5, 2) := by decide +kernel
theorem dX5_nightOf_86 : decode cX5_nightOf 86 = .ok (.aload_n 0, 1) := by decide +kernel
theorem dX5_nightOf_87 : decode cX5_nightOf 87 = .ok (.invokevirtual 183, 3) := by decide +kernel
theorem dX5_nightOf_90 : decode cX5_nightOf 90 = .ok (.iload 5, 2) := by decide +kernel
theorem dX5_nightOf_92 : decode cX5_nightOf 92 = .ok (.ireturn, 1) := by decide +kernel
theorem dX5_night_0 : decode cX5_night 0 = .ok (.aload_n 0, 1) := by decide +kernel
theorem dX5_night_1 : decode cX5_night 1 = .ok (.invokevirtual 183, 3) := by decide +kernel
theorem dX5_night_4 : decode cX5_night 4 = .ok (.iload_n 2, 1) := by decide +kernel
theorem dX5_night_5 : decode cX5_night 5 = .ok (.invokestatic 145, 3) := by decide +kernel
theorem dX5_night_8 : decode cX5_night 8 = .ok (.ifCond .eq 20, 3) := by decide +kernel
theorem dX5_night_11 : decode cX5_night 11 = .ok (.iload_n 3, 1) := by decide +kernel
theorem dX5_night_12 : decode cX5_night 12 = .ok (.invokestatic 186, 3) := by decide +kernel
theorem dX5_night_15 : decode cX5_night 15 = .ok (.ifCond .eq 13, 3) := by decide +kernel
theorem dX5_night_18 : decode cX5_night 18 = .ok (.aload_n 0, 1) := by decide +kernel
theorem dX5_night_19 : decode cX5_night 19 = .ok (.iload_n 1, 1) := by decide +kernel
theorem dX5_night_20 : decode cX5_night 20 = .ok (.iload_n 2, 1) := by decide +kernel
theorem dX5_night_21 : decode cX5_night 21 = .ok (.iload_n 3, 1) := by decide +kernel
theorem dX5_night_22 : decode cX5_night 22 = .ok (.invokevirtual 277, 3) := by decide +kernel
theorem dX5_night_25 : decode cX5_night 25 = .ok (.goto 5, 3) := by decide +kernel
theorem dX5_night_28 : decode cX5_night 28 = .ok (.bipush (-2), 2) := by decide +kernel
theorem dX5_night_30 : decode cX5_night 30 = .ok (.ireturn, 1) := by decide +kernel
theorem dX5_write_0 : decode cX5_write 0 = .ok (.iload_n 1, 1) := by decide +kernel
theorem dX5_write_1 : decode cX5_write 1 = .ok (.invokestatic 186, 3) := by decide +kernel
theorem dX5_write_4 : decode cX5_write 4 = .ok (.ifCond .eq 10, 3) := by decide +kernel
theorem dX5_write_7 : decode cX5_write 7 = .ok (.iload_n 2, 1) := by decide +kernel
theorem dX5_write_8 : decode cX5_write 8 = .ok (.invokestatic 85, 3) := by decide +kernel
theorem dX5_write_11 : decode cX5_write 11 = .ok (.ifCond .ne 6, 3) := by decide +kernel
theorem dX5_write_14 : decode cX5_write 14 = .ok (.bipush (-2), 2) := by decide +kernel
theorem dX5_write_16 : decode cX5_write 16 = .ok (.ireturn, 1) := by decide +kernel
theorem dX5_write_17 : decode cX5_write 17 = .ok (.aload_n 0, 1) := by decide +kernel
theorem dX5_write_18 : decode cX5_write 18 = .ok (.getfield 7, 3) := by decide +kernel
theorem dX5_write_21 : decode cX5_write 21 = .ok (.iload_n 2, 1) := by decide +kernel
theorem dX5_write_22 : decode cX5_write 22 = .ok (.iaload, 1) := by decide +kernel
theorem dX5_write_23 : decode cX5_write 23 = .ok (.ifCond .ge 9, 3) := by decide +kernel
theorem dX5_write_26 : decode cX5_write 26 = .ok (.aload_n 0, 1) := by decide +kernel
theorem dX5_write_27 : decode cX5_write 27 = .ok (.iconst 1, 1) := by decide +kernel
theorem dX5_write_28 : decode cX5_write 28 = .ok (.invokevirtual 91, 3) := by decide +kernel
theorem dX5_write_31 : decode cX5_write 31 = .ok (.ireturn, 1) := by decide +kernel
theorem dX5_write_32 : decode cX5_write 32 = .ok (.aload_n 0, 1) := by decide +kernel
theorem dX5_write_33 : decode cX5_write 33 = .ok (.invokevirtual 183, 3) := by decide +kernel
theorem dX5_write_36 : decode cX5_write 36 = .ok (.iconst 0, 1) := by decide +kernel
theorem dX5_write_37 : decode cX5_write 37 = .ok (.istore_n 3, 1) := by decide +kernel
theorem dX5_write_38 : decode cX5_write 38 = .ok (.iload_n 3, 1) := by decide +kernel
theorem dX5_write_39 : decode cX5_write 39 = .ok (.aload_n 0, 1) := by decide +kernel
theorem dX5_write_40 : decode cX5_write 40 = .ok (.getfield 13, 3) := by decide +kernel
theorem dX5_write_43 : decode cX5_write 43 = .ok (.iload_n 2, 1) := by decide +kernel
theorem dX5_write_44 : decode cX5_write 44 = .ok (.iaload, 1) := by decide +kernel
theorem dX5_write_45 : decode cX5_write 45 = .ok (.if_icmp .ge 48, 3) := by decide +kernel
theorem dX5_write_48 : decode cX5_write 48 = .ok (.aload_n 0, 1) := by decide +kernel
theorem dX5_write_49 : decode cX5_write 49 = .ok (.getfield 16, 3) := by decide +kernel
theorem dX5_write_52 : decode cX5_write 52 = .ok (.bipush 60, 2) := by decide +kernel
theorem dX5_write_54 : decode cX5_write 54 = .ok (.iload_n 2, 1) := by decide +kernel
theorem dX5_write_55 : decode cX5_write 55 = .ok (.imul, 1) := by decide +kernel
theorem dX5_write_56 : decode cX5_write 56 = .ok (.iload_n 3, 1) := by decide +kernel
theorem dX5_write_57 : decode cX5_write 57 = .ok (.iadd, 1) := by decide +kernel
theorem dX5_write_58 : decode cX5_write 58 = .ok (.aload_n 0, 1) := by decide +kernel
theorem dX5_write_59 : decode cX5_write 59 = .ok (.getfield 7, 3) := by decide +kernel
theorem dX5_write_62 : decode cX5_write 62 = .ok (.iload_n 2, 1) := by decide +kernel
theorem dX5_write_63 : decode cX5_write 63 = .ok (.iaload, 1) := by decide +kernel
theorem dX5_write_64 : decode cX5_write 64 = .ok (.iload_n 1, 1) := by decide +kernel
theorem dX5_write_65 : decode cX5_write 65 = .ok (.ifCond .ne 12, 3) := by decide +kernel
theorem dX5_write_68 : decode cX5_write 68 = .ok (.aload_n 0, 1) := by decide +kernel
theorem dX5_write_69 : decode cX5_write 69 = .ok (.getfield 37, 3) := by decide +kernel
theorem dX5_write_72 : decode cX5_write 72 = .ok (.iload_n 3, 1) := by decide +kernel
theorem dX5_write_73 : decode cX5_write 73 = .ok (.iaload, 1) := by decide +kernel
theorem dX5_write_74 : decode cX5_write 74 = .ok (.goto 9, 3) := by decide +kernel
theorem dX5_write_77 : decode cX5_write 77 = .ok (.aload_n 0, 1) := by decide +kernel
theorem dX5_write_78 : decode cX5_write 78 = .ok (.getfield 40, 3) := by decide +kernel
theorem dX5_write_81 : decode cX5_write 81 = .ok (.iload_n 3, 1) := by decide +kernel
theorem dX5_write_82 : decode cX5_write 82 = .ok (.iaload, 1) := by decide +kernel
theorem dX5_write_83 : decode cX5_write 83 = .ok (.invokestatic 99, 3) := by decide +kernel
theorem dX5_write_86 : decode cX5_write 86 = .ok (.iastore, 1) := by decide +kernel
theorem dX5_write_87 : decode cX5_write 87 = .ok (.iinc 3 1, 3) := by decide +kernel
theorem dX5_write_90 : decode cX5_write 90 = .ok (.goto (-52), 3) := by decide +kernel
theorem dX5_write_93 : decode cX5_write 93 = .ok (.aload_n 0, 1) := by decide +kernel
theorem dX5_write_94 : decode cX5_write 94 = .ok (.getfield 13, 3) := by decide +kernel
theorem dX5_write_97 : decode cX5_write 97 = .ok (.iload_n 2, 1) := by decide +kernel
theorem dX5_write_98 : decode cX5_write 98 = .ok (.iaload, 1) := by decide +kernel
theorem dX5_write_99 : decode cX5_write 99 = .ok (.ireturn, 1) := by decide +kernel
theorem dX5_count_0 : decode cX5_count 0 = .ok (.iconst 0, 1) := by decide +kernel
theorem dX5_count_1 : decode cX5_count 1 = .ok (.istore_n 2, 1) := by decide +kernel
theorem dX5_count_2 : decode cX5_count 2 = .ok (.aload_n 0, 1) := by decide +kernel
theorem dX5_count_3 : decode cX5_count 3 = .ok (.invokevirtual 183, 3) := by decide +kernel
theorem dX5_count_6 : decode cX5_count 6 = .ok (.iload_n 1, 1) := by decide +kernel
theorem dX5_count_7 : decode cX5_count 7 = .ok (.tableswitch 155 0 8 #[49, 54, 59, 64, 69, 74, 105, 112, 150], 49) := by decide +kernel
theorem dX5_count_56 : decode cX5_count 56 = .ok (.aload_n 0, 1) := by decide +kernel
theorem dX5_count_57 : decode cX5_count 57 = .ok (.getfield 109, 3) := by decide +kernel
theorem dX5_count_60 : decode cX5_count 60 = .ok (.ireturn, 1) := by decide +kernel
theorem dX5_count_61 : decode cX5_count 61 = .ok (.aload_n 0, 1) := by decide +kernel
theorem dX5_count_62 : decode cX5_count 62 = .ok (.getfield 106, 3) := by decide +kernel
theorem dX5_count_65 : decode cX5_count 65 = .ok (.ireturn, 1) := by decide +kernel
theorem dX5_count_66 : decode cX5_count 66 = .ok (.aload_n 0, 1) := by decide +kernel
theorem dX5_count_67 : decode cX5_count 67 = .ok (.getfield 148, 3) := by decide +kernel
theorem dX5_count_70 : decode cX5_count 70 = .ok (.ireturn, 1) := by decide +kernel
theorem dX5_count_71 : decode cX5_count 71 = .ok (.aload_n 0, 1) := by decide +kernel
theorem dX5_count_72 : decode cX5_count 72 = .ok (.getfield 236, 3) := by decide +kernel
theorem dX5_count_75 : decode cX5_count 75 = .ok (.ireturn, 1) := by decide +kernel
theorem dX5_count_76 : decode cX5_count 76 = .ok (.aload_n 0, 1) := by decide +kernel
theorem dX5_count_77 : decode cX5_count 77 = .ok (.getfield 142, 3) := by decide +kernel
theorem dX5_count_80 : decode cX5_count 80 = .ok (.ireturn, 1) := by decide +kernel
theorem dX5_count_81 : decode cX5_count 81 = .ok (.iconst 0, 1) := by decide +kernel
theorem dX5_count_82 : decode cX5_count 82 = .ok (.istore_n 3, 1) := by decide +kernel
theorem dX5_count_83 : decode cX5_count 83 = .ok (.iload_n 3, 1) := by decide +kernel
theorem dX5_count_84 : decode cX5_count 84 = .ok (.aload_n 0, 1) := by decide +kernel
theorem dX5_count_85 : decode cX5_count 85 = .ok (.getfield 109, 3) := by decide +kernel
theorem dX5_count_88 : decode cX5_count 88 = .ok (.if_icmp .ge 22, 3) := by decide +kernel
theorem dX5_count_91 : decode cX5_count 91 = .ok (.iload_n 2, 1) := by decide +kernel
theorem dX5_count_92 : decode cX5_count 92 = .ok (.aload_n 0, 1) := by decide +kernel
theorem dX5_count_93 : decode cX5_count 93 = .ok (.getfield 25, 3) := by decide +kernel
theorem dX5_count_96 : decode cX5_count 96 = .ok (.iconst 3, 1) := by decide +kernel
theorem dX5_count_97 : decode cX5_count 97 = .ok (.iload_n 3, 1) := by decide +kernel
theorem dX5_count_98 : decode cX5_count 98 = .ok (.imul, 1) := by decide +kernel
theorem dX5_count_99 : decode cX5_count 99 = .ok (.iconst 2, 1) := by decide +kernel
theorem dX5_count_100 : decode cX5_count 100 = .ok (.iadd, 1) := by decide +kernel
theorem dX5_count_101 : decode cX5_count 101 = .ok (.iaload, 1) := by decide +kernel
theorem dX5_count_102 : decode cX5_count 102 = .ok (.iadd, 1) := by decide +kernel
theorem dX5_count_103 : decode cX5_count 103 = .ok (.istore_n 2, 1) := by decide +kernel
theorem dX5_count_104 : decode cX5_count 104 = .ok (.iinc 3 1, 3) := by decide +kernel
theorem dX5_count_107 : decode cX5_count 107 = .ok (.goto (-24), 3) := by decide +kernel
theorem dX5_count_110 : decode cX5_count 110 = .ok (.iload_n 2, 1) := by decide +kernel
theorem dX5_count_111 : decode cX5_count 111 = .ok (.ireturn, 1) := by decide +kernel
theorem dX5_count_112 : decode cX5_count 112 = .ok (.aload_n 0, 1) := by decide +kernel
theorem dX5_count_113 : decode cX5_count 113 = .ok (.bipush 59, 2) := by decide +kernel
theorem dX5_count_115 : decode cX5_count 115 = .ok (.invokevirtual 220, 3) := by decide +kernel
theorem dX5_count_118 : decode cX5_count 118 = .ok (.ireturn, 1) := by decide +kernel
theorem dX5_count_119 : decode cX5_count 119 = .ok (.iconst 0, 1) := by decide +kernel
theorem dX5_count_120 : decode cX5_count 120 = .ok (.istore_n 3, 1) := by decide +kernel
theorem dX5_count_121 : decode cX5_count 121 = .ok (.iload_n 3, 1) := by decide +kernel
theorem dX5_count_122 : decode cX5_count 122 = .ok (.aload_n 0, 1) := by decide +kernel
theorem dX5_count_123 : decode cX5_count 123 = .ok (.getfield 109, 3) := by decide +kernel
theorem dX5_count_126 : decode cX5_count 126 = .ok (.if_icmp .ge 29, 3) := by decide +kernel
theorem dX5_count_129 : decode cX5_count 129 = .ok (.iload_n 2, 1) := by decide +kernel
theorem dX5_count_130 : decode cX5_count 130 = .ok (.aload_n 0, 1) := by decide +kernel
theorem dX5_count_131 : decode cX5_count 131 = .ok (.getfield 25, 3) := by decide +kernel
theorem dX5_count_134 : decode cX5_count 134 = .ok (.iconst 3, 1) := by decide +kernel
theorem dX5_count_135 : decode cX5_count 135 = .ok (.iload_n 3, 1) := by decide +kernel
theorem dX5_count_136 : decode cX5_count 136 = .ok (.imul, 1) := by decide +kernel
theorem dX5_count_137 : decode cX5_count 137 = .ok (.iaload, 1) := by decide +kernel
theorem dX5_count_138 : decode cX5_count 138 = .ok (.iconst 4, 1) := by decide +kernel
theorem dX5_count_139 : decode cX5_count 139 = .ok (.if_icmp .ne 7, 3) := by decide +kernel
theorem dX5_count_142 : decode cX5_count 142 = .ok (.iconst 1, 1) := by decide +kernel
theorem dX5_count_143 : decode cX5_count 143 = .ok (.goto 4, 3) := by decide +kernel
theorem dX5_count_146 : decode cX5_count 146 = .ok (.iconst 0, 1) := by decide +kernel
theorem dX5_count_147 : decode cX5_count 147 = .ok (.iadd, 1) := by decide +kernel
theorem dX5_count_148 : decode cX5_count 148 = .ok (.istore_n 2, 1) := by decide +kernel
theorem dX5_count_149 : decode cX5_count 149 = .ok (.iinc 3 1, 3) := by decide +kernel
theorem dX5_count_152 : decode cX5_count 152 = .ok (.goto (-31), 3) := by decide +kernel
theorem dX5_count_155 : decode cX5_count 155 = .ok (.iload_n 2, 1) := by decide +kernel
theorem dX5_count_156 : decode cX5_count 156 = .ok (.ireturn, 1) := by decide +kernel
theorem dX5_count_157 : decode cX5_count 157 = .ok (.aload_n 0, 1) := by decide +kernel
theorem dX5_count_158 : decode cX5_count 158 = .ok (.getfield 79, 3) := by decide +kernel
theorem dX5_count_161 : decode cX5_count 161 = .ok (.ireturn, 1) := by decide +kernel
theorem dX5_count_162 : decode cX5_count 162 = .ok (.bipush (-2), 2) := by decide +kernel
theorem dX5_count_164 : decode cX5_count 164 = .ok (.ireturn, 1) := by decide +kernel
theorem dX5_tellsBox_0 : decode cX5_tellsBox 0 = .ok (.lload_n 1, 1) := by decide +kernel
theorem dX5_tellsBox_1 : decode cX5_tellsBox 1 = .ok (.lstore 4, 2) := by decide +kernel
theorem dX5_tellsBox_3 : decode cX5_tellsBox 3 = .ok (.iconst 0, 1) := by decide +kernel
theorem dX5_tellsBox_4 : decode cX5_tellsBox 4 = .ok (.istore 6, 2) := by decide +kernel
theorem dX5_tellsBox_6 : decode cX5_tellsBox 6 = .ok (.iload 6, 2) := by decide +kernel
theorem dX5_tellsBox_8 : decode cX5_tellsBox 8 = .ok (.iconst 3, 1) := by decide +kernel
theorem dX5_tellsBox_9 : decode cX5_tellsBox 9 = .ok (.if_icmp .ge 30, 3) := by decide +kernel
theorem dX5_tellsBox_12 : decode cX5_tellsBox 12 = .ok (.ldc2_w 280, 3) := by decide +kernel
theorem dX5_tellsBox_15 : decode cX5_tellsBox 15 = .ok (.lload 4, 2) := by decide +kernel
theorem dX5_tellsBox_17 : decode cX5_tellsBox 17 = .ok (.lmul, 1) := by decide +kernel
theorem dX5_tellsBox_18 : decode cX5_tellsBox 18 = .ok (.aload_n 0, 1) := by decide +kernel
theorem dX5_tellsBox_19 : decode cX5_tellsBox 19 = .ok (.getfield 25, 3) := by decide +kernel
theorem dX5_tellsBox_22 : decode cX5_tellsBox 22 = .ok (.iconst 3, 1) := by decide +kernel
theorem dX5_tellsBox_23 : decode cX5_tellsBox 23 = .ok (.iload_n 3, 1) := by decide +kernel
theorem dX5_tellsBox_24 : decode cX5_tellsBox 24 = .ok (.imul, 1) := by decide +kernel
theorem dX5_tellsBox_25 : decode cX5_tellsBox 25 = .ok (.iload 6, 2) := by decide +kernel
theorem dX5_tellsBox_27 : decode cX5_tellsBox 27 = .ok (.iadd, 1) := by decide +kernel
theorem dX5_tellsBox_28 : decode cX5_tellsBox 28 = .ok (.iaload, 1) := by decide +kernel
theorem dX5_tellsBox_29 : decode cX5_tellsBox 29 = .ok (.i2l, 1) := by decide +kernel
theorem dX5_tellsBox_30 : decode cX5_tellsBox 30 = .ok (.ladd, 1) := by decide +kernel
theorem dX5_tellsBox_31 : decode cX5_tellsBox 31 = .ok (.lstore 4, 2) := by decide +kernel
theorem dX5_tellsBox_33 : decode cX5_tellsBox 33 = .ok (.iinc 6 1, 3) := by decide +kernel
theorem dX5_tellsBox_36 : decode cX5_tellsBox 36 = .ok (.goto (-30), 3) := by decide +kernel
theorem dX5_tellsBox_39 : decode cX5_tellsBox 39 = .ok (.ldc2_w 280, 3) := by decide +kernel
theorem dX5_tellsBox_42 : decode cX5_tellsBox 42 = .ok (.lload 4, 2) := by decide +kernel
theorem dX5_tellsBox_44 : decode cX5_tellsBox 44 = .ok (.lmul, 1) := by decide +kernel
theorem dX5_tellsBox_45 : decode cX5_tellsBox 45 = .ok (.aload_n 0, 1) := by decide +kernel
theorem dX5_tellsBox_46 : decode cX5_tellsBox 46 = .ok (.iload_n 3, 1) := by decide +kernel
theorem dX5_tellsBox_47 : decode cX5_tellsBox 47 = .ok (.invokevirtual 195, 3) := by decide +kernel
theorem dX5_tellsBox_50 : decode cX5_tellsBox 50 = .ok (.i2l, 1) := by decide +kernel
theorem dX5_tellsBox_51 : decode cX5_tellsBox 51 = .ok (.ladd, 1) := by decide +kernel
theorem dX5_tellsBox_52 : decode cX5_tellsBox 52 = .ok (.lstore 4, 2) := by decide +kernel
theorem dX5_tellsBox_54 : decode cX5_tellsBox 54 = .ok (.ldc2_w 280, 3) := by decide +kernel
theorem dX5_tellsBox_57 : decode cX5_tellsBox 57 = .ok (.lload 4, 2) := by decide +kernel
theorem dX5_tellsBox_59 : decode cX5_tellsBox 59 = .ok (.lmul, 1) := by decide +kernel
theorem dX5_tellsBox_60 : decode cX5_tellsBox 60 = .ok (.aload_n 0, 1) := by decide +kernel
theorem dX5_tellsBox_61 : decode cX5_tellsBox 61 = .ok (.getfield 43, 3) := by decide +kernel
theorem dX5_tellsBox_64 : decode cX5_tellsBox 64 = .ok (.bipush 81, 2) := by decide +kernel
theorem dX5_tellsBox_66 : decode cX5_tellsBox 66 = .ok (.iload_n 3, 1) := by decide +kernel
theorem dX5_tellsBox_67 : decode cX5_tellsBox 67 = .ok (.iadd, 1) := by decide +kernel
theorem dX5_tellsBox_68 : decode cX5_tellsBox 68 = .ok (.iaload, 1) := by decide +kernel
theorem dX5_tellsBox_69 : decode cX5_tellsBox 69 = .ok (.i2l, 1) := by decide +kernel
theorem dX5_tellsBox_70 : decode cX5_tellsBox 70 = .ok (.ladd, 1) := by decide +kernel
theorem dX5_tellsBox_71 : decode cX5_tellsBox 71 = .ok (.lstore 4, 2) := by decide +kernel
theorem dX5_tellsBox_73 : decode cX5_tellsBox 73 = .ok (.ldc2_w 280, 3) := by decide +kernel
theorem dX5_tellsBox_76 : decode cX5_tellsBox 76 = .ok (.lload 4, 2) := by decide +kernel
theorem dX5_tellsBox_78 : decode cX5_tellsBox 78 = .ok (.lmul, 1) := by decide +kernel
theorem dX5_tellsBox_79 : decode cX5_tellsBox 79 = .ok (.iload_n 3, 1) := by decide +kernel
theorem dX5_tellsBox_80 : decode cX5_tellsBox 80 = .ok (.ifCond .ne 8, 3) := by decide +kernel
theorem dX5_tellsBox_83 : decode cX5_tellsBox 83 = .ok (.bipush (-2), 2) := by decide +kernel
theorem dX5_tellsBox_85 : decode cX5_tellsBox 85 = .ok (.goto 9, 3) := by decide +kernel
theorem dX5_tellsBox_88 : decode cX5_tellsBox 88 = .ok (.aload_n 0, 1) := by decide +kernel
theorem dX5_tellsBox_89 : decode cX5_tellsBox 89 = .ok (.iload_n 3, 1) := by decide +kernel
theorem dX5_tellsBox_90 : decode cX5_tellsBox 90 = .ok (.iconst 0, 1) := by decide +kernel
theorem dX5_tellsBox_91 : decode cX5_tellsBox 91 = .ok (.invokevirtual 201, 3) := by decide +kernel
theorem dX5_tellsBox_94 : decode cX5_tellsBox 94 = .ok (.i2l, 1) := by decide +kernel
theorem dX5_tellsBox_95 : decode cX5_tellsBox 95 = .ok (.ladd, 1) := by decide +kernel
theorem dX5_tellsBox_96 : decode cX5_tellsBox 96 = .ok (.lstore 4, 2) := by decide +kernel
theorem dX5_tellsBox_98 : decode cX5_tellsBox 98 = .ok (.ldc2_w 280, 3) := by decide +kernel
theorem dX5_tellsBox_101 : decode cX5_tellsBox 101 = .ok (.lload 4, 2) := by decide +kernel
theorem dX5_tellsBox_103 : decode cX5_tellsBox 103 = .ok (.lmul, 1) := by decide +kernel
theorem dX5_tellsBox_104 : decode cX5_tellsBox 104 = .ok (.aload_n 0, 1) := by decide +kernel
theorem dX5_tellsBox_105 : decode cX5_tellsBox 105 = .ok (.iload_n 3, 1) := by decide +kernel
theorem dX5_tellsBox_106 : decode cX5_tellsBox 106 = .ok (.iconst 2, 1) := by decide +kernel
theorem dX5_tellsBox_107 : decode cX5_tellsBox 107 = .ok (.bipush 59, 2) := by decide +kernel
theorem dX5_tellsBox_109 : decode cX5_tellsBox 109 = .ok (.invokevirtual 204, 3) := by decide +kernel
theorem dX5_tellsBox_112 : decode cX5_tellsBox 112 = .ok (.i2l, 1) := by decide +kernel
theorem dX5_tellsBox_113 : decode cX5_tellsBox 113 = .ok (.ladd, 1) := by decide +kernel
theorem dX5_tellsBox_114 : decode cX5_tellsBox 114 = .ok (.lstore 4, 2) := by decide +kernel
theorem dX5_tellsBox_116 : decode cX5_tellsBox 116 = .ok (.ldc2_w 280, 3) := by decide +kernel
theorem dX5_tellsBox_119 : decode cX5_tellsBox 119 = .ok (.lload 4, 2) := by decide +kernel
theorem dX5_tellsBox_121 : decode cX5_tellsBox 121 = .ok (.lmul, 1) := by decide +kernel
theorem dX5_tellsBox_122 : decode cX5_tellsBox 122 = .ok (.aload_n 0, 1) := by decide +kernel
theorem dX5_tellsBox_123 : decode cX5_tellsBox 123 = .ok (.iload_n 3, 1) := by decide +kernel
theorem dX5_tellsBox_124 : decode cX5_tellsBox 124 = .ok (.iconst (-1), 1) := by decide +kernel
theorem dX5_tellsBox_125 : decode cX5_tellsBox 125 = .ok (.invokevirtual 253, 3) := by decide +kernel
theorem dX5_tellsBox_128 : decode cX5_tellsBox 128 = .ok (.i2l, 1) := by decide +kernel
theorem dX5_tellsBox_129 : decode cX5_tellsBox 129 = .ok (.ladd, 1) := by decide +kernel
theorem dX5_tellsBox_130 : decode cX5_tellsBox 130 = .ok (.lstore 4, 2) := by decide +kernel
theorem dX5_tellsBox_132 : decode cX5_tellsBox 132 = .ok (.ldc2_w 280, 3) := by decide +kernel
theorem dX5_tellsBox_135 : decode cX5_tellsBox 135 = .ok (.lload 4, 2) := by decide +kernel
theorem dX5_tellsBox_137 : decode cX5_tellsBox 137 = .ok (.lmul, 1) := by decide +kernel
theorem dX5_tellsBox_138 : decode cX5_tellsBox 138 = .ok (.aload_n 0, 1) := by decide +kernel
theorem dX5_tellsBox_139 : decode cX5_tellsBox 139 = .ok (.iload_n 3, 1) := by decide +kernel
theorem dX5_tellsBox_140 : decode cX5_tellsBox 140 = .ok (.iconst 0, 1) := by decide +kernel
theorem dX5_tellsBox_141 : decode cX5_tellsBox 141 = .ok (.invokevirtual 253, 3) := by decide +kernel
theorem dX5_tellsBox_144 : decode cX5_tellsBox 144 = .ok (.i2l, 1) := by decide +kernel
theorem dX5_tellsBox_145 : decode cX5_tellsBox 145 = .ok (.ladd, 1) := by decide +kernel
theorem dX5_tellsBox_146 : decode cX5_tellsBox 146 = .ok (.lstore 4, 2) := by decide +kernel
theorem dX5_tellsBox_148 : decode cX5_tellsBox 148 = .ok (.ldc2_w 280, 3) := by decide +kernel
theorem dX5_tellsBox_151 : decode cX5_tellsBox 151 = .ok (.lload 4, 2) := by decide +kernel
theorem dX5_tellsBox_153 : decode cX5_tellsBox 153 = .ok (.lmul, 1) := by decide +kernel
theorem dX5_tellsBox_154 : decode cX5_tellsBox 154 = .ok (.aload_n 0, 1) := by decide +kernel
theorem dX5_tellsBox_155 : decode cX5_tellsBox 155 = .ok (.iconst 5, 1) := by decide +kernel
theorem dX5_tellsBox_156 : decode cX5_tellsBox 156 = .ok (.iload_n 3, 1) := by decide +kernel
theorem dX5_tellsBox_157 : decode cX5_tellsBox 157 = .ok (.iconst 4, 1) := by decide +kernel
theorem dX5_tellsBox_158 : decode cX5_tellsBox 158 = .ok (.iconst 0, 1) := by decide +kernel
theorem dX5_tellsBox_159 : decode cX5_tellsBox 159 = .ok (.invokevirtual 268, 3) := by decide +kernel
theorem dX5_tellsBox_162 : decode cX5_tellsBox 162 = .ok (.ladd, 1) := by decide +kernel
theorem dX5_tellsBox_163 : decode cX5_tellsBox 163 = .ok (.lstore 4, 2) := by decide +kernel
theorem dX5_tellsBox_165 : decode cX5_tellsBox 165 = .ok (.ldc2_w 280, 3) := by decide +kernel
theorem dX5_tellsBox_168 : decode cX5_tellsBox 168 = .ok (.lload 4, 2) := by decide +kernel
theorem dX5_tellsBox_170 : decode cX5_tellsBox 170 = .ok (.lmul, 1) := by decide +kernel
theorem dX5_tellsBox_171 : decode cX5_tellsBox 171 = .ok (.aload_n 0, 1) := by decide +kernel
theorem dX5_tellsBox_172 : decode cX5_tellsBox 172 = .ok (.iconst 5, 1) := by decide +kernel
theorem dX5_tellsBox_173 : decode cX5_tellsBox 173 = .ok (.iload_n 3, 1) := by decide +kernel
theorem dX5_tellsBox_174 : decode cX5_tellsBox 174 = .ok (.iconst 4, 1) := by decide +kernel
theorem dX5_tellsBox_175 : decode cX5_tellsBox 175 = .ok (.iconst 1, 1) := by decide +kernel
theorem dX5_tellsBox_176 : decode cX5_tellsBox 176 = .ok (.invokevirtual 268, 3) := by decide +kernel
theorem dX5_tellsBox_179 : decode cX5_tellsBox 179 = .ok (.ladd, 1) := by decide +kernel
theorem dX5_tellsBox_180 : decode cX5_tellsBox 180 = .ok (.lreturn, 1) := by decide +kernel
theorem dX5_digest_0 : decode cX5_digest 0 = .ok (.ldc2_w 282, 3) := by decide +kernel
theorem dX5_digest_3 : decode cX5_digest 3 = .ok (.lstore_n 1, 1) := by decide +kernel
theorem dX5_digest_4 : decode cX5_digest 4 = .ok (.iconst 0, 1) := by decide +kernel
theorem dX5_digest_5 : decode cX5_digest 5 = .ok (.istore_n 3, 1) := by decide +kernel
theorem dX5_digest_6 : decode cX5_digest 6 = .ok (.iload_n 3, 1) := by decide +kernel
theorem dX5_digest_7 : decode cX5_digest 7 = .ok (.bipush 8, 2) := by decide +kernel
theorem dX5_digest_9 : decode cX5_digest 9 = .ok (.if_icmp .ge 22, 3) := by decide +kernel
theorem dX5_digest_12 : decode cX5_digest 12 = .ok (.ldc2_w 280, 3) := by decide +kernel
theorem dX5_digest_15 : decode cX5_digest 15 = .ok (.lload_n 1, 1) := by decide +kernel
theorem dX5_digest_16 : decode cX5_digest 16 = .ok (.lmul, 1) := by decide +kernel
theorem dX5_digest_17 : decode cX5_digest 17 = .ok (.aload_n 0, 1) := by decide +kernel
theorem dX5_digest_18 : decode cX5_digest 18 = .ok (.iload_n 3, 1) := by decide +kernel
theorem dX5_digest_19 : decode cX5_digest 19 = .ok (.invokevirtual 284, 3) := by decide +kernel
theorem dX5_digest_22 : decode cX5_digest 22 = .ok (.i2l, 1) := by decide +kernel
theorem dX5_digest_23 : decode cX5_digest 23 = .ok (.ladd, 1) := by decide +kernel
theorem dX5_digest_24 : decode cX5_digest 24 = .ok (.lstore_n 1, 1) := by decide +kernel
theorem dX5_digest_25 : decode cX5_digest 25 = .ok (.iinc 3 1, 3) := by decide +kernel
theorem dX5_digest_28 : decode cX5_digest 28 = .ok (.goto (-22), 3) := by decide +kernel
theorem dX5_digest_31 : decode cX5_digest 31 = .ok (.ldc2_w 280, 3) := by decide +kernel
theorem dX5_digest_34 : decode cX5_digest 34 = .ok (.lload_n 1, 1) := by decide +kernel
theorem dX5_digest_35 : decode cX5_digest 35 = .ok (.lmul, 1) := by decide +kernel
theorem dX5_digest_36 : decode cX5_digest 36 = .ok (.aload_n 0, 1) := by decide +kernel
theorem dX5_digest_37 : decode cX5_digest 37 = .ok (.invokevirtual 126, 3) := by decide +kernel
theorem dX5_digest_40 : decode cX5_digest 40 = .ok (.i2l, 1) := by decide +kernel
theorem dX5_digest_41 : decode cX5_digest 41 = .ok (.ladd, 1) := by decide +kernel
theorem dX5_digest_42 : decode cX5_digest 42 = .ok (.lstore_n 1, 1) := by decide +kernel
theorem dX5_digest_43 : decode cX5_digest 43 = .ok (.aload_n 0, 1) := by decide +kernel
theorem dX5_digest_44 : decode cX5_digest 44 = .ok (.invokevirtual 183, 3) := by decide +kernel
theorem dX5_digest_47 : decode cX5_digest 47 = .ok (.iconst 0, 1) := by decide +kernel
theorem dX5_digest_48 : decode cX5_digest 48 = .ok (.istore_n 3, 1) := by decide +kernel
theorem dX5_digest_49 : decode cX5_digest 49 = .ok (.iload_n 3, 1) := by decide +kernel
theorem dX5_digest_50 : decode cX5_digest 50 = .ok (.bipush 9, 2) := by decide +kernel
theorem dX5_digest_52 : decode cX5_digest 52 = .ok (.if_icmp .ge 23, 3) := by decide +kernel
theorem dX5_digest_55 : decode cX5_digest 55 = .ok (.ldc2_w 280, 3) := by decide +kernel
theorem dX5_digest_58 : decode cX5_digest 58 = .ok (.lload_n 1, 1) := by decide +kernel
theorem dX5_digest_59 : decode cX5_digest 59 = .ok (.lmul, 1) := by decide +kernel
theorem dX5_digest_60 : decode cX5_digest 60 = .ok (.aload_n 0, 1) := by decide +kernel
theorem dX5_digest_61 : decode cX5_digest 61 = .ok (.getfield 28, 3) := by decide +kernel
theorem dX5_digest_64 : decode cX5_digest 64 = .ok (.iload_n 3, 1) := by decide +kernel
theorem dX5_digest_65 : decode cX5_digest 65 = .ok (.iaload, 1) := by decide +kernel
theorem dX5_digest_66 : decode cX5_digest 66 = .ok (.i2l, 1) := by decide +kernel
theorem dX5_digest_67 : decode cX5_digest 67 = .ok (.ladd, 1) := by decide +kernel
theorem dX5_digest_68 : decode cX5_digest 68 = .ok (.lstore_n 1, 1) := by decide +kernel
theorem dX5_digest_69 : decode cX5_digest 69 = .ok (.iinc 3 1, 3) := by decide +kernel
theorem dX5_digest_72 : decode cX5_digest 72 = .ok (.goto (-23), 3) := by decide +kernel
theorem dX5_digest_75 : decode cX5_digest 75 = .ok (.iconst 0, 1) := by decide +kernel
theorem dX5_digest_76 : decode cX5_digest 76 = .ok (.istore_n 3, 1) := by decide +kernel
theorem dX5_digest_77 : decode cX5_digest 77 = .ok (.iload_n 3, 1) := by decide +kernel
theorem dX5_digest_78 : decode cX5_digest 78 = .ok (.aload_n 0, 1) := by decide +kernel
theorem dX5_digest_79 : decode cX5_digest 79 = .ok (.getfield 109, 3) := by decide +kernel
theorem dX5_digest_82 : decode cX5_digest 82 = .ok (.if_icmp .ge 16, 3) := by decide +kernel
theorem dX5_digest_85 : decode cX5_digest 85 = .ok (.aload_n 0, 1) := by decide +kernel
theorem dX5_digest_86 : decode cX5_digest 86 = .ok (.lload_n 1, 1) := by decide +kernel
theorem dX5_digest_87 : decode cX5_digest 87 = .ok (.iload_n 3, 1) := by decide +kernel
theorem dX5_digest_88 : decode cX5_digest 88 = .ok (.invokevirtual 287, 3) := by decide +kernel
theorem dX5_digest_91 : decode cX5_digest 91 = .ok (.lstore_n 1, 1) := by decide +kernel
theorem dX5_digest_92 : decode cX5_digest 92 = .ok (.iinc 3 1, 3) := by decide +kernel
theorem dX5_digest_95 : decode cX5_digest 95 = .ok (.goto (-18), 3) := by decide +kernel
theorem dX5_digest_98 : decode cX5_digest 98 = .ok (.iconst 0, 1) := by decide +kernel
theorem dX5_digest_99 : decode cX5_digest 99 = .ok (.istore_n 3, 1) := by decide +kernel
theorem dX5_digest_100 : decode cX5_digest 100 = .ok (.iload_n 3, 1) := by decide +kernel
theorem dX5_digest_101 : decode cX5_digest 101 = .ok (.iconst 5, 1) := by decide +kernel
theorem dX5_digest_102 : decode cX5_digest 102 = .ok (.if_icmp .ge 62, 3) := by decide +kernel
theorem dX5_digest_105 : decode cX5_digest 105 = .ok (.iload_n 3, 1) := by decide +kernel
theorem dX5_digest_106 : decode cX5_digest 106 = .ok (.iconst 3, 1) := by decide +kernel
theorem dX5_digest_107 : decode cX5_digest 107 = .ok (.if_icmp .ge 7, 3) := by decide +kernel
theorem dX5_digest_110 : decode cX5_digest 110 = .ok (.iload_n 3, 1) := by decide +kernel
theorem dX5_digest_111 : decode cX5_digest 111 = .ok (.goto 15, 3) := by decide +kernel
theorem dX5_digest_114 : decode cX5_digest 114 = .ok (.iload_n 3, 1) := by decide +kernel
theorem dX5_digest_115 : decode cX5_digest 115 = .ok (.iconst 3, 1) := by decide +kernel
theorem dX5_digest_116 : decode cX5_digest 116 = .ok (.if_icmp .ne 8, 3) := by decide +kernel
theorem dX5_digest_119 : decode cX5_digest 119 = .ok (.bipush 9, 2) := by decide +kernel
theorem dX5_digest_121 : decode cX5_digest 121 = .ok (.goto 5, 3) := by decide +kernel
theorem dX5_digest_124 : decode cX5_digest 124 = .ok (.bipush 59, 2) := by decide +kernel
theorem dX5_digest_126 : decode cX5_digest 126 = .ok (.istore 4, 2) := by decide +kernel
theorem dX5_digest_128 : decode cX5_digest 128 = .ok (.ldc2_w 280, 3) := by decide +kernel
theorem dX5_digest_131 : decode cX5_digest 131 = .ok (.lload_n 1, 1) := by decide +kernel
theorem dX5_digest_132 : decode cX5_digest 132 = .ok (.lmul, 1) := by decide +kernel
theorem dX5_digest_133 : decode cX5_digest 133 = .ok (.aload_n 0, 1) := by decide +kernel
theorem dX5_digest_134 : decode cX5_digest 134 = .ok (.getfield 37, 3) := by decide +kernel
theorem dX5_digest_137 : decode cX5_digest 137 = .ok (.iload 4, 2) := by decide +kernel
theorem dX5_digest_139 : decode cX5_digest 139 = .ok (.iaload, 1) := by decide +kernel
theorem dX5_digest_140 : decode cX5_digest 140 = .ok (.i2l, 1) := by decide +kernel
theorem dX5_digest_141 : decode cX5_digest 141 = .ok (.ladd, 1) := by decide +kernel
theorem dX5_digest_142 : decode cX5_digest 142 = .ok (.lstore_n 1, 1) := by decide +kernel
theorem dX5_digest_143 : decode cX5_digest 143 = .ok (.ldc2_w 280, 3) := by decide +kernel
theorem dX5_digest_146 : decode cX5_digest 146 = .ok (.lload_n 1, 1) := by decide +kernel
theorem dX5_digest_147 : decode cX5_digest 147 = .ok (.lmul, 1) := by decide +kernel
theorem dX5_digest_148 : decode cX5_digest 148 = .ok (.aload_n 0, 1) := by decide +kernel
theorem dX5_digest_149 : decode cX5_digest 149 = .ok (.getfield 40, 3) := by decide +kernel
theorem dX5_digest_152 : decode cX5_digest 152 = .ok (.iload 4, 2) := by decide +kernel
theorem dX5_digest_154 : decode cX5_digest 154 = .ok (.iaload, 1) := by decide +kernel
theorem dX5_digest_155 : decode cX5_digest 155 = .ok (.i2l, 1) := by decide +kernel
theorem dX5_digest_156 : decode cX5_digest 156 = .ok (.ladd, 1) := by decide +kernel
theorem dX5_digest_157 : decode cX5_digest 157 = .ok (.lstore_n 1, 1) := by decide +kernel
theorem dX5_digest_158 : decode cX5_digest 158 = .ok (.iinc 3 1, 3) := by decide +kernel
theorem dX5_digest_161 : decode cX5_digest 161 = .ok (.goto (-61), 3) := by decide +kernel
theorem dX5_digest_164 : decode cX5_digest 164 = .ok (.ldc2_w 280, 3) := by decide +kernel
theorem dX5_digest_167 : decode cX5_digest 167 = .ok (.lload_n 1, 1) := by decide +kernel
theorem dX5_digest_168 : decode cX5_digest 168 = .ok (.lmul, 1) := by decide +kernel
theorem dX5_digest_169 : decode cX5_digest 169 = .ok (.aload_n 0, 1) := by decide +kernel
theorem dX5_digest_170 : decode cX5_digest 170 = .ok (.invokevirtual 189, 3) := by decide +kernel
theorem dX5_digest_173 : decode cX5_digest 173 = .ok (.i2l, 1) := by decide +kernel
theorem dX5_digest_174 : decode cX5_digest 174 = .ok (.ladd, 1) := by decide +kernel
theorem dX5_digest_175 : decode cX5_digest 175 = .ok (.lstore_n 1, 1) := by decide +kernel
theorem dX5_digest_176 : decode cX5_digest 176 = .ok (.ldc2_w 280, 3) := by decide +kernel
theorem dX5_digest_179 : decode cX5_digest 179 = .ok (.lload_n 1, 1) := by decide +kernel
theorem dX5_digest_180 : decode cX5_digest 180 = .ok (.lmul, 1) := by decide +kernel
theorem dX5_digest_181 : decode cX5_digest 181 = .ok (.aload_n 0, 1) := by decide +kernel
theorem dX5_digest_182 : decode cX5_digest 182 = .ok (.iconst 0, 1) := by decide +kernel
theorem dX5_digest_183 : decode cX5_digest 183 = .ok (.invokevirtual 192, 3) := by decide +kernel
theorem dX5_digest_186 : decode cX5_digest 186 = .ok (.i2l, 1) := by decide +kernel
theorem dX5_digest_187 : decode cX5_digest 187 = .ok (.ladd, 1) := by decide +kernel
theorem dX5_digest_188 : decode cX5_digest 188 = .ok (.lstore_n 1, 1) := by decide +kernel
theorem dX5_digest_189 : decode cX5_digest 189 = .ok (.ldc2_w 280, 3) := by decide +kernel
theorem dX5_digest_192 : decode cX5_digest 192 = .ok (.lload_n 1, 1) := by decide +kernel
theorem dX5_digest_193 : decode cX5_digest 193 = .ok (.lmul, 1) := by decide +kernel
theorem dX5_digest_194 : decode cX5_digest 194 = .ok (.aload_n 0, 1) := by decide +kernel
theorem dX5_digest_195 : decode cX5_digest 195 = .ok (.iconst 1, 1) := by decide +kernel
theorem dX5_digest_196 : decode cX5_digest 196 = .ok (.invokevirtual 192, 3) := by decide +kernel
theorem dX5_digest_199 : decode cX5_digest 199 = .ok (.i2l, 1) := by decide +kernel
theorem dX5_digest_200 : decode cX5_digest 200 = .ok (.ladd, 1) := by decide +kernel
theorem dX5_digest_201 : decode cX5_digest 201 = .ok (.lstore_n 1, 1) := by decide +kernel
theorem dX5_digest_202 : decode cX5_digest 202 = .ok (.ldc2_w 280, 3) := by decide +kernel
theorem dX5_digest_205 : decode cX5_digest 205 = .ok (.lload_n 1, 1) := by decide +kernel
theorem dX5_digest_206 : decode cX5_digest 206 = .ok (.lmul, 1) := by decide +kernel
theorem dX5_digest_207 : decode cX5_digest 207 = .ok (.aload_n 0, 1) := by decide +kernel
theorem dX5_digest_208 : decode cX5_digest 208 = .ok (.iconst 0, 1) := by decide +kernel
theorem dX5_digest_209 : decode cX5_digest 209 = .ok (.iconst 0, 1) := by decide +kernel
theorem dX5_digest_210 : decode cX5_digest 210 = .ok (.iconst 1, 1) := by decide +kernel
theorem dX5_digest_211 : decode cX5_digest 211 = .ok (.invokevirtual 291, 3) := by decide +kernel
theorem dX5_digest_214 : decode cX5_digest 214 = .ok (.i2l, 1) := by decide +kernel
theorem dX5_digest_215 : decode cX5_digest 215 = .ok (.ladd, 1) := by decide +kernel
theorem dX5_digest_216 : decode cX5_digest 216 = .ok (.lstore_n 1, 1) := by decide +kernel
theorem dX5_digest_217 : decode cX5_digest 217 = .ok (.aload_n 0, 1) := by decide +kernel
theorem dX5_digest_218 : decode cX5_digest 218 = .ok (.bipush 9, 2) := by decide +kernel
theorem dX5_digest_220 : decode cX5_digest 220 = .ok (.invokevirtual 210, 3) := by decide +kernel
theorem dX5_digest_223 : decode cX5_digest 223 = .ok (.istore_n 3, 1) := by decide +kernel
theorem dX5_digest_224 : decode cX5_digest 224 = .ok (.ldc2_w 280, 3) := by decide +kernel
theorem dX5_digest_227 : decode cX5_digest 227 = .ok (.lload_n 1, 1) := by decide +kernel
theorem dX5_digest_228 : decode cX5_digest 228 = .ok (.lmul, 1) := by decide +kernel
theorem dX5_digest_229 : decode cX5_digest 229 = .ok (.iload_n 3, 1) := by decide +kernel
theorem dX5_digest_230 : decode cX5_digest 230 = .ok (.iconst 0, 1) := by decide +kernel
theorem dX5_digest_231 : decode cX5_digest 231 = .ok (.invokestatic 213, 3) := by decide +kernel
theorem dX5_digest_234 : decode cX5_digest 234 = .ok (.i2l, 1) := by decide +kernel
theorem dX5_digest_235 : decode cX5_digest 235 = .ok (.ladd, 1) := by decide +kernel
theorem dX5_digest_236 : decode cX5_digest 236 = .ok (.lstore_n 1, 1) := by decide +kernel
theorem dX5_digest_237 : decode cX5_digest 237 = .ok (.ldc2_w 280, 3) := by decide +kernel
theorem dX5_digest_240 : decode cX5_digest 240 = .ok (.lload_n 1, 1) := by decide +kernel
theorem dX5_digest_241 : decode cX5_digest 241 = .ok (.lmul, 1) := by decide +kernel
theorem dX5_digest_242 : decode cX5_digest 242 = .ok (.iload_n 3, 1) := by decide +kernel
theorem dX5_digest_243 : decode cX5_digest 243 = .ok (.iconst 1, 1) := by decide +kernel
theorem dX5_digest_244 : decode cX5_digest 244 = .ok (.invokestatic 213, 3) := by decide +kernel
theorem dX5_digest_247 : decode cX5_digest 247 = .ok (.i2l, 1) := by decide +kernel
theorem dX5_digest_248 : decode cX5_digest 248 = .ok (.ladd, 1) := by decide +kernel
theorem dX5_digest_249 : decode cX5_digest 249 = .ok (.lstore_n 1, 1) := by decide +kernel
theorem dX5_digest_250 : decode cX5_digest 250 = .ok (.iconst 0, 1) := by decide +kernel
theorem dX5_digest_251 : decode cX5_digest 251 = .ok (.istore 4, 2) := by decide +kernel
theorem dX5_digest_253 : decode cX5_digest 253 = .ok (.iload 4, 2) := by decide +kernel
theorem dX5_digest_255 : decode cX5_digest 255 = .ok (.iconst 2, 1) := by decide +kernel
theorem dX5_digest_256 : decode cX5_digest 256 = .ok (.if_icmp .ge 41, 3) := by decide +kernel
theorem dX5_digest_259 : decode cX5_digest 259 = .ok (.ldc2_w 280, 3) := by decide +kernel
theorem dX5_digest_262 : decode cX5_digest 262 = .ok (.lload_n 1, 1) := by decide +kernel
theorem dX5_digest_263 : decode cX5_digest 263 = .ok (.lmul, 1) := by decide +kernel
theorem dX5_digest_264 : decode cX5_digest 264 = .ok (.aload_n 0, 1) := by decide +kernel
theorem dX5_digest_265 : decode cX5_digest 265 = .ok (.iconst 3, 1) := by decide +kernel
theorem dX5_digest_266 : decode cX5_digest 266 = .ok (.iload 4, 2) := by decide +kernel
theorem dX5_digest_268 : decode cX5_digest 268 = .ok (.iconst (-1), 1) := by decide +kernel
theorem dX5_digest_269 : decode cX5_digest 269 = .ok (.invokevirtual 294, 3) := by decide +kernel
theorem dX5_digest_272 : decode cX5_digest 272 = .ok (.i2l, 1) := by decide +kernel
theorem dX5_digest_273 : decode cX5_digest 273 = .ok (.ladd, 1) := by decide +kernel
theorem dX5_digest_274 : decode cX5_digest 274 = .ok (.lstore_n 1, 1) := by decide +kernel
theorem dX5_digest_275 : decode cX5_digest 275 = .ok (.ldc2_w 280, 3) := by decide +kernel
theorem dX5_digest_278 : decode cX5_digest 278 = .ok (.lload_n 1, 1) := by decide +kernel
theorem dX5_digest_279 : decode cX5_digest 279 = .ok (.lmul, 1) := by decide +kernel
theorem dX5_digest_280 : decode cX5_digest 280 = .ok (.aload_n 0, 1) := by decide +kernel
theorem dX5_digest_281 : decode cX5_digest 281 = .ok (.iconst 3, 1) := by decide +kernel
theorem dX5_digest_282 : decode cX5_digest 282 = .ok (.iload 4, 2) := by decide +kernel
theorem dX5_digest_284 : decode cX5_digest 284 = .ok (.iconst 0, 1) := by decide +kernel
theorem dX5_digest_285 : decode cX5_digest 285 = .ok (.invokevirtual 294, 3) := by decide +kernel
theorem dX5_digest_288 : decode cX5_digest 288 = .ok (.i2l, 1) := by decide +kernel
theorem dX5_digest_289 : decode cX5_digest 289 = .ok (.ladd, 1) := by decide +kernel
theorem dX5_digest_290 : decode cX5_digest 290 = .ok (.lstore_n 1, 1) := by decide +kernel
theorem dX5_digest_291 : decode cX5_digest 291 = .ok (.iinc 4 1, 3) := by decide +kernel
theorem dX5_digest_294 : decode cX5_digest 294 = .ok (.goto (-41), 3) := by decide +kernel
theorem dX5_digest_297 : decode cX5_digest 297 = .ok (.ldc2_w 280, 3) := by decide +kernel
theorem dX5_digest_300 : decode cX5_digest 300 = .ok (.lload_n 1, 1) := by decide +kernel
theorem dX5_digest_301 : decode cX5_digest 301 = .ok (.lmul, 1) := by decide +kernel
theorem dX5_digest_302 : decode cX5_digest 302 = .ok (.aload_n 0, 1) := by decide +kernel
theorem dX5_digest_303 : decode cX5_digest 303 = .ok (.invokevirtual 256, 3) := by decide +kernel
theorem dX5_digest_306 : decode cX5_digest 306 = .ok (.i2l, 1) := by decide +kernel
theorem dX5_digest_307 : decode cX5_digest 307 = .ok (.ladd, 1) := by decide +kernel
theorem dX5_digest_308 : decode cX5_digest 308 = .ok (.lstore_n 1, 1) := by decide +kernel
theorem dX5_digest_309 : decode cX5_digest 309 = .ok (.ldc2_w 280, 3) := by decide +kernel
theorem dX5_digest_312 : decode cX5_digest 312 = .ok (.lload_n 1, 1) := by decide +kernel
theorem dX5_digest_313 : decode cX5_digest 313 = .ok (.lmul, 1) := by decide +kernel
theorem dX5_digest_314 : decode cX5_digest 314 = .ok (.aload_n 0, 1) := by decide +kernel
theorem dX5_digest_315 : decode cX5_digest 315 = .ok (.iconst 0, 1) := by decide +kernel
theorem dX5_digest_316 : decode cX5_digest 316 = .ok (.iconst 4, 1) := by decide +kernel
theorem dX5_digest_317 : decode cX5_digest 317 = .ok (.invokevirtual 296, 3) := by decide +kernel
theorem dX5_digest_320 : decode cX5_digest 320 = .ok (.i2l, 1) := by decide +kernel
theorem dX5_digest_321 : decode cX5_digest 321 = .ok (.ladd, 1) := by decide +kernel
theorem dX5_digest_322 : decode cX5_digest 322 = .ok (.lstore_n 1, 1) := by decide +kernel
theorem dX5_digest_323 : decode cX5_digest 323 = .ok (.ldc2_w 280, 3) := by decide +kernel
theorem dX5_digest_326 : decode cX5_digest 326 = .ok (.lload_n 1, 1) := by decide +kernel
theorem dX5_digest_327 : decode cX5_digest 327 = .ok (.lmul, 1) := by decide +kernel
theorem dX5_digest_328 : decode cX5_digest 328 = .ok (.aload_n 0, 1) := by decide +kernel
theorem dX5_digest_329 : decode cX5_digest 329 = .ok (.bipush 7, 2) := by decide +kernel
theorem dX5_digest_331 : decode cX5_digest 331 = .ok (.bipush 20, 2) := by decide +kernel
theorem dX5_digest_333 : decode cX5_digest 333 = .ok (.iconst 0, 1) := by decide +kernel
theorem dX5_digest_334 : decode cX5_digest 334 = .ok (.invokevirtual 277, 3) := by decide +kernel
theorem dX5_digest_337 : decode cX5_digest 337 = .ok (.i2l, 1) := by decide +kernel
theorem dX5_digest_338 : decode cX5_digest 338 = .ok (.ladd, 1) := by decide +kernel
theorem dX5_digest_339 : decode cX5_digest 339 = .ok (.lstore_n 1, 1) := by decide +kernel
theorem dX5_digest_340 : decode cX5_digest 340 = .ok (.ldc2_w 280, 3) := by decide +kernel
theorem dX5_digest_343 : decode cX5_digest 343 = .ok (.lload_n 1, 1) := by decide +kernel
theorem dX5_digest_344 : decode cX5_digest 344 = .ok (.lmul, 1) := by decide +kernel
theorem dX5_digest_345 : decode cX5_digest 345 = .ok (.aload_n 0, 1) := by decide +kernel
theorem dX5_digest_346 : decode cX5_digest 346 = .ok (.bipush 7, 2) := by decide +kernel
theorem dX5_digest_348 : decode cX5_digest 348 = .ok (.bipush 20, 2) := by decide +kernel
theorem dX5_digest_350 : decode cX5_digest 350 = .ok (.iconst 1, 1) := by decide +kernel
theorem dX5_digest_351 : decode cX5_digest 351 = .ok (.invokevirtual 277, 3) := by decide +kernel
theorem dX5_digest_354 : decode cX5_digest 354 = .ok (.i2l, 1) := by decide +kernel
theorem dX5_digest_355 : decode cX5_digest 355 = .ok (.ladd, 1) := by decide +kernel
theorem dX5_digest_356 : decode cX5_digest 356 = .ok (.lreturn, 1) := by decide +kernel
