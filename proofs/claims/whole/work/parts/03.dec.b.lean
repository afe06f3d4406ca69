theorem dX4_init_0 : decode cX4_init 0 = .ok (.aload_n 0, 1) := by decide +kernel
theorem dX4_init_1 : decode cX4_init 1 = .ok (.invokespecial 3, 3) := by decide +kernel
theorem dX4_init_4 : decode cX4_init 4 = .ok (.aload_n 0, 1) := by decide +kernel
theorem dX4_init_5 : decode cX4_init 5 = .ok (.new 9, 3) := by decide +kernel
theorem dX4_init_8 : decode cX4_init 8 = .ok (.dup, 1) := by decide +kernel
theorem dX4_init_9 : decode cX4_init 9 = .ok (.invokespecial 11, 3) := by decide +kernel
theorem dX4_init_12 : decode cX4_init 12 = .ok (.putfield 12, 3) := by decide +kernel
theorem dX4_init_15 : decode cX4_init 15 = .ok (.aload_n 0, 1) := by decide +kernel
theorem dX4_init_16 : decode cX4_init 16 = .ok (.bipush 9, 2) := by decide +kernel
theorem dX4_init_18 : decode cX4_init 18 = .ok (.newarray .int, 2) := by decide +kernel
theorem dX4_init_20 : decode cX4_init 20 = .ok (.putfield 16, 3) := by decide +kernel
theorem dX4_init_23 : decode cX4_init 23 = .ok (.aload_n 0, 1) := by decide +kernel
theorem dX4_init_24 : decode cX4_init 24 = .ok (.iconst 0, 1) := by decide +kernel
theorem dX4_init_25 : decode cX4_init 25 = .ok (.putfield 20, 3) := by decide +kernel
theorem dX4_init_28 : decode cX4_init 28 = .ok (.aload_n 0, 1) := by decide +kernel
theorem dX4_init_29 : decode cX4_init 29 = .ok (.new 24, 3) := by decide +kernel
theorem dX4_init_32 : decode cX4_init 32 = .ok (.dup, 1) := by decide +kernel
theorem dX4_init_33 : decode cX4_init 33 = .ok (.invokespecial 26, 3) := by decide +kernel
theorem dX4_init_36 : decode cX4_init 36 = .ok (.putfield 27, 3) := by decide +kernel
theorem dX4_init_39 : decode cX4_init 39 = .ok (.aload_n 0, 1) := by decide +kernel
theorem dX4_init_40 : decode cX4_init 40 = .ok (.bipush 8, 2) := by decide +kernel
theorem dX4_init_42 : decode cX4_init 42 = .ok (.newarray .int, 2) := by decide +kernel
theorem dX4_init_44 : decode cX4_init 44 = .ok (.putfield 31, 3) := by decide +kernel
theorem dX4_init_47 : decode cX4_init 47 = .ok (.aload_n 0, 1) := by decide +kernel
theorem dX4_init_48 : decode cX4_init 48 = .ok (.bipush 8, 2) := by decide +kernel
theorem dX4_init_50 : decode cX4_init 50 = .ok (.newarray .int, 2) := by decide +kernel
theorem dX4_init_52 : decode cX4_init 52 = .ok (.putfield 34, 3) := by decide +kernel
theorem dX4_init_55 : decode cX4_init 55 = .ok (.aload_n 0, 1) := by decide +kernel
theorem dX4_init_56 : decode cX4_init 56 = .ok (.iconst 0, 1) := by decide +kernel
theorem dX4_init_57 : decode cX4_init 57 = .ok (.putfield 37, 3) := by decide +kernel
theorem dX4_init_60 : decode cX4_init 60 = .ok (.aload_n 0, 1) := by decide +kernel
theorem dX4_init_61 : decode cX4_init 61 = .ok (.iconst 4, 1) := by decide +kernel
theorem dX4_init_62 : decode cX4_init 62 = .ok (.anewarray 40, 3) := by decide +kernel
theorem dX4_init_65 : decode cX4_init 65 = .ok (.putfield 42, 3) := by decide +kernel
theorem dX4_init_68 : decode cX4_init 68 = .ok (.aload_n 0, 1) := by decide +kernel
theorem dX4_init_69 : decode cX4_init 69 = .ok (.iconst 0, 1) := by decide +kernel
theorem dX4_init_70 : decode cX4_init 70 = .ok (.putfield 46, 3) := by decide +kernel
theorem dX4_init_73 : decode cX4_init 73 = .ok (.aload_n 0, 1) := by decide +kernel
theorem dX4_init_74 : decode cX4_init 74 = .ok (.new 49, 3) := by decide +kernel
theorem dX4_init_77 : decode cX4_init 77 = .ok (.dup, 1) := by decide +kernel
theorem dX4_init_78 : decode cX4_init 78 = .ok (.invokespecial 51, 3) := by decide +kernel
theorem dX4_init_81 : decode cX4_init 81 = .ok (.putfield 52, 3) := by decide +kernel
theorem dX4_init_84 : decode cX4_init 84 = .ok (.aload_n 0, 1) := by decide +kernel
theorem dX4_init_85 : decode cX4_init 85 = .ok (.iconst 1, 1) := by decide +kernel
theorem dX4_init_86 : decode cX4_init 86 = .ok (.putfield 56, 3) := by decide +kernel
theorem dX4_init_89 : decode cX4_init 89 = .ok (.aload_n 0, 1) := by decide +kernel
theorem dX4_init_90 : decode cX4_init 90 = .ok (.new 49, 3) := by decide +kernel
theorem dX4_init_93 : decode cX4_init 93 = .ok (.dup, 1) := by decide +kernel
theorem dX4_init_94 : decode cX4_init 94 = .ok (.invokespecial 51, 3) := by decide +kernel
theorem dX4_init_97 : decode cX4_init 97 = .ok (.putfield 60, 3) := by decide +kernel
theorem dX4_init_100 : decode cX4_init 100 = .ok (.aload_n 0, 1) := by decide +kernel
theorem dX4_init_101 : decode cX4_init 101 = .ok (.bipush 37, 2) := by decide +kernel
theorem dX4_init_103 : decode cX4_init 103 = .ok (.newarray .int, 2) := by decide +kernel
theorem dX4_init_105 : decode cX4_init 105 = .ok (.putfield 63, 3) := by decide +kernel
theorem dX4_init_108 : decode cX4_init 108 = .ok (.aload_n 0, 1) := by decide +kernel
theorem dX4_init_109 : decode cX4_init 109 = .ok (.bipush 10, 2) := by decide +kernel
theorem dX4_init_111 : decode cX4_init 111 = .ok (.newarray .int, 2) := by decide +kernel
theorem dX4_init_113 : decode cX4_init 113 = .ok (.putfield 66, 3) := by decide +kernel
theorem dX4_init_116 : decode cX4_init 116 = .ok (.aload_n 0, 1) := by decide +kernel
theorem dX4_init_117 : decode cX4_init 117 = .ok (.bipush 9, 2) := by decide +kernel
theorem dX4_init_119 : decode cX4_init 119 = .ok (.newarray .int, 2) := by decide +kernel
theorem dX4_init_121 : decode cX4_init 121 = .ok (.putfield 69, 3) := by decide +kernel
theorem dX4_init_124 : decode cX4_init 124 = .ok (.aload_n 0, 1) := by decide +kernel
theorem dX4_init_125 : decode cX4_init 125 = .ok (.bipush 9, 2) := by decide +kernel
theorem dX4_init_127 : decode cX4_init 127 = .ok (.newarray .int, 2) := by decide +kernel
theorem dX4_init_129 : decode cX4_init 129 = .ok (.putfield 72, 3) := by decide +kernel
theorem dX4_init_132 : decode cX4_init 132 = .ok (.iconst 0, 1) := by decide +kernel
theorem dX4_init_133 : decode cX4_init 133 = .ok (.istore_n 1, 1) := by decide +kernel
theorem dX4_init_134 : decode cX4_init 134 = .ok (.iload_n 1, 1) := by decide +kernel
theorem dX4_init_135 : decode cX4_init 135 = .ok (.bipush 9, 2) := by decide +kernel
theorem dX4_init_137 : decode cX4_init 137 = .ok (.if_icmp .ge 16, 3) := by decide +kernel
theorem dX4_init_140 : decode cX4_init 140 = .ok (.aload_n 0, 1) := by decide +kernel
theorem dX4_init_141 : decode cX4_init 141 = .ok (.getfield 16, 3) := by decide +kernel
theorem dX4_init_144 : decode cX4_init 144 = .ok (.iload_n 1, 1) := by decide +kernel
theorem dX4_init_145 : decode cX4_init 145 = .ok (.iload_n 1, 1) := by decide +kernel
theorem dX4_init_146 : decode cX4_init 146 = .ok (.iastore, 1) := by decide +kernel
theorem dX4_init_147 : decode cX4_init 147 = .ok (.iinc 1 1, 3) := by decide +kernel
theorem dX4_init_150 : decode cX4_init 150 = .ok (.goto (-16), 3) := by decide +kernel
theorem dX4_init_153 : decode cX4_init 153 = .ok (.iconst 0, 1) := by decide +kernel
theorem dX4_init_154 : decode cX4_init 154 = .ok (.istore_n 1, 1) := by decide +kernel
theorem dX4_init_155 : decode cX4_init 155 = .ok (.iload_n 1, 1) := by decide +kernel
theorem dX4_init_156 : decode cX4_init 156 = .ok (.iconst 4, 1) := by decide +kernel
theorem dX4_init_157 : decode cX4_init 157 = .ok (.if_icmp .ge 22, 3) := by decide +kernel
theorem dX4_init_160 : decode cX4_init 160 = .ok (.aload_n 0, 1) := by decide +kernel
theorem dX4_init_161 : decode cX4_init 161 = .ok (.getfield 42, 3) := by decide +kernel
theorem dX4_init_164 : decode cX4_init 164 = .ok (.iload_n 1, 1) := by decide +kernel
theorem dX4_init_165 : decode cX4_init 165 = .ok (.new 40, 3) := by decide +kernel
theorem dX4_init_168 : decode cX4_init 168 = .ok (.dup, 1) := by decide +kernel
theorem dX4_init_169 : decode cX4_init 169 = .ok (.invokespecial 75, 3) := by decide +kernel
theorem dX4_init_172 : decode cX4_init 172 = .ok (.aastore, 1) := by decide +kernel
theorem dX4_init_173 : decode cX4_init 173 = .ok (.iinc 1 1, 3) := by decide +kernel
theorem dX4_init_176 : decode cX4_init 176 = .ok (.goto (-21), 3) := by decide +kernel
theorem dX4_init_179 : decode cX4_init 179 = .ok (.return_, 1) := by decide +kernel
theorem dX4_type_0 : decode cX4_type 0 = .ok (.iload_n 1, 1) := by decide +kernel
theorem dX4_type_1 : decode cX4_type 1 = .ok (.ifCond .lt 10, 3) := by decide +kernel
theorem dX4_type_4 : decode cX4_type 4 = .ok (.iload_n 1, 1) := by decide +kernel
theorem dX4_type_5 : decode cX4_type 5 = .ok (.sipush 255, 3) := by decide +kernel
theorem dX4_type_8 : decode cX4_type 8 = .ok (.if_icmp .le 6, 3) := by decide +kernel
theorem dX4_type_11 : decode cX4_type 11 = .ok (.bipush (-2), 2) := by decide +kernel
theorem dX4_type_13 : decode cX4_type 13 = .ok (.ireturn, 1) := by decide +kernel
theorem dX4_type_14 : decode cX4_type 14 = .ok (.aload_n 0, 1) := by decide +kernel
theorem dX4_type_15 : decode cX4_type 15 = .ok (.getfield 12, 3) := by decide +kernel
theorem dX4_type_18 : decode cX4_type 18 = .ok (.getfield 76, 3) := by decide +kernel
theorem dX4_type_21 : decode cX4_type 21 = .ok (.bipush 35, 2) := by decide +kernel
theorem dX4_type_23 : decode cX4_type 23 = .ok (.if_icmp .lt 6, 3) := by decide +kernel
theorem dX4_type_26 : decode cX4_type 26 = .ok (.bipush (-4), 2) := by decide +kernel
theorem dX4_type_28 : decode cX4_type 28 = .ok (.ireturn, 1) := by decide +kernel
theorem dX4_type_29 : decode cX4_type 29 = .ok (.aload_n 0, 1) := by decide +kernel
theorem dX4_type_30 : decode cX4_type 30 = .ok (.getfield 12, 3) := by decide +kernel
theorem dX4_type_33 : decode cX4_type 33 = .ok (.getfield 79, 3) := by decide +kernel
theorem dX4_type_36 : decode cX4_type 36 = .ok (.aload_n 0, 1) := by decide +kernel
theorem dX4_type_37 : decode cX4_type 37 = .ok (.getfield 12, 3) := by decide +kernel
theorem dX4_type_40 : decode cX4_type 40 = .ok (.getfield 76, 3) := by decide +kernel
theorem dX4_type_43 : decode cX4_type 43 = .ok (.iload_n 1, 1) := by decide +kernel
theorem dX4_type_44 : decode cX4_type 44 = .ok (.iastore, 1) := by decide +kernel
theorem dX4_type_45 : decode cX4_type 45 = .ok (.aload_n 0, 1) := by decide +kernel
theorem dX4_type_46 : decode cX4_type 46 = .ok (.aload_n 0, 1) := by decide +kernel
theorem dX4_type_47 : decode cX4_type 47 = .ok (.getfield 12, 3) := by decide +kernel
theorem dX4_type_50 : decode cX4_type 50 = .ok (.getfield 76, 3) := by decide +kernel
theorem dX4_type_53 : decode cX4_type 53 = .ok (.iconst 1, 1) := by decide +kernel
theorem dX4_type_54 : decode cX4_type 54 = .ok (.iadd, 1) := by decide +kernel
theorem dX4_type_55 : decode cX4_type 55 = .ok (.invokevirtual 82, 3) := by decide +kernel
theorem dX4_type_58 : decode cX4_type 58 = .ok (.ireturn, 1) := by decide +kernel
theorem dX4_wipe_0 : decode cX4_wipe 0 = .ok (.aload_n 0, 1) := by decide +kernel
theorem dX4_wipe_1 : decode cX4_wipe 1 = .ok (.getfield 12, 3) := by decide +kernel
theorem dX4_wipe_4 : decode cX4_wipe 4 = .ok (.getfield 76, 3) := by decide +kernel
theorem dX4_wipe_7 : decode cX4_wipe 7 = .ok (.istore_n 1, 1) := by decide +kernel
theorem dX4_wipe_8 : decode cX4_wipe 8 = .ok (.aload_n 0, 1) := by decide +kernel
theorem dX4_wipe_9 : decode cX4_wipe 9 = .ok (.iconst 0, 1) := by decide +kernel
theorem dX4_wipe_10 : decode cX4_wipe 10 = .ok (.invokevirtual 82, 3) := by decide +kernel
theorem dX4_wipe_13 : decode cX4_wipe 13 = .ok (.pop, 1) := by decide +kernel
theorem dX4_wipe_14 : decode cX4_wipe 14 = .ok (.iload_n 1, 1) := by decide +kernel
theorem dX4_wipe_15 : decode cX4_wipe 15 = .ok (.ireturn, 1) := by decide +kernel
theorem dX4_undo_0 : decode cX4_undo 0 = .ok (.aload_n 0, 1) := by decide +kernel
theorem dX4_undo_1 : decode cX4_undo 1 = .ok (.getfield 12, 3) := by decide +kernel
theorem dX4_undo_4 : decode cX4_undo 4 = .ok (.getfield 76, 3) := by decide +kernel
theorem dX4_undo_7 : decode cX4_undo 7 = .ok (.ifCond .ne 6, 3) := by decide +kernel
theorem dX4_undo_10 : decode cX4_undo 10 = .ok (.bipush (-3), 2) := by decide +kernel
theorem dX4_undo_12 : decode cX4_undo 12 = .ok (.ireturn, 1) := by decide +kernel
theorem dX4_undo_13 : decode cX4_undo 13 = .ok (.aload_n 0, 1) := by decide +kernel
theorem dX4_undo_14 : decode cX4_undo 14 = .ok (.aload_n 0, 1) := by decide +kernel
theorem dX4_undo_15 : decode cX4_undo 15 = .ok (.getfield 12, 3) := by decide +kernel
theorem dX4_undo_18 : decode cX4_undo 18 = .ok (.getfield 76, 3) := by decide +kernel
theorem dX4_undo_21 : decode cX4_undo 21 = .ok (.iconst 1, 1) := by decide +kernel
theorem dX4_undo_22 : decode cX4_undo 22 = .ok (.isub, 1) := by decide +kernel
theorem dX4_undo_23 : decode cX4_undo 23 = .ok (.invokevirtual 82, 3) := by decide +kernel
theorem dX4_undo_26 : decode cX4_undo 26 = .ok (.ireturn, 1) := by decide +kernel
theorem dX4_fault_0 : decode cX4_fault 0 = .ok (.aload_n 0, 1) := by decide +kernel
theorem dX4_fault_1 : decode cX4_fault 1 = .ok (.getfield 12, 3) := by decide +kernel
theorem dX4_fault_4 : decode cX4_fault 4 = .ok (.getfield 86, 3) := by decide +kernel
theorem dX4_fault_7 : decode cX4_fault 7 = .ok (.ireturn, 1) := by decide +kernel
theorem dX4_box_0 : decode cX4_box 0 = .ok (.aload_n 0, 1) := by decide +kernel
theorem dX4_box_1 : decode cX4_box 1 = .ok (.iload_n 1, 1) := by decide +kernel
theorem dX4_box_2 : decode cX4_box 2 = .ok (.invokevirtual 89, 3) := by decide +kernel
theorem dX4_box_5 : decode cX4_box 5 = .ok (.ifCond .eq 12, 3) := by decide +kernel
theorem dX4_box_8 : decode cX4_box 8 = .ok (.iload_n 2, 1) := by decide +kernel
theorem dX4_box_9 : decode cX4_box 9 = .ok (.ifCond .lt 8, 3) := by decide +kernel
theorem dX4_box_12 : decode cX4_box 12 = .ok (.iload_n 2, 1) := by decide +kernel
theorem dX4_box_13 : decode cX4_box 13 = .ok (.iconst 2, 1) := by decide +kernel
theorem dX4_box_14 : decode cX4_box 14 = .ok (.if_icmp .le 6, 3) := by decide +kernel
theorem dX4_box_17 : decode cX4_box 17 = .ok (.bipush (-2), 2) := by decide +kernel
theorem dX4_box_19 : decode cX4_box 19 = .ok (.ireturn, 1) := by decide +kernel
theorem dX4_box_20 : decode cX4_box 20 = .ok (.iload_n 2, 1) := by decide +kernel
theorem dX4_box_21 : decode cX4_box 21 = .ok (.ifCond .ne 13, 3) := by decide +kernel
theorem dX4_box_24 : decode cX4_box 24 = .ok (.aload_n 0, 1) := by decide +kernel
theorem dX4_box_25 : decode cX4_box 25 = .ok (.getfield 12, 3) := by decide +kernel
theorem dX4_box_28 : decode cX4_box 28 = .ok (.getfield 93, 3) := by decide +kernel
theorem dX4_box_31 : decode cX4_box 31 = .ok (.iload_n 1, 1) := by decide +kernel
theorem dX4_box_32 : decode cX4_box 32 = .ok (.iaload, 1) := by decide +kernel
theorem dX4_box_33 : decode cX4_box 33 = .ok (.ireturn, 1) := by decide +kernel
theorem dX4_box_34 : decode cX4_box 34 = .ok (.iload_n 2, 1) := by decide +kernel
theorem dX4_box_35 : decode cX4_box 35 = .ok (.iconst 1, 1) := by decide +kernel
theorem dX4_box_36 : decode cX4_box 36 = .ok (.if_icmp .ne 15, 3) := by decide +kernel
theorem dX4_box_39 : decode cX4_box 39 = .ok (.aload_n 0, 1) := by decide +kernel
theorem dX4_box_40 : decode cX4_box 40 = .ok (.getfield 12, 3) := by decide +kernel
theorem dX4_box_43 : decode cX4_box 43 = .ok (.getfield 96, 3) := by decide +kernel
theorem dX4_box_46 : decode cX4_box 46 = .ok (.iload_n 1, 1) := by decide +kernel
theorem dX4_box_47 : decode cX4_box 47 = .ok (.iaload, 1) := by decide +kernel
theorem dX4_box_48 : decode cX4_box 48 = .ok (.goto 12, 3) := by decide +kernel
theorem dX4_box_51 : decode cX4_box 51 = .ok (.aload_n 0, 1) := by decide +kernel
theorem dX4_box_52 : decode cX4_box 52 = .ok (.getfield 12, 3) := by decide +kernel
theorem dX4_box_55 : decode cX4_box 55 = .ok (.getfield 99, 3) := by decide +kernel
theorem dX4_box_58 : decode cX4_box 58 = .ok (.iload_n 1, 1) := by decide +kernel
theorem dX4_box_59 : decode cX4_box 59 = .ok (.iaload, 1) := by decide +kernel
theorem dX4_box_60 : decode cX4_box 60 = .ok (.ireturn, 1) := by decide +kernel
theorem dX4_place_0 : decode cX4_place 0 = .ok (.iload_n 1, 1) := by decide +kernel
theorem dX4_place_1 : decode cX4_place 1 = .ok (.invokestatic 102, 3) := by decide +kernel
theorem dX4_place_4 : decode cX4_place 4 = .ok (.ifCond .eq 12, 3) := by decide +kernel
theorem dX4_place_7 : decode cX4_place 7 = .ok (.aload_n 0, 1) := by decide +kernel
theorem dX4_place_8 : decode cX4_place 8 = .ok (.getfield 16, 3) := by decide +kernel
theorem dX4_place_11 : decode cX4_place 11 = .ok (.iload_n 1, 1) := by decide +kernel
theorem dX4_place_12 : decode cX4_place 12 = .ok (.iaload, 1) := by decide +kernel
theorem dX4_place_13 : decode cX4_place 13 = .ok (.goto 5, 3) := by decide +kernel
theorem dX4_place_16 : decode cX4_place 16 = .ok (.bipush (-2), 2) := by decide +kernel
theorem dX4_place_18 : decode cX4_place 18 = .ok (.ireturn, 1) := by decide +kernel
theorem dX4_swap_0 : decode cX4_swap 0 = .ok (.iload_n 1, 1) := by decide +kernel
theorem dX4_swap_1 : decode cX4_swap 1 = .ok (.invokestatic 102, 3) := by decide +kernel
theorem dX4_swap_4 : decode cX4_swap 4 = .ok (.ifCond .eq 10, 3) := by decide +kernel
theorem dX4_swap_7 : decode cX4_swap 7 = .ok (.iload_n 2, 1) := by decide +kernel
theorem dX4_swap_8 : decode cX4_swap 8 = .ok (.invokestatic 102, 3) := by decide +kernel
theorem dX4_swap_11 : decode cX4_swap 11 = .ok (.ifCond .ne 6, 3) := by decide +kernel
theorem dX4_swap_14 : decode cX4_swap 14 = .ok (.bipush (-2), 2) := by decide +kernel
theorem dX4_swap_16 : decode cX4_swap 16 = .ok (.ireturn, 1) := by decide +kernel
theorem dX4_swap_17 : decode cX4_swap 17 = .ok (.iload_n 1, 1) := by decide +kernel
theorem dX4_swap_18 : decode cX4_swap 18 = .ok (.iload_n 2, 1) := by decide +kernel
theorem dX4_swap_19 : decode cX4_swap 19 = .ok (.if_icmp .ne 5, 3) := by decide +kernel
theorem dX4_swap_22 : decode cX4_swap 22 = .ok (.iconst 0, 1) := by decide +kernel
theorem dX4_swap_23 : decode cX4_swap 23 = .ok (.ireturn, 1) := by decide +kernel
theorem dX4_swap_24 : decode cX4_swap 24 = .ok (.aload_n 0, 1) := by decide +kernel
theorem dX4_swap_25 : decode cX4_swap 25 = .ok (.getfield 16, 3) := by decide +kernel
theorem dX4_swap_28 : decode cX4_swap 28 = .ok (.iload_n 1, 1) := by decide +kernel
theorem dX4_swap_29 : decode cX4_swap 29 = .ok (.iload_n 2, 1) := by decide +kernel
theorem dX4_swap_30 : decode cX4_swap 30 = .ok (.invokestatic 105, 3) := by decide +kernel
theorem dX4_swap_33 : decode cX4_swap 33 = .ok (.aload_n 0, 1) := by decide +kernel
theorem dX4_swap_34 : decode cX4_swap 34 = .ok (.iconst 1, 1) := by decide +kernel
theorem dX4_swap_35 : decode cX4_swap 35 = .ok (.putfield 56, 3) := by decide +kernel
theorem dX4_swap_38 : decode cX4_swap 38 = .ok (.iconst 1, 1) := by decide +kernel
theorem dX4_swap_39 : decode cX4_swap 39 = .ok (.ireturn, 1) := by decide +kernel
theorem dX4_lids_0 : decode cX4_lids 0 = .ok (.iload_n 1, 1) := by decide +kernel
theorem dX4_lids_1 : decode cX4_lids 1 = .ok (.ifCond .lt 10, 3) := by decide +kernel
theorem dX4_lids_4 : decode cX4_lids 4 = .ok (.iload_n 1, 1) := by decide +kernel
theorem dX4_lids_5 : decode cX4_lids 5 = .ok (.sipush 511, 3) := by decide +kernel
theorem dX4_lids_8 : decode cX4_lids 8 = .ok (.if_icmp .le 6, 3) := by decide +kernel
theorem dX4_lids_11 : decode cX4_lids 11 = .ok (.bipush (-2), 2) := by decide +kernel
theorem dX4_lids_13 : decode cX4_lids 13 = .ok (.ireturn, 1) := by decide +kernel
theorem dX4_lids_14 : decode cX4_lids 14 = .ok (.aload_n 0, 1) := by decide +kernel
theorem dX4_lids_15 : decode cX4_lids 15 = .ok (.getfield 20, 3) := by decide +kernel
theorem dX4_lids_18 : decode cX4_lids 18 = .ok (.istore_n 2, 1) := by decide +kernel
theorem dX4_lids_19 : decode cX4_lids 19 = .ok (.aload_n 0, 1) := by decide +kernel
theorem dX4_lids_20 : decode cX4_lids 20 = .ok (.iload_n 1, 1) := by decide +kernel
theorem dX4_lids_21 : decode cX4_lids 21 = .ok (.putfield 20, 3) := by decide +kernel
theorem dX4_lids_24 : decode cX4_lids 24 = .ok (.aload_n 0, 1) := by decide +kernel
theorem dX4_lids_25 : decode cX4_lids 25 = .ok (.iconst 1, 1) := by decide +kernel
theorem dX4_lids_26 : decode cX4_lids 26 = .ok (.putfield 56, 3) := by decide +kernel
theorem dX4_lids_29 : decode cX4_lids 29 = .ok (.iload_n 2, 1) := by decide +kernel
theorem dX4_lids_30 : decode cX4_lids 30 = .ok (.ireturn, 1) := by decide +kernel
theorem dX4_tell_0 : decode cX4_tell 0 = .ok (.iload_n 1, 1) := by decide +kernel
theorem dX4_tell_1 : decode cX4_tell 1 = .ok (.iload_n 2, 1) := by decide +kernel
theorem dX4_tell_2 : decode cX4_tell 2 = .ok (.iload_n 3, 1) := by decide +kernel
theorem dX4_tell_3 : decode cX4_tell 3 = .ok (.invokestatic 109, 3) := by decide +kernel
theorem dX4_tell_6 : decode cX4_tell 6 = .ok (.ifCond .ne 6, 3) := by decide +kernel
theorem dX4_tell_9 : decode cX4_tell 9 = .ok (.bipush (-2), 2) := by decide +kernel
theorem dX4_tell_11 : decode cX4_tell 11 = .ok (.ireturn, 1) := by decide +kernel
theorem dX4_tell_12 : decode cX4_tell 12 = .ok (.aload_n 0, 1) := by decide +kernel
theorem dX4_tell_13 : decode cX4_tell 13 = .ok (.getfield 27, 3) := by decide +kernel
theorem dX4_tell_16 : decode cX4_tell 16 = .ok (.getfield 113, 3) := by decide +kernel
theorem dX4_tell_19 : decode cX4_tell 19 = .ok (.bipush 24, 2) := by decide +kernel
theorem dX4_tell_21 : decode cX4_tell 21 = .ok (.if_icmp .lt 6, 3) := by decide +kernel
theorem dX4_tell_24 : decode cX4_tell 24 = .ok (.bipush (-4), 2) := by decide +kernel
theorem dX4_tell_26 : decode cX4_tell 26 = .ok (.ireturn, 1) := by decide +kernel
theorem dX4_tell_27 : decode cX4_tell 27 = .ok (.aload_n 0, 1) := by decide +kernel
theorem dX4_tell_28 : decode cX4_tell 28 = .ok (.getfield 27, 3) := by decide +kernel
theorem dX4_tell_31 : decode cX4_tell 31 = .ok (.iload_n 1, 1) := by decide +kernel
theorem dX4_tell_32 : decode cX4_tell 32 = .ok (.iload_n 2, 1) := by decide +kernel
theorem dX4_tell_33 : decode cX4_tell 33 = .ok (.iload_n 3, 1) := by decide +kernel
theorem dX4_tell_34 : decode cX4_tell 34 = .ok (.invokevirtual 116, 3) := by decide +kernel
theorem dX4_tell_37 : decode cX4_tell 37 = .ok (.aload_n 0, 1) := by decide +kernel
theorem dX4_tell_38 : decode cX4_tell 38 = .ok (.iconst 1, 1) := by decide +kernel
theorem dX4_tell_39 : decode cX4_tell 39 = .ok (.putfield 56, 3) := by decide +kernel
theorem dX4_tell_42 : decode cX4_tell 42 = .ok (.aload_n 0, 1) := by decide +kernel
theorem dX4_tell_43 : decode cX4_tell 43 = .ok (.getfield 27, 3) := by decide +kernel
theorem dX4_tell_46 : decode cX4_tell 46 = .ok (.getfield 113, 3) := by decide +kernel
theorem dX4_tell_49 : decode cX4_tell 49 = .ok (.ireturn, 1) := by decide +kernel
theorem dX4_back_0 : decode cX4_back 0 = .ok (.aload_n 0, 1) := by decide +kernel
theorem dX4_back_1 : decode cX4_back 1 = .ok (.getfield 27, 3) := by decide +kernel
theorem dX4_back_4 : decode cX4_back 4 = .ok (.getfield 113, 3) := by decide +kernel
theorem dX4_back_7 : decode cX4_back 7 = .ok (.ifCond .ne 6, 3) := by decide +kernel
theorem dX4_back_10 : decode cX4_back 10 = .ok (.bipush (-3), 2) := by decide +kernel
theorem dX4_back_12 : decode cX4_back 12 = .ok (.ireturn, 1) := by decide +kernel
theorem dX4_back_13 : decode cX4_back 13 = .ok (.aload_n 0, 1) := by decide +kernel
theorem dX4_back_14 : decode cX4_back 14 = .ok (.getfield 27, 3) := by decide +kernel
theorem dX4_back_17 : decode cX4_back 17 = .ok (.dup, 1) := by decide +kernel
theorem dX4_back_18 : decode cX4_back 18 = .ok (.getfield 113, 3) := by decide +kernel
theorem dX4_back_21 : decode cX4_back 21 = .ok (.iconst 1, 1) := by decide +kernel
theorem dX4_back_22 : decode cX4_back 22 = .ok (.isub, 1) := by decide +kernel
theorem dX4_back_23 : decode cX4_back 23 = .ok (.putfield 113, 3) := by decide +kernel
theorem dX4_back_26 : decode cX4_back 26 = .ok (.aload_n 0, 1) := by decide +kernel
theorem dX4_back_27 : decode cX4_back 27 = .ok (.iconst 1, 1) := by decide +kernel
theorem dX4_back_28 : decode cX4_back 28 = .ok (.putfield 56, 3) := by decide +kernel
theorem dX4_back_31 : decode cX4_back 31 = .ok (.aload_n 0, 1) := by decide +kernel
theorem dX4_back_32 : decode cX4_back 32 = .ok (.getfield 27, 3) := by decide +kernel
theorem dX4_back_35 : decode cX4_back 35 = .ok (.getfield 113, 3) := by decide +kernel
theorem dX4_back_38 : decode cX4_back 38 = .ok (.ireturn, 1) := by decide +kernel
theorem dX4_read_0 : decode cX4_read 0 = .ok (.iload_n 1, 1) := by decide +kernel
theorem dX4_read_1 : decode cX4_read 1 = .ok (.invokestatic 120, 3) := by decide +kernel
theorem dX4_read_4 : decode cX4_read 4 = .ok (.ifCond .ne 6, 3) := by decide +kernel
theorem dX4_read_7 : decode cX4_read 7 = .ok (.bipush (-2), 2) := by decide +kernel
theorem dX4_read_9 : decode cX4_read 9 = .ok (.ireturn, 1) := by decide +kernel
theorem dX4_read_10 : decode cX4_read 10 = .ok (.aload_n 0, 1) := by decide +kernel
theorem dX4_read_11 : decode cX4_read 11 = .ok (.getfield 42, 3) := by decide +kernel
theorem dX4_read_14 : decode cX4_read 14 = .ok (.iload_n 1, 1) := by decide +kernel
theorem dX4_read_15 : decode cX4_read 15 = .ok (.aaload, 1) := by decide +kernel
theorem dX4_read_16 : decode cX4_read 16 = .ok (.astore_n 2, 1) := by decide +kernel
theorem dX4_read_17 : decode cX4_read 17 = .ok (.aload_n 2, 1) := by decide +kernel
theorem dX4_read_18 : decode cX4_read 18 = .ok (.getfield 123, 3) := by decide +kernel
theorem dX4_read_21 : decode cX4_read 21 = .ok (.ifCond .eq 9, 3) := by decide +kernel
theorem dX4_read_24 : decode cX4_read 24 = .ok (.aload_n 0, 1) := by decide +kernel
theorem dX4_read_25 : decode cX4_read 25 = .ok (.iconst 1, 1) := by decide +kernel
theorem dX4_read_26 : decode cX4_read 26 = .ok (.invokevirtual 126, 3) := by decide +kernel
theorem dX4_read_29 : decode cX4_read 29 = .ok (.ireturn, 1) := by decide +kernel
theorem dX4_read_30 : decode cX4_read 30 = .ok (.aload_n 0, 1) := by decide +kernel
theorem dX4_read_31 : decode cX4_read 31 = .ok (.getfield 27, 3) := by decide +kernel
theorem dX4_read_34 : decode cX4_read 34 = .ok (.getfield 113, 3) := by decide +kernel
theorem dX4_read_37 : decode cX4_read 37 = .ok (.istore_n 3, 1) := by decide +kernel
theorem dX4_read_38 : decode cX4_read 38 = .ok (.iconst 1, 1) := by decide +kernel
theorem dX4_read_39 : decode cX4_read 39 = .ok (.istore 4, 2) := by decide +kernel
theorem dX4_read_41 : decode cX4_read 41 = .ok (.iconst 0, 1) := by decide +kernel
theorem dX4_read_42 : decode cX4_read 42 = .ok (.istore 5, 2) := by decide +kernel
theorem dX4_read_44 : decode cX4_read 44 = .ok (.iload 4, 2) := by decide +kernel
theorem dX4_read_46 : decode cX4_read 46 = .ok (.ifCond .eq 68, 3) := by decide +kernel
theorem dX4_read_49 : decode cX4_read 49 = .ok (.iload 5, 2) := by decide +kernel
theorem dX4_read_51 : decode cX4_read 51 = .ok (.iconst 2, 1) := by decide +kernel
theorem dX4_read_52 : decode cX4_read 52 = .ok (.iadd, 1) := by decide +kernel
theorem dX4_read_53 : decode cX4_read 53 = .ok (.aload_n 2, 1) := by decide +kernel
theorem dX4_read_54 : decode cX4_read 54 = .ok (.getfield 129, 3) := by decide +kernel
theorem dX4_read_57 : decode cX4_read 57 = .ok (.if_icmp .ge 57, 3) := by decide +kernel
theorem dX4_read_60 : decode cX4_read 60 = .ok (.iload 5, 2) := by decide +kernel
theorem dX4_read_62 : decode cX4_read 62 = .ok (.iconst 2, 1) := by decide +kernel
theorem dX4_read_63 : decode cX4_read 63 = .ok (.iadd, 1) := by decide +kernel
theorem dX4_read_64 : decode cX4_read 64 = .ok (.bipush 60, 2) := by decide +kernel
theorem dX4_read_66 : decode cX4_read 66 = .ok (.if_icmp .ge 48, 3) := by decide +kernel
theorem dX4_read_69 : decode cX4_read 69 = .ok (.aload_n 0, 1) := by decide +kernel
theorem dX4_read_70 : decode cX4_read 70 = .ok (.aload_n 2, 1) := by decide +kernel
theorem dX4_read_71 : decode cX4_read 71 = .ok (.getfield 130, 3) := by decide +kernel
theorem dX4_read_74 : decode cX4_read 74 = .ok (.iload 5, 2) := by decide +kernel
theorem dX4_read_76 : decode cX4_read 76 = .ok (.iaload, 1) := by decide +kernel
theorem dX4_read_77 : decode cX4_read 77 = .ok (.aload_n 2, 1) := by decide +kernel
theorem dX4_read_78 : decode cX4_read 78 = .ok (.getfield 130, 3) := by decide +kernel
theorem dX4_read_81 : decode cX4_read 81 = .ok (.iload 5, 2) := by decide +kernel
theorem dX4_read_83 : decode cX4_read 83 = .ok (.iconst 1, 1) := by decide +kernel
theorem dX4_read_84 : decode cX4_read 84 = .ok (.iadd, 1) := by decide +kernel
theorem dX4_read_85 : decode cX4_read 85 = .ok (.iaload, 1) := by decide +kernel
theorem dX4_read_86 : decode cX4_read 86 = .ok (.aload_n 2, 1) := by decide +kernel
theorem dX4_read_87 : decode cX4_read 87 = .ok (.getfield 130, 3) := by decide +kernel
theorem dX4_read_90 : decode cX4_read 90 = .ok (.iload 5, 2) := by decide +kernel
theorem dX4_read_92 : decode cX4_read 92 = .ok (.iconst 2, 1) := by decide +kernel
theorem dX4_read_93 : decode cX4_read 93 = .ok (.iadd, 1) := by decide +kernel
theorem dX4_read_94 : decode cX4_read 94 = .ok (.iaload, 1) := by decide +kernel
theorem dX4_read_95 : decode cX4_read 95 = .ok (.invokevirtual 133, 3) := by decide +kernel
theorem dX4_read_98 : decode cX4_read 98 = .ok (.ifCond .le 7, 3) := by decide +kernel
theorem dX4_read_101 : decode cX4_read 101 = .ok (.iconst 1, 1) := by decide +kernel
theorem dX4_read_102 : decode cX4_read 102 = .ok (.goto 4, 3) := by decide +kernel
theorem dX4_read_105 : decode cX4_read 105 = .ok (.iconst 0, 1) := by decide +kernel
theorem dX4_read_106 : decode cX4_read 106 = .ok (.istore 4, 2) := by decide +kernel
theorem dX4_read_108 : decode cX4_read 108 = .ok (.iinc 5 3, 3) := by decide +kernel
theorem dX4_read_111 : decode cX4_read 111 = .ok (.goto (-67), 3) := by decide +kernel
theorem dX4_read_114 : decode cX4_read 114 = .ok (.aload_n 0, 1) := by decide +kernel
theorem dX4_read_115 : decode cX4_read 115 = .ok (.getfield 27, 3) := by decide +kernel
theorem dX4_read_118 : decode cX4_read 118 = .ok (.getfield 113, 3) := by decide +kernel
theorem dX4_read_121 : decode cX4_read 121 = .ok (.iload_n 3, 1) := by decide +kernel
theorem dX4_read_122 : decode cX4_read 122 = .ok (.isub, 1) := by decide +kernel
theorem dX4_read_123 : decode cX4_read 123 = .ok (.ireturn, 1) := by decide +kernel
theorem dX4_step_0 : decode cX4_step 0 = .ok (.iload_n 1, 1) := by decide +kernel
theorem dX4_step_1 : decode cX4_step 1 = .ok (.invokestatic 137, 3) := by decide +kernel
theorem dX4_step_4 : decode cX4_step 4 = .ok (.ifCond .eq 10, 3) := by decide +kernel
theorem dX4_step_7 : decode cX4_step 7 = .ok (.iload_n 2, 1) := by decide +kernel
theorem dX4_step_8 : decode cX4_step 8 = .ok (.invokestatic 140, 3) := by decide +kernel
theorem dX4_step_11 : decode cX4_step 11 = .ok (.ifCond .ne 6, 3) := by decide +kernel
theorem dX4_step_14 : decode cX4_step 14 = .ok (.bipush (-2), 2) := by decide +kernel
theorem dX4_step_16 : decode cX4_step 16 = .ok (.ireturn, 1) := by decide +kernel
theorem dX4_step_17 : decode cX4_step 17 = .ok (.aload_n 0, 1) := by decide +kernel
theorem dX4_step_18 : decode cX4_step 18 = .ok (.invokevirtual 143, 3) := by decide +kernel
theorem dX4_step_21 : decode cX4_step 21 = .ok (.iload_n 2, 1) := by decide +kernel
theorem dX4_step_22 : decode cX4_step 22 = .ok (.ifCond .ne 15, 3) := by decide +kernel
theorem dX4_step_25 : decode cX4_step 25 = .ok (.aload_n 0, 1) := by decide +kernel
theorem dX4_step_26 : decode cX4_step 26 = .ok (.getfield 52, 3) := by decide +kernel
theorem dX4_step_29 : decode cX4_step 29 = .ok (.getfield 146, 3) := by decide +kernel
theorem dX4_step_32 : decode cX4_step 32 = .ok (.iload_n 1, 1) := by decide +kernel
theorem dX4_step_33 : decode cX4_step 33 = .ok (.iaload, 1) := by decide +kernel
theorem dX4_step_34 : decode cX4_step 34 = .ok (.goto 12, 3) := by decide +kernel
theorem dX4_step_37 : decode cX4_step 37 = .ok (.aload_n 0, 1) := by decide +kernel
theorem dX4_step_38 : decode cX4_step 38 = .ok (.getfield 52, 3) := by decide +kernel
theorem dX4_step_41 : decode cX4_step 41 = .ok (.getfield 149, 3) := by decide +kernel
theorem dX4_step_44 : decode cX4_step 44 = .ok (.iload_n 1, 1) := by decide +kernel
theorem dX4_step_45 : decode cX4_step 45 = .ok (.iaload, 1) := by decide +kernel
theorem dX4_step_46 : decode cX4_step 46 = .ok (.ireturn, 1) := by decide +kernel
theorem dX4_spring_0 : decode cX4_spring 0 = .ok (.iload_n 1, 1) := by decide +kernel
theorem dX4_spring_1 : decode cX4_spring 1 = .ok (.invokestatic 137, 3) := by decide +kernel
theorem dX4_spring_4 : decode cX4_spring 4 = .ok (.ifCond .eq 11, 3) := by decide +kernel
theorem dX4_spring_7 : decode cX4_spring 7 = .ok (.aload_n 0, 1) := by decide +kernel
theorem dX4_spring_8 : decode cX4_spring 8 = .ok (.iload_n 2, 1) := by decide +kernel
theorem dX4_spring_9 : decode cX4_spring 9 = .ok (.invokevirtual 89, 3) := by decide +kernel
theorem dX4_spring_12 : decode cX4_spring 12 = .ok (.ifCond .ne 6, 3) := by decide +kernel
theorem dX4_spring_15 : decode cX4_spring 15 = .ok (.bipush (-2), 2) := by decide +kernel
theorem dX4_spring_17 : decode cX4_spring 17 = .ok (.ireturn, 1) := by decide +kernel
theorem dX4_spring_18 : decode cX4_spring 18 = .ok (.aload_n 0, 1) := by decide +kernel
theorem dX4_spring_19 : decode cX4_spring 19 = .ok (.invokevirtual 143, 3) := by decide +kernel
theorem dX4_spring_22 : decode cX4_spring 22 = .ok (.aload_n 0, 1) := by decide +kernel
theorem dX4_spring_23 : decode cX4_spring 23 = .ok (.getfield 12, 3) := by decide +kernel
theorem dX4_spring_26 : decode cX4_spring 26 = .ok (.getfield 99, 3) := by decide +kernel
theorem dX4_spring_29 : decode cX4_spring 29 = .ok (.iload_n 2, 1) := by decide +kernel
theorem dX4_spring_30 : decode cX4_spring 30 = .ok (.iaload, 1) := by decide +kernel
theorem dX4_spring_31 : decode cX4_spring 31 = .ok (.istore_n 3, 1) := by decide +kernel
theorem dX4_spring_32 : decode cX4_spring 32 = .ok (.iconst 0, 1) := by decide +kernel
theorem dX4_spring_33 : decode cX4_spring 33 = .ok (.istore 4, 2) := by decide +kernel
theorem dX4_spring_35 : decode cX4_spring 35 = .ok (.iload 4, 2) := by decide +kernel
theorem dX4_spring_37 : decode cX4_spring 37 = .ok (.iload_n 1, 1) := by decide +kernel
theorem dX4_spring_38 : decode cX4_spring 38 = .ok (.if_icmp .gt 26, 3) := by decide +kernel
theorem dX4_spring_41 : decode cX4_spring 41 = .ok (.iload_n 3, 1) := by decide +kernel
theorem dX4_spring_42 : decode cX4_spring 42 = .ok (.aload_n 0, 1) := by decide +kernel
theorem dX4_spring_43 : decode cX4_spring 43 = .ok (.getfield 52, 3) := by decide +kernel
theorem dX4_spring_46 : decode cX4_spring 46 = .ok (.getfield 146, 3) := by decide +kernel
theorem dX4_spring_49 : decode cX4_spring 49 = .ok (.iload 4, 2) := by decide +kernel
theorem dX4_spring_51 : decode cX4_spring 51 = .ok (.iaload, 1) := by decide +kernel
theorem dX4_spring_52 : decode cX4_spring 52 = .ok (.iload_n 2, 1) := by decide +kernel
theorem dX4_spring_53 : decode cX4_spring 53 = .ok (.ishr, 1) := by decide +kernel
theorem dX4_spring_54 : decode cX4_spring 54 = .ok (.iconst 1, 1) := by decide +kernel
theorem dX4_spring_55 : decode cX4_spring 55 = .ok (.iand, 1) := by decide +kernel
theorem dX4_spring_56 : decode cX4_spring 56 = .ok (.isub, 1) := by decide +kernel
theorem dX4_spring_57 : decode cX4_spring 57 = .ok (.istore_n 3, 1) := by decide +kernel
theorem dX4_spring_58 : decode cX4_spring 58 = .ok (.iinc 4 1, 3) := by decide +kernel
theorem dX4_spring_61 : decode cX4_spring 61 = .ok (.goto (-26), 3) := by decide +kernel
theorem dX4_spring_64 : decode cX4_spring 64 = .ok (.iload_n 3, 1) := by decide +kernel
theorem dX4_spring_65 : decode cX4_spring 65 = .ok (.ireturn, 1) := by decide +kernel
theorem dX4_quiet_0 : decode cX4_quiet 0 = .ok (.aload_n 0, 1) := by decide +kernel
theorem dX4_quiet_1 : decode cX4_quiet 1 = .ok (.invokevirtual 143, 3) := by decide +kernel
theorem dX4_quiet_4 : decode cX4_quiet 4 = .ok (.bipush 60, 2) := by decide +kernel
theorem dX4_quiet_6 : decode cX4_quiet 6 = .ok (.istore_n 1, 1) := by decide +kernel
theorem dX4_quiet_7 : decode cX4_quiet 7 = .ok (.iload_n 1, 1) := by decide +kernel
theorem dX4_quiet_8 : decode cX4_quiet 8 = .ok (.ifCond .le 23, 3) := by decide +kernel
theorem dX4_quiet_11 : decode cX4_quiet 11 = .ok (.aload_n 0, 1) := by decide +kernel
theorem dX4_quiet_12 : decode cX4_quiet 12 = .ok (.getfield 52, 3) := by decide +kernel
theorem dX4_quiet_15 : decode cX4_quiet 15 = .ok (.getfield 146, 3) := by decide +kernel
theorem dX4_quiet_18 : decode cX4_quiet 18 = .ok (.iload_n 1, 1) := by decide +kernel
theorem dX4_quiet_19 : decode cX4_quiet 19 = .ok (.iconst 1, 1) := by decide +kernel
theorem dX4_quiet_20 : decode cX4_quiet 20 = .ok (.isub, 1) := by decide +kernel
theorem dX4_quiet_21 : decode cX4_quiet 21 = .ok (.iaload, 1) := by decide +kernel
theorem dX4_quiet_22 : decode cX4_quiet 22 = .ok (.ifCond .ne 9, 3) := by decide +kernel
theorem dX4_quiet_25 : decode cX4_quiet 25 = .ok (.iinc 1 (-1), 3) := by decide +kernel
theorem dX4_quiet_28 : decode cX4_quiet 28 = .ok (.goto (-21), 3) := by decide +kernel
theorem dX4_quiet_31 : decode cX4_quiet 31 = .ok (.iload_n 1, 1) := by decide +kernel
theorem dX4_quiet_32 : decode cX4_quiet 32 = .ok (.bipush 60, 2) := by decide +kernel
theorem dX4_quiet_34 : decode cX4_quiet 34 = .ok (.if_icmp .ne 7, 3) := by decide +kernel
theorem dX4_quiet_37 : decode cX4_quiet 37 = .ok (.iconst (-1), 1) := by decide +kernel
theorem dX4_quiet_38 : decode cX4_quiet 38 = .ok (.goto 4, 3) := by decide +kernel
theorem dX4_quiet_41 : decode cX4_quiet 41 = .ok (.iload_n 1, 1) := by decide +kernel
theorem dX4_quiet_42 : decode cX4_quiet 42 = .ok (.ireturn, 1) := by decide +kernel
theorem dX4_loudest_0 : decode cX4_loudest 0 = .ok (.iload_n 1, 1) := by decide +kernel
theorem dX4_loudest_1 : decode cX4_loudest 1 = .ok (.invokestatic 140, 3) := by decide +kernel
theorem dX4_loudest_4 : decode cX4_loudest 4 = .ok (.ifCond .ne 6, 3) := by decide +kernel
theorem dX4_loudest_7 : decode cX4_loudest 7 = .ok (.bipush (-2), 2) := by decide +kernel
theorem dX4_loudest_9 : decode cX4_loudest 9 = .ok (.ireturn, 1) := by decide +kernel
theorem dX4_loudest_10 : decode cX4_loudest 10 = .ok (.aload_n 0, 1) := by decide +kernel
theorem dX4_loudest_11 : decode cX4_loudest 11 = .ok (.invokevirtual 143, 3) := by decide +kernel
theorem dX4_loudest_14 : decode cX4_loudest 14 = .ok (.iconst (-1), 1) := by decide +kernel
theorem dX4_loudest_15 : decode cX4_loudest 15 = .ok (.istore_n 2, 1) := by decide +kernel
theorem dX4_loudest_16 : decode cX4_loudest 16 = .ok (.iconst 0, 1) := by decide +kernel
theorem dX4_loudest_17 : decode cX4_loudest 17 = .ok (.istore_n 3, 1) := by decide +kernel
theorem dX4_loudest_18 : decode cX4_loudest 18 = .ok (.iconst 0, 1) := by decide +kernel
theorem dX4_loudest_19 : decode cX4_loudest 19 = .ok (.istore 4, 2) := by decide +kernel
theorem dX4_loudest_21 : decode cX4_loudest 21 = .ok (.iload 4, 2) := by decide +kernel
theorem dX4_loudest_23 : decode cX4_loudest 23 = .ok (.bipush 60, 2) := by decide +kernel
theorem dX4_loudest_25 : decode cX4_loudest 25 = .ok (.if_icmp .ge 36, 3) := by decide +kernel
theorem dX4_loudest_28 : decode cX4_loudest 28 = .ok (.aload_n 0, 1) := by decide +kernel
theorem dX4_loudest_29 : decode cX4_loudest 29 = .ok (.getfield 52, 3) := by decide +kernel
theorem dX4_loudest_32 : decode cX4_loudest 32 = .ok (.getfield 146, 3) := by decide +kernel
theorem dX4_loudest_35 : decode cX4_loudest 35 = .ok (.iload 4, 2) := by decide +kernel
theorem dX4_loudest_37 : decode cX4_loudest 37 = .ok (.iaload, 1) := by decide +kernel
theorem dX4_loudest_38 : decode cX4_loudest 38 = .ok (.invokestatic 152, 3) := by decide +kernel
theorem dX4_loudest_41 : decode cX4_loudest 41 = .ok (.istore 5, 2) := by decide +kernel
theorem dX4_loudest_43 : decode cX4_loudest 43 = .ok (.iload 5, 2) := by decide +kernel
theorem dX4_loudest_45 : decode cX4_loudest 45 = .ok (.iload_n 3, 1) := by decide +kernel
theorem dX4_loudest_46 : decode cX4_loudest 46 = .ok (.if_icmp .le 9, 3) := by decide +kernel
theorem dX4_loudest_49 : decode cX4_loudest 49 = .ok (.iload 5, 2) := by decide +kernel
theorem dX4_loudest_51 : decode cX4_loudest 51 = .ok (.istore_n 3, 1) := by decide +kernel
theorem dX4_loudest_52 : decode cX4_loudest 52 = .ok (.iload 4, 2) := by decide +kernel
theorem dX4_loudest_54 : decode cX4_loudest 54 = .ok (.istore_n 2, 1) := by decide +kernel
theorem dX4_loudest_55 : decode cX4_loudest 55 = .ok (.iinc 4 1, 3) := by decide +kernel
theorem dX4_loudest_58 : decode cX4_loudest 58 = .ok (.goto (-37), 3) := by decide +kernel
theorem dX4_loudest_61 : decode cX4_loudest 61 = .ok (.iload_n 2, 1) := by decide +kernel
theorem dX4_loudest_62 : decode cX4_loudest 62 = .ok (.iconst (-1), 1) := by decide +kernel
theorem dX4_loudest_63 : decode cX4_loudest 63 = .ok (.if_icmp .eq 7, 3) := by decide +kernel
theorem dX4_loudest_66 : decode cX4_loudest 66 = .ok (.iload_n 1, 1) := by decide +kernel
theorem dX4_loudest_67 : decode cX4_loudest 67 = .ok (.ifCond .ne 7, 3) := by decide +kernel
theorem dX4_loudest_70 : decode cX4_loudest 70 = .ok (.iload_n 2, 1) := by decide +kernel
theorem dX4_loudest_71 : decode cX4_loudest 71 = .ok (.goto 4, 3) := by decide +kernel
theorem dX4_loudest_74 : decode cX4_loudest 74 = .ok (.iload_n 3, 1) := by decide +kernel
theorem dX4_loudest_75 : decode cX4_loudest 75 = .ok (.ireturn, 1) := by decide +kernel
theorem dX4_first_0 : decode cX4_first 0 = .ok (.aload_n 0, 1) := by decide +kernel
theorem dX4_first_1 : decode cX4_first 1 = .ok (.iload_n 1, 1) := by decide +kernel
theorem dX4_first_2 : decode cX4_first 2 = .ok (.invokevirtual 89, 3) := by decide +kernel
theorem dX4_first_5 : decode cX4_first 5 = .ok (.ifCond .ne 6, 3) := by decide +kernel
theorem dX4_first_8 : decode cX4_first 8 = .ok (.bipush (-2), 2) := by decide +kernel
theorem dX4_first_10 : decode cX4_first 10 = .ok (.ireturn, 1) := by decide +kernel
theorem dX4_first_11 : decode cX4_first 11 = .ok (.aload_n 0, 1) := by decide +kernel
theorem dX4_first_12 : decode cX4_first 12 = .ok (.invokevirtual 143, 3) := by decide +kernel
theorem dX4_first_15 : decode cX4_first 15 = .ok (.iconst 0, 1) := by decide +kernel
theorem dX4_first_16 : decode cX4_first 16 = .ok (.istore_n 2, 1) := by decide +kernel
theorem dX4_first_17 : decode cX4_first 17 = .ok (.iload_n 2, 1) := by decide +kernel
theorem dX4_first_18 : decode cX4_first 18 = .ok (.bipush 60, 2) := by decide +kernel
theorem dX4_first_20 : decode cX4_first 20 = .ok (.if_icmp .ge 27, 3) := by decide +kernel
theorem dX4_first_23 : decode cX4_first 23 = .ok (.aload_n 0, 1) := by decide +kernel
theorem dX4_first_24 : decode cX4_first 24 = .ok (.getfield 52, 3) := by decide +kernel
theorem dX4_first_27 : decode cX4_first 27 = .ok (.getfield 146, 3) := by decide +kernel
theorem dX4_first_30 : decode cX4_first 30 = .ok (.iload_n 2, 1) := by decide +kernel
theorem dX4_first_31 : decode cX4_first 31 = .ok (.iaload, 1) := by decide +kernel
theorem dX4_first_32 : decode cX4_first 32 = .ok (.iload_n 1, 1) := by decide +kernel
theorem dX4_first_33 : decode cX4_first 33 = .ok (.ishr, 1) := by decide +kernel
theorem dX4_first_34 : decode cX4_first 34 = .ok (.iconst 1, 1) := by decide +kernel
theorem dX4_first_35 : decode cX4_first 35 = .ok (.iand, 1) := by decide +kernel
theorem dX4_first_36 : decode cX4_first 36 = .ok (.ifCond .eq 5, 3) := by decide +kernel
theorem dX4_first_39 : decode cX4_first 39 = .ok (.iload_n 2, 1) := by decide +kernel
theorem dX4_first_40 : decode cX4_first 40 = .ok (.ireturn, 1) := by decide +kernel
theorem dX4_first_41 : decode cX4_first 41 = .ok (.iinc 2 1, 3) := by decide +kernel
theorem dX4_first_44 : decode cX4_first 44 = .ok (.goto (-27), 3) := by decide +kernel
theorem dX4_first_47 : decode cX4_first 47 = .ok (.iconst (-1), 1) := by decide +kernel
theorem dX4_first_48 : decode cX4_first 48 = .ok (.ireturn, 1) := by decide +kernel
theorem dX4_together_0 : decode cX4_together 0 = .ok (.aload_n 0, 1) := by decide +kernel
theorem dX4_together_1 : decode cX4_together 1 = .ok (.iload_n 1, 1) := by decide +kernel
theorem dX4_together_2 : decode cX4_together 2 = .ok (.invokevirtual 89, 3) := by decide +kernel
theorem dX4_together_5 : decode cX4_together 5 = .ok (.ifCond .eq 16, 3) := by decide +kernel
theorem dX4_together_8 : decode cX4_together 8 = .ok (.aload_n 0, 1) := by decide +kernel
theorem dX4_together_9 : decode cX4_together 9 = .ok (.iload_n 2, 1) := by decide +kernel
theorem dX4_together_10 : decode cX4_together 10 = .ok (.invokevirtual 89, 3) := by decide +kernel
theorem dX4_together_13 : decode cX4_together 13 = .ok (.ifCond .eq 8, 3) := by decide +kernel
theorem dX4_together_16 : decode cX4_together 16 = .ok (.iload_n 1, 1) := by decide +kernel
theorem dX4_together_17 : decode cX4_together 17 = .ok (.iload_n 2, 1) := by decide +kernel
theorem dX4_together_18 : decode cX4_together 18 = .ok (.if_icmp .ne 6, 3) := by decide +kernel
theorem dX4_together_21 : decode cX4_together 21 = .ok (.bipush (-2), 2) := by decide +kernel
theorem dX4_together_23 : decode cX4_together 23 = .ok (.ireturn, 1) := by decide +kernel
theorem dX4_together_24 : decode cX4_together 24 = .ok (.aload_n 0, 1) := by decide +kernel
theorem dX4_together_25 : decode cX4_together 25 = .ok (.invokevirtual 143, 3) := by decide +kernel
theorem dX4_together_28 : decode cX4_together 28 = .ok (.iconst 1, 1) := by decide +kernel
theorem dX4_together_29 : decode cX4_together 29 = .ok (.iload_n 1, 1) := by decide +kernel
theorem dX4_together_30 : decode cX4_together 30 = .ok (.ishl, 1) := by decide +kernel
theorem dX4_together_31 : decode cX4_together 31 = .ok (.iconst 1, 1) := by decide +kernel
theorem dX4_together_32 : decode cX4_together 32 = .ok (.iload_n 2, 1) := by decide +kernel
theorem dX4_together_33 : decode cX4_together 33 = .ok (.ishl, 1) := by decide +kernel
theorem dX4_together_34 : decode cX4_together 34 = .ok (.ior, 1) := by decide +kernel
theorem dX4_together_35 : decode cX4_together 35 = .ok (.istore_n 3, 1) := by decide +kernel
theorem dX4_together_36 : decode cX4_together 36 = .ok (.iconst 0, 1) := by decide +kernel
theorem dX4_together_37 : decode cX4_together 37 = .ok (.istore 4, 2) := by decide +kernel
theorem dX4_together_39 : decode cX4_together 39 = .ok (.iconst 0, 1) := by decide +kernel
theorem dX4_together_40 : decode cX4_together 40 = .ok (.istore 5, 2) := by decide +kernel
theorem dX4_together_42 : decode cX4_together 42 = .ok (.iload 5, 2) := by decide +kernel
theorem dX4_together_44 : decode cX4_together 44 = .ok (.bipush 60, 2) := by decide +kernel
theorem dX4_together_46 : decode cX4_together 46 = .ok (.if_icmp .ge 28, 3) := by decide +kernel
theorem dX4_together_49 : decode cX4_together 49 = .ok (.aload_n 0, 1) := by decide +kernel
theorem dX4_together_50 : decode cX4_together 50 = .ok (.getfield 52, 3) := by decide +kernel
theorem dX4_together_53 : decode cX4_together 53 = .ok (.getfield 149, 3) := by decide +kernel
theorem dX4_together_56 : decode cX4_together 56 = .ok (.iload 5, 2) := by decide +kernel
theorem dX4_together_58 : decode cX4_together 58 = .ok (.iaload, 1) := by decide +kernel
theorem dX4_together_59 : decode cX4_together 59 = .ok (.iload_n 3, 1) := by decide +kernel
theorem dX4_together_60 : decode cX4_together 60 = .ok (.iand, 1) := by decide +kernel
theorem dX4_together_61 : decode cX4_together 61 = .ok (.iload_n 3, 1) := by decide +kernel
theorem dX4_together_62 : decode cX4_together 62 = .ok (.if_icmp .ne 6, 3) := by decide +kernel
theorem dX4_together_65 : decode cX4_together 65 = .ok (.iinc 4 1, 3) := by decide +kernel
theorem dX4_together_68 : decode cX4_together 68 = .ok (.iinc 5 1, 3) := by decide +kernel
theorem dX4_together_71 : decode cX4_together 71 = .ok (.goto (-29), 3) := by decide +kernel
theorem dX4_together_74 : decode cX4_together 74 = .ok (.iload 4, 2) := by decide +kernel
theorem dX4_together_76 : decode cX4_together 76 = .ok (.ireturn, 1) := by decide +kernel
theorem dX4_news_0 : decode cX4_news 0 = .ok (.aload_n 0, 1) := by decide +kernel
theorem dX4_news_1 : decode cX4_news 1 = .ok (.iload_n 1, 1) := by decide +kernel
theorem dX4_news_2 : decode cX4_news 2 = .ok (.invokevirtual 89, 3) := by decide +kernel
theorem dX4_news_5 : decode cX4_news 5 = .ok (.ifCond .eq 23, 3) := by decide +kernel
theorem dX4_news_8 : decode cX4_news 8 = .ok (.iload_n 2, 1) := by decide +kernel
theorem dX4_news_9 : decode cX4_news 9 = .ok (.invokestatic 137, 3) := by decide +kernel
theorem dX4_news_12 : decode cX4_news 12 = .ok (.ifCond .eq 16, 3) := by decide +kernel
theorem dX4_news_15 : decode cX4_news 15 = .ok (.aload_n 0, 1) := by decide +kernel
theorem dX4_news_16 : decode cX4_news 16 = .ok (.iload_n 3, 1) := by decide +kernel
theorem dX4_news_17 : decode cX4_news 17 = .ok (.invokevirtual 89, 3) := by decide +kernel
theorem dX4_news_20 : decode cX4_news 20 = .ok (.ifCond .eq 8, 3) := by decide +kernel
theorem dX4_news_23 : decode cX4_news 23 = .ok (.iload_n 1, 1) := by decide +kernel
theorem dX4_news_24 : decode cX4_news 24 = .ok (.iload_n 3, 1) := by decide +kernel
theorem dX4_news_25 : decode cX4_news 25 = .ok (.if_icmp .ne 6, 3) := by decide +kernel
theorem dX4_news_28 : decode cX4_news 28 = .ok (.bipush (-2), 2) := by decide +kernel
theorem dX4_news_30 : decode cX4_news 30 = .ok (.ireturn, 1) := by decide +kernel
theorem dX4_news_31 : decode cX4_news 31 = .ok (.aload_n 0, 1) := by decide +kernel
theorem dX4_news_32 : decode cX4_news 32 = .ok (.invokevirtual 143, 3) := by decide +kernel
theorem dX4_news_35 : decode cX4_news 35 = .ok (.iconst 1, 1) := by decide +kernel
theorem dX4_news_36 : decode cX4_news 36 = .ok (.iload_n 1, 1) := by decide +kernel
theorem dX4_news_37 : decode cX4_news 37 = .ok (.ishl, 1) := by decide +kernel
theorem dX4_news_38 : decode cX4_news 38 = .ok (.istore 4, 2) := by decide +kernel
theorem dX4_news_40 : decode cX4_news 40 = .ok (.iload_n 2, 1) := by decide +kernel
theorem dX4_news_41 : decode cX4_news 41 = .ok (.istore 5, 2) := by decide +kernel
theorem dX4_news_43 : decode cX4_news 43 = .ok (.iload 5, 2) := by decide +kernel
theorem dX4_news_45 : decode cX4_news 45 = .ok (.bipush 60, 2) := by decide +kernel
theorem dX4_news_47 : decode cX4_news 47 = .ok (.if_icmp .ge 38, 3) := by decide +kernel
theorem dX4_news_50 : decode cX4_news 50 = .ok (.iload 4, 2) := by decide +kernel
theorem dX4_news_52 : decode cX4_news 52 = .ok (.aload_n 0, 1) := by decide +kernel
theorem dX4_news_53 : decode cX4_news 53 = .ok (.getfield 52, 3) := by decide +kernel
theorem dX4_news_56 : decode cX4_news 56 = .ok (.getfield 149, 3) := by decide +kernel
theorem dX4_news_59 : decode cX4_news 59 = .ok (.iload 5, 2) := by decide +kernel
theorem dX4_news_61 : decode cX4_news 61 = .ok (.iaload, 1) := by decide +kernel
theorem dX4_news_62 : decode cX4_news 62 = .ok (.invokestatic 157, 3) := by decide +kernel
theorem dX4_news_65 : decode cX4_news 65 = .ok (.istore 4, 2) := by decide +kernel
theorem dX4_news_67 : decode cX4_news 67 = .ok (.iload 4, 2) := by decide +kernel
theorem dX4_news_69 : decode cX4_news 69 = .ok (.iload_n 3, 1) := by decide +kernel
theorem dX4_news_70 : decode cX4_news 70 = .ok (.ishr, 1) := by decide +kernel
theorem dX4_news_71 : decode cX4_news 71 = .ok (.iconst 1, 1) := by decide +kernel
theorem dX4_news_72 : decode cX4_news 72 = .ok (.iand, 1) := by decide +kernel
theorem dX4_news_73 : decode cX4_news 73 = .ok (.ifCond .eq 6, 3) := by decide +kernel
theorem dX4_news_76 : decode cX4_news 76 = .ok (.iload 5, 2) := by decide +kernel
theorem dX4_news_78 : decode cX4_news 78 = .ok (.ireturn, 1) := by decide +kernel
theorem dX4_news_79 : decode cX4_news 79 = .ok (.iinc 5 1, 3) := by decide +kernel
theorem dX4_news_82 : decode cX4_news 82 = .ok (.goto (-39), 3) := by decide +kernel
theorem dX4_news_85 : decode cX4_news 85 = .ok (.iconst (-1), 1) := by decide +kernel
theorem dX4_news_86 : decode cX4_news 86 = .ok (.ireturn, 1) := by decide +kernel
theorem dX4_hears_0 : decode cX4_hears 0 = .ok (.aload_n 0, 1) := by decide +kernel
theorem dX4_hears_1 : decode cX4_hears 1 = .ok (.iload_n 1, 1) := by decide +kernel
theorem dX4_hears_2 : decode cX4_hears 2 = .ok (.invokevirtual 89, 3) := by decide +kernel
theorem dX4_hears_5 : decode cX4_hears 5 = .ok (.ifCond .eq 10, 3) := by decide +kernel
theorem dX4_hears_8 : decode cX4_hears 8 = .ok (.iload_n 2, 1) := by decide +kernel
theorem dX4_hears_9 : decode cX4_hears 9 = .ok (.invokestatic 137, 3) := by decide +kernel
theorem dX4_hears_12 : decode cX4_hears 12 = .ok (.ifCond .ne 6, 3) := by decide +kernel
theorem dX4_hears_15 : decode cX4_hears 15 = .ok (.bipush (-2), 2) := by decide +kernel
theorem dX4_hears_17 : decode cX4_hears 17 = .ok (.ireturn, 1) := by decide +kernel
theorem dX4_hears_18 : decode cX4_hears 18 = .ok (.aload_n 0, 1) := by decide +kernel
theorem dX4_hears_19 : decode cX4_hears 19 = .ok (.invokevirtual 143, 3) := by decide +kernel
theorem dX4_hears_22 : decode cX4_hears 22 = .ok (.iconst 1, 1) := by decide +kernel
theorem dX4_hears_23 : decode cX4_hears 23 = .ok (.iload_n 1, 1) := by decide +kernel
theorem dX4_hears_24 : decode cX4_hears 24 = .ok (.ishl, 1) := by decide +kernel
theorem dX4_hears_25 : decode cX4_hears 25 = .ok (.istore_n 3, 1) := by decide +kernel
theorem dX4_hears_26 : decode cX4_hears 26 = .ok (.iload_n 2, 1) := by decide +kernel
theorem dX4_hears_27 : decode cX4_hears 27 = .ok (.istore 4, 2) := by decide +kernel
theorem dX4_hears_29 : decode cX4_hears 29 = .ok (.iload 4, 2) := by decide +kernel
theorem dX4_hears_31 : decode cX4_hears 31 = .ok (.bipush 60, 2) := by decide +kernel
theorem dX4_hears_33 : decode cX4_hears 33 = .ok (.if_icmp .ge 24, 3) := by decide +kernel
theorem dX4_hears_36 : decode cX4_hears 36 = .ok (.iload_n 3, 1) := by decide +kernel
theorem dX4_hears_37 : decode cX4_hears 37 = .ok (.aload_n 0, 1) := by decide +kernel
theorem dX4_hears_38 : decode cX4_hears 38 = .ok (.getfield 52, 3) := by decide +kernel
theorem dX4_hears_41 : decode cX4_hears 41 = .ok (.getfield 149, 3) := by decide +kernel
theorem dX4_hears_44 : decode cX4_hears 44 = .ok (.iload 4, 2) := by decide +kernel
theorem dX4_hears_46 : decode cX4_hears 46 = .ok (.iaload, 1) := by decide +kernel
theorem dX4_hears_47 : decode cX4_hears 47 = .ok (.invokestatic 157, 3) := by decide +kernel
theorem dX4_hears_50 : decode cX4_hears 50 = .ok (.istore_n 3, 1) := by decide +kernel
theorem dX4_hears_51 : decode cX4_hears 51 = .ok (.iinc 4 1, 3) := by decide +kernel
theorem dX4_hears_54 : decode cX4_hears 54 = .ok (.goto (-25), 3) := by decide +kernel
theorem dX4_hears_57 : decode cX4_hears 57 = .ok (.iload_n 3, 1) := by decide +kernel
theorem dX4_hears_58 : decode cX4_hears 58 = .ok (.ireturn, 1) := by decide +kernel
theorem dX4_hush_0 : decode cX4_hush 0 = .ok (.iload_n 1, 1) := by decide +kernel
theorem dX4_hush_1 : decode cX4_hush 1 = .ok (.invokestatic 137, 3) := by decide +kernel
theorem dX4_hush_4 : decode cX4_hush 4 = .ok (.ifCond .eq 10, 3) := by decide +kernel
theorem dX4_hush_7 : decode cX4_hush 7 = .ok (.iload_n 2, 1) := by decide +kernel
theorem dX4_hush_8 : decode cX4_hush 8 = .ok (.invokestatic 140, 3) := by decide +kernel
theorem dX4_hush_11 : decode cX4_hush 11 = .ok (.ifCond .ne 6, 3) := by decide +kernel
theorem dX4_hush_14 : decode cX4_hush 14 = .ok (.bipush (-2), 2) := by decide +kernel
theorem dX4_hush_16 : decode cX4_hush 16 = .ok (.ireturn, 1) := by decide +kernel
theorem dX4_hush_17 : decode cX4_hush 17 = .ok (.aload_n 0, 1) := by decide +kernel
theorem dX4_hush_18 : decode cX4_hush 18 = .ok (.getfield 60, 3) := by decide +kernel
theorem dX4_hush_21 : decode cX4_hush 21 = .ok (.aload_n 0, 1) := by decide +kernel
theorem dX4_hush_22 : decode cX4_hush 22 = .ok (.getfield 12, 3) := by decide +kernel
theorem dX4_hush_25 : decode cX4_hush 25 = .ok (.aload_n 0, 1) := by decide +kernel
theorem dX4_hush_26 : decode cX4_hush 26 = .ok (.getfield 16, 3) := by decide +kernel
theorem dX4_hush_29 : decode cX4_hush 29 = .ok (.aload_n 0, 1) := by decide +kernel
theorem dX4_hush_30 : decode cX4_hush 30 = .ok (.getfield 20, 3) := by decide +kernel
theorem dX4_hush_33 : decode cX4_hush 33 = .ok (.aload_n 0, 1) := by decide +kernel
theorem dX4_hush_34 : decode cX4_hush 34 = .ok (.getfield 27, 3) := by decide +kernel
theorem dX4_hush_37 : decode cX4_hush 37 = .ok (.invokevirtual 161, 3) := by decide +kernel
theorem dX4_hush_40 : decode cX4_hush 40 = .ok (.aload_n 0, 1) := by decide +kernel
theorem dX4_hush_41 : decode cX4_hush 41 = .ok (.getfield 12, 3) := by decide +kernel
theorem dX4_hush_44 : decode cX4_hush 44 = .ok (.invokevirtual 165, 3) := by decide +kernel
theorem dX4_hush_47 : decode cX4_hush 47 = .ok (.aload_n 0, 1) := by decide +kernel
theorem dX4_hush_48 : decode cX4_hush 48 = .ok (.getfield 20, 3) := by decide +kernel
theorem dX4_hush_51 : decode cX4_hush 51 = .ok (.iconst (-1), 1) := by decide +kernel
theorem dX4_hush_52 : decode cX4_hush 52 = .ok (.ixor, 1) := by decide +kernel
theorem dX4_hush_53 : decode cX4_hush 53 = .ok (.iand, 1) := by decide +kernel
theorem dX4_hush_54 : decode cX4_hush 54 = .ok (.istore_n 3, 1) := by decide +kernel
theorem dX4_hush_55 : decode cX4_hush 55 = .ok (.iconst 0, 1) := by decide +kernel
theorem dX4_hush_56 : decode cX4_hush 56 = .ok (.istore 4, 2) := by decide +kernel
theorem dX4_hush_58 : decode cX4_hush 58 = .ok (.iload 4, 2) := by decide +kernel
theorem dX4_hush_60 : decode cX4_hush 60 = .ok (.bipush 9, 2) := by decide +kernel
theorem dX4_hush_62 : decode cX4_hush 62 = .ok (.if_icmp .gt 67, 3) := by decide +kernel
theorem dX4_hush_65 : decode cX4_hush 65 = .ok (.iconst 0, 1) := by decide +kernel
theorem dX4_hush_66 : decode cX4_hush 66 = .ok (.istore 5, 2) := by decide +kernel
theorem dX4_hush_68 : decode cX4_hush 68 = .ok (.iload 5, 2) := by decide +kernel
theorem dX4_hush_70 : decode cX4_hush 70 = .ok (.sipush 511, 3) := by decide +kernel
theorem dX4_hush_73 : decode cX4_hush 73 = .ok (.if_icmp .gt 50, 3) := by decide +kernel
theorem dX4_hush_76 : decode cX4_hush 76 = .ok (.iload 5, 2) := by decide +kernel
theorem dX4_hush_78 : decode cX4_hush 78 = .ok (.iload_n 3, 1) := by decide +kernel
theorem dX4_hush_79 : decode cX4_hush 79 = .ok (.iconst (-1), 1) := by decide +kernel
theorem dX4_hush_80 : decode cX4_hush 80 = .ok (.ixor, 1) := by decide +kernel
theorem dX4_hush_81 : decode cX4_hush 81 = .ok (.iand, 1) := by decide +kernel
theorem dX4_hush_82 : decode cX4_hush 82 = .ok (.ifCond .ne 35, 3) := by decide +kernel
theorem dX4_hush_85 : decode cX4_hush 85 = .ok (.iload 5, 2) := by decide +kernel
theorem dX4_hush_87 : decode cX4_hush 87 = .ok (.invokestatic 152, 3) := by decide +kernel
theorem dX4_hush_90 : decode cX4_hush 90 = .ok (.iload 4, 2) := by decide +kernel
theorem dX4_hush_92 : decode cX4_hush 92 = .ok (.if_icmp .ne 25, 3) := by decide +kernel
theorem dX4_hush_95 : decode cX4_hush 95 = .ok (.aload_n 0, 1) := by decide +kernel
theorem dX4_hush_96 : decode cX4_hush 96 = .ok (.iload 5, 2) := by decide +kernel
theorem dX4_hush_98 : decode cX4_hush 98 = .ok (.iload_n 1, 1) := by decide +kernel
theorem dX4_hush_99 : decode cX4_hush 99 = .ok (.invokevirtual 169, 3) := by decide +kernel
theorem dX4_hush_102 : decode cX4_hush 102 = .ok (.ifCond .eq 15, 3) := by decide +kernel
theorem dX4_hush_105 : decode cX4_hush 105 = .ok (.iload_n 2, 1) := by decide +kernel
theorem dX4_hush_106 : decode cX4_hush 106 = .ok (.ifCond .ne 8, 3) := by decide +kernel
theorem dX4_hush_109 : decode cX4_hush 109 = .ok (.iload 4, 2) := by decide +kernel
theorem dX4_hush_111 : decode cX4_hush 111 = .ok (.goto 5, 3) := by decide +kernel
theorem dX4_hush_114 : decode cX4_hush 114 = .ok (.iload 5, 2) := by decide +kernel
theorem dX4_hush_116 : decode cX4_hush 116 = .ok (.ireturn, 1) := by decide +kernel
theorem dX4_hush_117 : decode cX4_hush 117 = .ok (.iinc 5 1, 3) := by decide +kernel
theorem dX4_hush_120 : decode cX4_hush 120 = .ok (.goto (-52), 3) := by decide +kernel
theorem dX4_hush_123 : decode cX4_hush 123 = .ok (.iinc 4 1, 3) := by decide +kernel
theorem dX4_hush_126 : decode cX4_hush 126 = .ok (.goto (-68), 3) := by decide +kernel
theorem dX4_hush_129 : decode cX4_hush 129 = .ok (.iconst (-1), 1) := by decide +kernel
theorem dX4_hush_130 : decode cX4_hush 130 = .ok (.ireturn, 1) := by decide +kernel
theorem dX4_shelf_0 : decode cX4_shelf 0 = .ok (.iload_n 1, 1) := by decide +kernel
theorem dX4_shelf_1 : decode cX4_shelf 1 = .ok (.iconst 1, 1) := by decide +kernel
theorem dX4_shelf_2 : decode cX4_shelf 2 = .ok (.if_icmp .lt 37, 3) := by decide +kernel
theorem dX4_shelf_5 : decode cX4_shelf 5 = .ok (.iload_n 1, 1) := by decide +kernel
theorem dX4_shelf_6 : decode cX4_shelf 6 = .ok (.bipush 6, 2) := by decide +kernel
theorem dX4_shelf_8 : decode cX4_shelf 8 = .ok (.if_icmp .gt 31, 3) := by decide +kernel
theorem dX4_shelf_11 : decode cX4_shelf 11 = .ok (.iload_n 1, 1) := by decide +kernel
theorem dX4_shelf_12 : decode cX4_shelf 12 = .ok (.aload_n 0, 1) := by decide +kernel
theorem dX4_shelf_13 : decode cX4_shelf 13 = .ok (.getfield 12, 3) := by decide +kernel
theorem dX4_shelf_16 : decode cX4_shelf 16 = .ok (.getfield 173, 3) := by decide +kernel
theorem dX4_shelf_19 : decode cX4_shelf 19 = .ok (.if_icmp .gt 20, 3) := by decide +kernel
theorem dX4_shelf_22 : decode cX4_shelf 22 = .ok (.iload_n 2, 1) := by decide +kernel
theorem dX4_shelf_23 : decode cX4_shelf 23 = .ok (.invokestatic 140, 3) := by decide +kernel
theorem dX4_shelf_26 : decode cX4_shelf 26 = .ok (.ifCond .eq 13, 3) := by decide +kernel
theorem dX4_shelf_29 : decode cX4_shelf 29 = .ok (.iload_n 3, 1) := by decide +kernel
theorem dX4_shelf_30 : decode cX4_shelf 30 = .ok (.iconst (-1), 1) := by decide +kernel
theorem dX4_shelf_31 : decode cX4_shelf 31 = .ok (.if_icmp .lt 8, 3) := by decide +kernel
theorem dX4_shelf_34 : decode cX4_shelf 34 = .ok (.iload_n 3, 1) := by decide +kernel
theorem dX4_shelf_35 : decode cX4_shelf 35 = .ok (.iload_n 1, 1) := by decide +kernel
theorem dX4_shelf_36 : decode cX4_shelf 36 = .ok (.if_icmp .lt 6, 3) := by decide +kernel
theorem dX4_shelf_39 : decode cX4_shelf 39 = .ok (.bipush (-2), 2) := by decide +kernel
theorem dX4_shelf_41 : decode cX4_shelf 41 = .ok (.ireturn, 1) := by decide +kernel
theorem dX4_shelf_42 : decode cX4_shelf 42 = .ok (.aload_n 0, 1) := by decide +kernel
theorem dX4_shelf_43 : decode cX4_shelf 43 = .ok (.iload_n 1, 1) := by decide +kernel
theorem dX4_shelf_44 : decode cX4_shelf 44 = .ok (.iload_n 2, 1) := by decide +kernel
theorem dX4_shelf_45 : decode cX4_shelf 45 = .ok (.iconst 1, 1) := by decide +kernel
theorem dX4_shelf_46 : decode cX4_shelf 46 = .ok (.if_icmp .ne 7, 3) := by decide +kernel
theorem dX4_shelf_49 : decode cX4_shelf 49 = .ok (.iconst 1, 1) := by decide +kernel
theorem dX4_shelf_50 : decode cX4_shelf 50 = .ok (.goto 4, 3) := by decide +kernel
theorem dX4_shelf_53 : decode cX4_shelf 53 = .ok (.iconst 0, 1) := by decide +kernel
theorem dX4_shelf_54 : decode cX4_shelf 54 = .ok (.invokevirtual 176, 3) := by decide +kernel
theorem dX4_shelf_57 : decode cX4_shelf 57 = .ok (.istore 4, 2) := by decide +kernel
theorem dX4_shelf_59 : decode cX4_shelf 59 = .ok (.iload_n 3, 1) := by decide +kernel
theorem dX4_shelf_60 : decode cX4_shelf 60 = .ok (.iconst (-1), 1) := by decide +kernel
theorem dX4_shelf_61 : decode cX4_shelf 61 = .ok (.if_icmp .ne 8, 3) := by decide +kernel
theorem dX4_shelf_64 : decode cX4_shelf 64 = .ok (.iload 4, 2) := by decide +kernel
theorem dX4_shelf_66 : decode cX4_shelf 66 = .ok (.goto 9, 3) := by decide +kernel
theorem dX4_shelf_69 : decode cX4_shelf 69 = .ok (.aload_n 0, 1) := by decide +kernel
theorem dX4_shelf_70 : decode cX4_shelf 70 = .ok (.getfield 72, 3) := by decide +kernel
theorem dX4_shelf_73 : decode cX4_shelf 73 = .ok (.iload_n 3, 1) := by decide +kernel
theorem dX4_shelf_74 : decode cX4_shelf 74 = .ok (.iaload, 1) := by decide +kernel
theorem dX4_shelf_75 : decode cX4_shelf 75 = .ok (.ireturn, 1) := by decide +kernel
theorem dX4_heard_0 : decode cX4_heard 0 = .ok (.iload_n 1, 1) := by decide +kernel
theorem dX4_heard_1 : decode cX4_heard 1 = .ok (.invokestatic 137, 3) := by decide +kernel
theorem dX4_heard_4 : decode cX4_heard 4 = .ok (.ifCond .eq 13, 3) := by decide +kernel
theorem dX4_heard_7 : decode cX4_heard 7 = .ok (.iload_n 2, 1) := by decide +kernel
theorem dX4_heard_8 : decode cX4_heard 8 = .ok (.ifCond .lt 9, 3) := by decide +kernel
theorem dX4_heard_11 : decode cX4_heard 11 = .ok (.iload_n 2, 1) := by decide +kernel
theorem dX4_heard_12 : decode cX4_heard 12 = .ok (.bipush 9, 2) := by decide +kernel
theorem dX4_heard_14 : decode cX4_heard 14 = .ok (.if_icmp .le 6, 3) := by decide +kernel
theorem dX4_heard_17 : decode cX4_heard 17 = .ok (.bipush (-2), 2) := by decide +kernel
theorem dX4_heard_19 : decode cX4_heard 19 = .ok (.ireturn, 1) := by decide +kernel
theorem dX4_heard_20 : decode cX4_heard 20 = .ok (.aload_n 0, 1) := by decide +kernel
theorem dX4_heard_21 : decode cX4_heard 21 = .ok (.getfield 37, 3) := by decide +kernel
theorem dX4_heard_24 : decode cX4_heard 24 = .ok (.bipush 8, 2) := by decide +kernel
theorem dX4_heard_26 : decode cX4_heard 26 = .ok (.if_icmp .lt 6, 3) := by decide +kernel
theorem dX4_heard_29 : decode cX4_heard 29 = .ok (.bipush (-4), 2) := by decide +kernel
theorem dX4_heard_31 : decode cX4_heard 31 = .ok (.ireturn, 1) := by decide +kernel
theorem dX4_heard_32 : decode cX4_heard 32 = .ok (.aload_n 0, 1) := by decide +kernel
theorem dX4_heard_33 : decode cX4_heard 33 = .ok (.getfield 31, 3) := by decide +kernel
theorem dX4_heard_36 : decode cX4_heard 36 = .ok (.aload_n 0, 1) := by decide +kernel
theorem dX4_heard_37 : decode cX4_heard 37 = .ok (.getfield 37, 3) := by decide +kernel
theorem dX4_heard_40 : decode cX4_heard 40 = .ok (.iload_n 1, 1) := by decide +kernel
theorem dX4_heard_41 : decode cX4_heard 41 = .ok (.iastore, 1) := by decide +kernel
theorem dX4_heard_42 : decode cX4_heard 42 = .ok (.aload_n 0, 1) := by decide +kernel
theorem dX4_heard_43 : decode cX4_heard 43 = .ok (.getfield 34, 3) := by decide +kernel
theorem dX4_heard_46 : decode cX4_heard 46 = .ok (.aload_n 0, 1) := by decide +kernel
theorem dX4_heard_47 : decode cX4_heard 47 = .ok (.getfield 37, 3) := by decide +kernel
theorem dX4_heard_50 : decode cX4_heard 50 = .ok (.iload_n 2, 1) := by decide +kernel
theorem dX4_heard_51 : decode cX4_heard 51 = .ok (.iastore, 1) := by decide +kernel
theorem dX4_heard_52 : decode cX4_heard 52 = .ok (.aload_n 0, 1) := by decide +kernel
theorem dX4_heard_53 : decode cX4_heard 53 = .ok (.dup, 1) := by decide +kernel
theorem dX4_heard_54 : decode cX4_heard 54 = .ok (.getfield 37, 3) := by decide +kernel
theorem dX4_heard_57 : decode cX4_heard 57 = .ok (.iconst 1, 1) := by decide +kernel
theorem dX4_heard_58 : decode cX4_heard 58 = .ok (.iadd, 1) := by decide +kernel
theorem dX4_heard_59 : decode cX4_heard 59 = .ok (.putfield 37, 3) := by decide +kernel
theorem dX4_heard_62 : decode cX4_heard 62 = .ok (.aload_n 0, 1) := by decide +kernel
theorem dX4_heard_63 : decode cX4_heard 63 = .ok (.getfield 37, 3) := by decide +kernel
theorem dX4_heard_66 : decode cX4_heard 66 = .ok (.ireturn, 1) := by decide +kernel
theorem dX4_forget_0 : decode cX4_forget 0 = .ok (.aload_n 0, 1) := by decide +kernel
theorem dX4_forget_1 : decode cX4_forget 1 = .ok (.getfield 37, 3) := by decide +kernel
theorem dX4_forget_4 : decode cX4_forget 4 = .ok (.istore_n 1, 1) := by decide +kernel
theorem dX4_forget_5 : decode cX4_forget 5 = .ok (.aload_n 0, 1) := by decide +kernel
theorem dX4_forget_6 : decode cX4_forget 6 = .ok (.iconst 0, 1) := by decide +kernel
theorem dX4_forget_7 : decode cX4_forget 7 = .ok (.putfield 37, 3) := by decide +kernel
theorem dX4_forget_10 : decode cX4_forget 10 = .ok (.iload_n 1, 1) := by decide +kernel
theorem dX4_forget_11 : decode cX4_forget 11 = .ok (.ireturn, 1) := by decide +kernel
theorem dX4_learn_0 : decode cX4_learn 0 = .ok (.aload_n 0, 1) := by decide +kernel
theorem dX4_learn_1 : decode cX4_learn 1 = .ok (.iload_n 1, 1) := by decide +kernel
theorem dX4_learn_2 : decode cX4_learn 2 = .ok (.invokevirtual 89, 3) := by decide +kernel
theorem dX4_learn_5 : decode cX4_learn 5 = .ok (.ifCond .eq 14, 3) := by decide +kernel
theorem dX4_learn_8 : decode cX4_learn 8 = .ok (.iload_n 2, 1) := by decide +kernel
theorem dX4_learn_9 : decode cX4_learn 9 = .ok (.iconst (-1), 1) := by decide +kernel
theorem dX4_learn_10 : decode cX4_learn 10 = .ok (.if_icmp .lt 9, 3) := by decide +kernel
theorem dX4_learn_13 : decode cX4_learn 13 = .ok (.iload_n 2, 1) := by decide +kernel
theorem dX4_learn_14 : decode cX4_learn 14 = .ok (.bipush 37, 2) := by decide +kernel
theorem dX4_learn_16 : decode cX4_learn 16 = .ok (.if_icmp .lt 6, 3) := by decide +kernel
theorem dX4_learn_19 : decode cX4_learn 19 = .ok (.bipush (-2), 2) := by decide +kernel
theorem dX4_learn_21 : decode cX4_learn 21 = .ok (.ireturn, 1) := by decide +kernel
theorem dX4_learn_22 : decode cX4_learn 22 = .ok (.aload_n 0, 1) := by decide +kernel
theorem dX4_learn_23 : decode cX4_learn 23 = .ok (.iload_n 1, 1) := by decide +kernel
theorem dX4_learn_24 : decode cX4_learn 24 = .ok (.invokevirtual 180, 3) := by decide +kernel
theorem dX4_learn_27 : decode cX4_learn 27 = .ok (.istore_n 3, 1) := by decide +kernel
theorem dX4_learn_28 : decode cX4_learn 28 = .ok (.iload_n 2, 1) := by decide +kernel
theorem dX4_learn_29 : decode cX4_learn 29 = .ok (.iconst (-1), 1) := by decide +kernel
theorem dX4_learn_30 : decode cX4_learn 30 = .ok (.if_icmp .ne 5, 3) := by decide +kernel
theorem dX4_learn_33 : decode cX4_learn 33 = .ok (.iload_n 3, 1) := by decide +kernel
theorem dX4_learn_34 : decode cX4_learn 34 = .ok (.ireturn, 1) := by decide +kernel
theorem dX4_learn_35 : decode cX4_learn 35 = .ok (.iload_n 2, 1) := by decide +kernel
theorem dX4_learn_36 : decode cX4_learn 36 = .ok (.iload_n 3, 1) := by decide +kernel
theorem dX4_learn_37 : decode cX4_learn 37 = .ok (.if_icmp .ge 12, 3) := by decide +kernel
theorem dX4_learn_40 : decode cX4_learn 40 = .ok (.aload_n 0, 1) := by decide +kernel
theorem dX4_learn_41 : decode cX4_learn 41 = .ok (.getfield 63, 3) := by decide +kernel
theorem dX4_learn_44 : decode cX4_learn 44 = .ok (.iload_n 2, 1) := by decide +kernel
theorem dX4_learn_45 : decode cX4_learn 45 = .ok (.iaload, 1) := by decide +kernel
theorem dX4_learn_46 : decode cX4_learn 46 = .ok (.goto 4, 3) := by decide +kernel
theorem dX4_learn_49 : decode cX4_learn 49 = .ok (.iconst (-1), 1) := by decide +kernel
theorem dX4_learn_50 : decode cX4_learn 50 = .ok (.ireturn, 1) := by decide +kernel
theorem dX4_empty_0 : decode cX4_empty 0 = .ok (.aload_n 0, 1) := by decide +kernel
theorem dX4_empty_1 : decode cX4_empty 1 = .ok (.getfield 60, 3) := by decide +kernel
theorem dX4_empty_4 : decode cX4_empty 4 = .ok (.aload_n 0, 1) := by decide +kernel
theorem dX4_empty_5 : decode cX4_empty 5 = .ok (.getfield 12, 3) := by decide +kernel
theorem dX4_empty_8 : decode cX4_empty 8 = .ok (.aload_n 0, 1) := by decide +kernel
theorem dX4_empty_9 : decode cX4_empty 9 = .ok (.getfield 16, 3) := by decide +kernel
theorem dX4_empty_12 : decode cX4_empty 12 = .ok (.aload_n 0, 1) := by decide +kernel
theorem dX4_empty_13 : decode cX4_empty 13 = .ok (.getfield 20, 3) := by decide +kernel
theorem dX4_empty_16 : decode cX4_empty 16 = .ok (.aload_n 0, 1) := by decide +kernel
theorem dX4_empty_17 : decode cX4_empty 17 = .ok (.getfield 27, 3) := by decide +kernel
theorem dX4_empty_20 : decode cX4_empty 20 = .ok (.invokevirtual 161, 3) := by decide +kernel
theorem dX4_empty_23 : decode cX4_empty 23 = .ok (.aload_n 0, 1) := by decide +kernel
theorem dX4_empty_24 : decode cX4_empty 24 = .ok (.invokevirtual 183, 3) := by decide +kernel
theorem dX4_empty_27 : decode cX4_empty 27 = .ok (.istore_n 1, 1) := by decide +kernel
theorem dX4_empty_28 : decode cX4_empty 28 = .ok (.iconst 0, 1) := by decide +kernel
theorem dX4_empty_29 : decode cX4_empty 29 = .ok (.istore_n 2, 1) := by decide +kernel
theorem dX4_empty_30 : decode cX4_empty 30 = .ok (.iconst 0, 1) := by decide +kernel
theorem dX4_empty_31 : decode cX4_empty 31 = .ok (.istore_n 3, 1) := by decide +kernel
theorem dX4_empty_32 : decode cX4_empty 32 = .ok (.iload_n 3, 1) := by decide +kernel
theorem dX4_empty_33 : decode cX4_empty 33 = .ok (.aload_n 0, 1) := by decide +kernel
theorem dX4_empty_34 : decode cX4_empty 34 = .ok (.getfield 12, 3) := by decide +kernel
theorem dX4_empty_37 : decode cX4_empty 37 = .ok (.getfield 173, 3) := by decide +kernel
theorem dX4_empty_40 : decode cX4_empty 40 = .ok (.if_icmp .ge 62, 3) := by decide +kernel
theorem dX4_empty_43 : decode cX4_empty 43 = .ok (.aload_n 0, 1) := by decide +kernel
theorem dX4_empty_44 : decode cX4_empty 44 = .ok (.getfield 60, 3) := by decide +kernel
theorem dX4_empty_47 : decode cX4_empty 47 = .ok (.getfield 186, 3) := by decide +kernel
theorem dX4_empty_50 : decode cX4_empty 50 = .ok (.iload_n 3, 1) := by decide +kernel
theorem dX4_empty_51 : decode cX4_empty 51 = .ok (.iaload, 1) := by decide +kernel
theorem dX4_empty_52 : decode cX4_empty 52 = .ok (.istore 4, 2) := by decide +kernel
theorem dX4_empty_54 : decode cX4_empty 54 = .ok (.aload_n 0, 1) := by decide +kernel
theorem dX4_empty_55 : decode cX4_empty 55 = .ok (.getfield 60, 3) := by decide +kernel
theorem dX4_empty_58 : decode cX4_empty 58 = .ok (.getfield 186, 3) := by decide +kernel
theorem dX4_empty_61 : decode cX4_empty 61 = .ok (.iload_n 3, 1) := by decide +kernel
theorem dX4_empty_62 : decode cX4_empty 62 = .ok (.iconst 4, 1) := by decide +kernel
theorem dX4_empty_63 : decode cX4_empty 63 = .ok (.iastore, 1) := by decide +kernel
theorem dX4_empty_64 : decode cX4_empty 64 = .ok (.aload_n 0, 1) := by decide +kernel
theorem dX4_empty_65 : decode cX4_empty 65 = .ok (.getfield 60, 3) := by decide +kernel
theorem dX4_empty_68 : decode cX4_empty 68 = .ok (.iload_n 1, 1) := by decide +kernel
theorem dX4_empty_69 : decode cX4_empty 69 = .ok (.invokevirtual 187, 3) := by decide +kernel
theorem dX4_empty_72 : decode cX4_empty 72 = .ok (.aload_n 0, 1) := by decide +kernel
theorem dX4_empty_73 : decode cX4_empty 73 = .ok (.invokevirtual 191, 3) := by decide +kernel
theorem dX4_empty_76 : decode cX4_empty 76 = .ok (.ifCond .eq 9, 3) := by decide +kernel
theorem dX4_empty_79 : decode cX4_empty 79 = .ok (.iload_n 2, 1) := by decide +kernel
theorem dX4_empty_80 : decode cX4_empty 80 = .ok (.iconst 1, 1) := by decide +kernel
theorem dX4_empty_81 : decode cX4_empty 81 = .ok (.iload_n 3, 1) := by decide +kernel
theorem dX4_empty_82 : decode cX4_empty 82 = .ok (.ishl, 1) := by decide +kernel
theorem dX4_empty_83 : decode cX4_empty 83 = .ok (.ior, 1) := by decide +kernel
theorem dX4_empty_84 : decode cX4_empty 84 = .ok (.istore_n 2, 1) := by decide +kernel
theorem dX4_empty_85 : decode cX4_empty 85 = .ok (.aload_n 0, 1) := by decide +kernel
theorem dX4_empty_86 : decode cX4_empty 86 = .ok (.getfield 60, 3) := by decide +kernel
theorem dX4_empty_89 : decode cX4_empty 89 = .ok (.getfield 186, 3) := by decide +kernel
theorem dX4_empty_92 : decode cX4_empty 92 = .ok (.iload_n 3, 1) := by decide +kernel
theorem dX4_empty_93 : decode cX4_empty 93 = .ok (.iload 4, 2) := by decide +kernel
theorem dX4_empty_95 : decode cX4_empty 95 = .ok (.iastore, 1) := by decide +kernel
theorem dX4_empty_96 : decode cX4_empty 96 = .ok (.iinc 3 1, 3) := by decide +kernel
theorem dX4_empty_99 : decode cX4_empty 99 = .ok (.goto (-67), 3) := by decide +kernel
theorem dX4_empty_102 : decode cX4_empty 102 = .ok (.iload_n 2, 1) := by decide +kernel
theorem dX4_empty_103 : decode cX4_empty 103 = .ok (.ireturn, 1) := by decide +kernel
theorem dX4_turn_0 : decode cX4_turn 0 = .ok (.aload_n 0, 1) := by decide +kernel
theorem dX4_turn_1 : decode cX4_turn 1 = .ok (.iload_n 1, 1) := by decide +kernel
theorem dX4_turn_2 : decode cX4_turn 2 = .ok (.invokevirtual 89, 3) := by decide +kernel
theorem dX4_turn_5 : decode cX4_turn 5 = .ok (.ifCond .eq 10, 3) := by decide +kernel
theorem dX4_turn_8 : decode cX4_turn 8 = .ok (.iload_n 2, 1) := by decide +kernel
theorem dX4_turn_9 : decode cX4_turn 9 = .ok (.invokestatic 137, 3) := by decide +kernel
theorem dX4_turn_12 : decode cX4_turn 12 = .ok (.ifCond .ne 6, 3) := by decide +kernel
theorem dX4_turn_15 : decode cX4_turn 15 = .ok (.bipush (-2), 2) := by decide +kernel
theorem dX4_turn_17 : decode cX4_turn 17 = .ok (.ireturn, 1) := by decide +kernel
theorem dX4_turn_18 : decode cX4_turn 18 = .ok (.aload_n 0, 1) := by decide +kernel
theorem dX4_turn_19 : decode cX4_turn 19 = .ok (.iload_n 1, 1) := by decide +kernel
theorem dX4_turn_20 : decode cX4_turn 20 = .ok (.invokevirtual 180, 3) := by decide +kernel
theorem dX4_turn_23 : decode cX4_turn 23 = .ok (.istore_n 3, 1) := by decide +kernel
theorem dX4_turn_24 : decode cX4_turn 24 = .ok (.iconst (-1), 1) := by decide +kernel
theorem dX4_turn_25 : decode cX4_turn 25 = .ok (.istore 4, 2) := by decide +kernel
theorem dX4_turn_27 : decode cX4_turn 27 = .ok (.iconst 0, 1) := by decide +kernel
theorem dX4_turn_28 : decode cX4_turn 28 = .ok (.istore 5, 2) := by decide +kernel
theorem dX4_turn_30 : decode cX4_turn 30 = .ok (.iconst 0, 1) := by decide +kernel
theorem dX4_turn_31 : decode cX4_turn 31 = .ok (.istore 6, 2) := by decide +kernel
theorem dX4_turn_33 : decode cX4_turn 33 = .ok (.iload 6, 2) := by decide +kernel
theorem dX4_turn_35 : decode cX4_turn 35 = .ok (.aload_n 0, 1) := by decide +kernel
theorem dX4_turn_36 : decode cX4_turn 36 = .ok (.getfield 12, 3) := by decide +kernel
theorem dX4_turn_39 : decode cX4_turn 39 = .ok (.getfield 173, 3) := by decide +kernel
theorem dX4_turn_42 : decode cX4_turn 42 = .ok (.if_icmp .ge 41, 3) := by decide +kernel
theorem dX4_turn_45 : decode cX4_turn 45 = .ok (.aload_n 0, 1) := by decide +kernel
theorem dX4_turn_46 : decode cX4_turn 46 = .ok (.iload_n 1, 1) := by decide +kernel
theorem dX4_turn_47 : decode cX4_turn 47 = .ok (.iload_n 2, 1) := by decide +kernel
theorem dX4_turn_48 : decode cX4_turn 48 = .ok (.iload 6, 2) := by decide +kernel
theorem dX4_turn_50 : decode cX4_turn 50 = .ok (.iload_n 3, 1) := by decide +kernel
theorem dX4_turn_51 : decode cX4_turn 51 = .ok (.invokevirtual 195, 3) := by decide +kernel
theorem dX4_turn_54 : decode cX4_turn 54 = .ok (.istore 7, 2) := by decide +kernel
theorem dX4_turn_56 : decode cX4_turn 56 = .ok (.iload 4, 2) := by decide +kernel
theorem dX4_turn_58 : decode cX4_turn 58 = .ok (.iconst (-1), 1) := by decide +kernel
theorem dX4_turn_59 : decode cX4_turn 59 = .ok (.if_icmp .eq 10, 3) := by decide +kernel
theorem dX4_turn_62 : decode cX4_turn 62 = .ok (.iload 7, 2) := by decide +kernel
theorem dX4_turn_64 : decode cX4_turn 64 = .ok (.iload 5, 2) := by decide +kernel
theorem dX4_turn_66 : decode cX4_turn 66 = .ok (.if_icmp .ge 11, 3) := by decide +kernel
theorem dX4_turn_69 : decode cX4_turn 69 = .ok (.iload 6, 2) := by decide +kernel
theorem dX4_turn_71 : decode cX4_turn 71 = .ok (.istore 4, 2) := by decide +kernel
theorem dX4_turn_73 : decode cX4_turn 73 = .ok (.iload 7, 2) := by decide +kernel
theorem dX4_turn_75 : decode cX4_turn 75 = .ok (.istore 5, 2) := by decide +kernel
theorem dX4_turn_77 : decode cX4_turn 77 = .ok (.iinc 6 1, 3) := by decide +kernel
theorem dX4_turn_80 : decode cX4_turn 80 = .ok (.goto (-47), 3) := by decide +kernel
theorem dX4_turn_83 : decode cX4_turn 83 = .ok (.iload 4, 2) := by decide +kernel
theorem dX4_turn_85 : decode cX4_turn 85 = .ok (.ireturn, 1) := by decide +kernel
theorem dX4_looks_0 : decode cX4_looks 0 = .ok (.iload_n 1, 1) := by decide +kernel
theorem dX4_looks_1 : decode cX4_looks 1 = .ok (.ifCond .lt 35, 3) := by decide +kernel
theorem dX4_looks_4 : decode cX4_looks 4 = .ok (.iload_n 1, 1) := by decide +kernel
theorem dX4_looks_5 : decode cX4_looks 5 = .ok (.bipush 16, 2) := by decide +kernel
theorem dX4_looks_7 : decode cX4_looks 7 = .ok (.if_icmp .gt 29, 3) := by decide +kernel
theorem dX4_looks_10 : decode cX4_looks 10 = .ok (.aload_n 0, 1) := by decide +kernel
theorem dX4_looks_11 : decode cX4_looks 11 = .ok (.iload_n 2, 1) := by decide +kernel
theorem dX4_looks_12 : decode cX4_looks 12 = .ok (.invokevirtual 89, 3) := by decide +kernel
theorem dX4_looks_15 : decode cX4_looks 15 = .ok (.ifCond .eq 21, 3) := by decide +kernel
theorem dX4_looks_18 : decode cX4_looks 18 = .ok (.iload_n 3, 1) := by decide +kernel
theorem dX4_looks_19 : decode cX4_looks 19 = .ok (.ifCond .lt 17, 3) := by decide +kernel
theorem dX4_looks_22 : decode cX4_looks 22 = .ok (.iload_n 3, 1) := by decide +kernel
theorem dX4_looks_23 : decode cX4_looks 23 = .ok (.bipush 9, 2) := by decide +kernel
theorem dX4_looks_25 : decode cX4_looks 25 = .ok (.if_icmp .gt 11, 3) := by decide +kernel
theorem dX4_looks_28 : decode cX4_looks 28 = .ok (.iload 4, 2) := by decide +kernel
theorem dX4_looks_30 : decode cX4_looks 30 = .ok (.invokestatic 140, 3) := by decide +kernel
theorem dX4_looks_33 : decode cX4_looks 33 = .ok (.ifCond .ne 7, 3) := by decide +kernel
theorem dX4_looks_36 : decode cX4_looks 36 = .ok (.ldc2_w 199, 3) := by decide +kernel
theorem dX4_looks_39 : decode cX4_looks 39 = .ok (.lreturn, 1) := by decide +kernel
theorem dX4_looks_40 : decode cX4_looks 40 = .ok (.iload_n 3, 1) := by decide +kernel
theorem dX4_looks_41 : decode cX4_looks 41 = .ok (.invokestatic 201, 3) := by decide +kernel
theorem dX4_looks_44 : decode cX4_looks 44 = .ok (.lstore 5, 2) := by decide +kernel
theorem dX4_looks_46 : decode cX4_looks 46 = .ok (.aload_n 0, 1) := by decide +kernel
theorem dX4_looks_47 : decode cX4_looks 47 = .ok (.iload_n 1, 1) := by decide +kernel
theorem dX4_looks_48 : decode cX4_looks 48 = .ok (.iload_n 2, 1) := by decide +kernel
theorem dX4_looks_49 : decode cX4_looks 49 = .ok (.iload_n 3, 1) := by decide +kernel
theorem dX4_looks_50 : decode cX4_looks 50 = .ok (.invokevirtual 205, 3) := by decide +kernel
theorem dX4_looks_53 : decode cX4_looks 53 = .ok (.lstore 7, 2) := by decide +kernel
theorem dX4_looks_55 : decode cX4_looks 55 = .ok (.lload 7, 2) := by decide +kernel
theorem dX4_looks_57 : decode cX4_looks 57 = .ok (.lload 5, 2) := by decide +kernel
theorem dX4_looks_59 : decode cX4_looks 59 = .ok (.invokestatic 209, 3) := by decide +kernel
theorem dX4_looks_62 : decode cX4_looks 62 = .ok (.lstore 9, 2) := by decide +kernel
theorem dX4_looks_64 : decode cX4_looks 64 = .ok (.lload 9, 2) := by decide +kernel
theorem dX4_looks_66 : decode cX4_looks 66 = .ok (.lconst 0, 1) := by decide +kernel
theorem dX4_looks_67 : decode cX4_looks 67 = .ok (.lcmp, 1) := by decide +kernel
theorem dX4_looks_68 : decode cX4_looks 68 = .ok (.ifCond .ne 7, 3) := by decide +kernel
theorem dX4_looks_71 : decode cX4_looks 71 = .ok (.ldc2_w 199, 3) := by decide +kernel
theorem dX4_looks_74 : decode cX4_looks 74 = .ok (.lreturn, 1) := by decide +kernel
theorem dX4_looks_75 : decode cX4_looks 75 = .ok (.iload 4, 2) := by decide +kernel
theorem dX4_looks_77 : decode cX4_looks 77 = .ok (.ifCond .ne 8, 3) := by decide +kernel
theorem dX4_looks_80 : decode cX4_looks 80 = .ok (.lload 7, 2) := by decide +kernel
theorem dX4_looks_82 : decode cX4_looks 82 = .ok (.goto 5, 3) := by decide +kernel
theorem dX4_looks_85 : decode cX4_looks 85 = .ok (.lload 5, 2) := by decide +kernel
theorem dX4_looks_87 : decode cX4_looks 87 = .ok (.lload 9, 2) := by decide +kernel
theorem dX4_looks_89 : decode cX4_looks 89 = .ok (.ldiv, 1) := by decide +kernel
theorem dX4_looks_90 : decode cX4_looks 90 = .ok (.lreturn, 1) := by decide +kernel
theorem dX4_night_0 : decode cX4_night 0 = .ok (.iload_n 2, 1) := by decide +kernel
theorem dX4_night_1 : decode cX4_night 1 = .ok (.invokestatic 137, 3) := by decide +kernel
theorem dX4_night_4 : decode cX4_night 4 = .ok (.ifCond .eq 10, 3) := by decide +kernel
theorem dX4_night_7 : decode cX4_night 7 = .ok (.iload_n 3, 1) := by decide +kernel
theorem dX4_night_8 : decode cX4_night 8 = .ok (.invokestatic 140, 3) := by decide +kernel
theorem dX4_night_11 : decode cX4_night 11 = .ok (.ifCond .ne 6, 3) := by decide +kernel
theorem dX4_night_14 : decode cX4_night 14 = .ok (.bipush (-2), 2) := by decide +kernel
theorem dX4_night_16 : decode cX4_night 16 = .ok (.ireturn, 1) := by decide +kernel
theorem dX4_night_17 : decode cX4_night 17 = .ok (.aload_n 0, 1) := by decide +kernel
theorem dX4_night_18 : decode cX4_night 18 = .ok (.getfield 60, 3) := by decide +kernel
theorem dX4_night_21 : decode cX4_night 21 = .ok (.aload_n 0, 1) := by decide +kernel
theorem dX4_night_22 : decode cX4_night 22 = .ok (.getfield 12, 3) := by decide +kernel
theorem dX4_night_25 : decode cX4_night 25 = .ok (.aload_n 0, 1) := by decide +kernel
theorem dX4_night_26 : decode cX4_night 26 = .ok (.getfield 16, 3) := by decide +kernel
theorem dX4_night_29 : decode cX4_night 29 = .ok (.aload_n 0, 1) := by decide +kernel
theorem dX4_night_30 : decode cX4_night 30 = .ok (.getfield 20, 3) := by decide +kernel
theorem dX4_night_33 : decode cX4_night 33 = .ok (.aload_n 0, 1) := by decide +kernel
theorem dX4_night_34 : decode cX4_night 34 = .ok (.getfield 27, 3) := by decide +kernel
theorem dX4_night_37 : decode cX4_night 37 = .ok (.invokevirtual 161, 3) := by decide +kernel
theorem dX4_night_40 : decode cX4_night 40 = .ok (.iload_n 1, 1) := by decide +kernel
theorem dX4_night_41 : decode cX4_night 41 = .ok (.istore 4, 2) := by decide +kernel
theorem dX4_night_43 : decode cX4_night 43 = .ok (.iconst 0, 1) := by decide +kernel
theorem dX4_night_44 : decode cX4_night 44 = .ok (.istore 5, 2) := by decide +kernel
theorem dX4_night_46 : decode cX4_night 46 = .ok (.iload 5, 2) := by decide +kernel
theorem dX4_night_48 : decode cX4_night 48 = .ok (.iload_n 2, 1) := by decide +kernel
theorem dX4_night_49 : decode cX4_night 49 = .ok (.if_icmp .gt 60, 3) := by decide +kernel
theorem dX4_night_52 : decode cX4_night 52 = .ok (.aload_n 0, 1) := by decide +kernel
theorem dX4_night_53 : decode cX4_night 53 = .ok (.getfield 12, 3) := by decide +kernel
theorem dX4_night_56 : decode cX4_night 56 = .ok (.getfield 173, 3) := by decide +kernel
theorem dX4_night_59 : decode cX4_night 59 = .ok (.ifCond .le 50, 3) := by decide +kernel
theorem dX4_night_62 : decode cX4_night 62 = .ok (.ldc 213, 2) := by decide +kernel
theorem dX4_night_64 : decode cX4_night 64 = .ok (.iload 4, 2) := by decide +kernel
theorem dX4_night_66 : decode cX4_night 66 = .ok (.imul, 1) := by decide +kernel
theorem dX4_night_67 : decode cX4_night 67 = .ok (.sipush 12345, 3) := by decide +kernel
theorem dX4_night_70 : decode cX4_night 70 = .ok (.iadd, 1) := by decide +kernel
theorem dX4_night_71 : decode cX4_night 71 = .ok (.istore 4, 2) := by decide +kernel
theorem dX4_night_73 : decode cX4_night 73 = .ok (.aload_n 0, 1) := by decide +kernel
theorem dX4_night_74 : decode cX4_night 74 = .ok (.getfield 60, 3) := by decide +kernel
theorem dX4_night_77 : decode cX4_night 77 = .ok (.getfield 214, 3) := by decide +kernel
theorem dX4_night_80 : decode cX4_night 80 = .ok (.iconst 0, 1) := by decide +kernel
theorem dX4_night_81 : decode cX4_night 81 = .ok (.aaload, 1) := by decide +kernel
theorem dX4_night_82 : decode cX4_night 82 = .ok (.iload 5, 2) := by decide +kernel
theorem dX4_night_84 : decode cX4_night 84 = .ok (.dup2, 1) := by decide +kernel
theorem dX4_night_85 : decode cX4_night 85 = .ok (.iaload, 1) := by decide +kernel
theorem dX4_night_86 : decode cX4_night 86 = .ok (.iconst 1, 1) := by decide +kernel
theorem dX4_night_87 : decode cX4_night 87 = .ok (.iload 4, 2) := by decide +kernel
theorem dX4_night_89 : decode cX4_night 89 = .ok (.bipush 16, 2) := by decide +kernel
theorem dX4_night_91 : decode cX4_night 91 = .ok (.iushr, 1) := by decide +kernel
theorem dX4_night_92 : decode cX4_night 92 = .ok (.aload_n 0, 1) := by decide +kernel
theorem dX4_night_93 : decode cX4_night 93 = .ok (.getfield 12, 3) := by decide +kernel
theorem dX4_night_96 : decode cX4_night 96 = .ok (.getfield 173, 3) := by decide +kernel
theorem dX4_night_99 : decode cX4_night 99 = .ok (.irem, 1) := by decide +kernel
theorem dX4_night_100 : decode cX4_night 100 = .ok (.ishl, 1) := by decide +kernel
theorem dX4_night_101 : decode cX4_night 101 = .ok (.ior, 1) := by decide +kernel
theorem dX4_night_102 : decode cX4_night 102 = .ok (.iastore, 1) := by decide +kernel
theorem dX4_night_103 : decode cX4_night 103 = .ok (.iinc 5 1, 3) := by decide +kernel
theorem dX4_night_106 : decode cX4_night 106 = .ok (.goto (-60), 3) := by decide +kernel
theorem dX4_night_109 : decode cX4_night 109 = .ok (.aload_n 0, 1) := by decide +kernel
theorem dX4_night_110 : decode cX4_night 110 = .ok (.getfield 60, 3) := by decide +kernel
theorem dX4_night_113 : decode cX4_night 113 = .ok (.iload_n 2, 1) := by decide +kernel
theorem dX4_night_114 : decode cX4_night 114 = .ok (.invokevirtual 187, 3) := by decide +kernel
theorem dX4_night_117 : decode cX4_night 117 = .ok (.iload_n 3, 1) := by decide +kernel
theorem dX4_night_118 : decode cX4_night 118 = .ok (.ifCond .ne 14, 3) := by decide +kernel
theorem dX4_night_121 : decode cX4_night 121 = .ok (.aload_n 0, 1) := by decide +kernel
theorem dX4_night_122 : decode cX4_night 122 = .ok (.getfield 60, 3) := by decide +kernel
theorem dX4_night_125 : decode cX4_night 125 = .ok (.iload_n 2, 1) := by decide +kernel
theorem dX4_night_126 : decode cX4_night 126 = .ok (.invokevirtual 218, 3) := by decide +kernel
theorem dX4_night_129 : decode cX4_night 129 = .ok (.goto 12, 3) := by decide +kernel
theorem dX4_night_132 : decode cX4_night 132 = .ok (.aload_n 0, 1) := by decide +kernel
theorem dX4_night_133 : decode cX4_night 133 = .ok (.getfield 60, 3) := by decide +kernel
theorem dX4_night_136 : decode cX4_night 136 = .ok (.getfield 149, 3) := by decide +kernel
theorem dX4_night_139 : decode cX4_night 139 = .ok (.iload_n 2, 1) := by decide +kernel
theorem dX4_night_140 : decode cX4_night 140 = .ok (.iaload, 1) := by decide +kernel
theorem dX4_night_141 : decode cX4_night 141 = .ok (.ireturn, 1) := by decide +kernel
theorem dX4_sheet_0 : decode cX4_sheet 0 = .ok (.iload_n 1, 1) := by decide +kernel
theorem dX4_sheet_1 : decode cX4_sheet 1 = .ok (.invokestatic 120, 3) := by decide +kernel
theorem dX4_sheet_4 : decode cX4_sheet 4 = .ok (.ifCond .eq 16, 3) := by decide +kernel
theorem dX4_sheet_7 : decode cX4_sheet 7 = .ok (.iload_n 2, 1) := by decide +kernel
theorem dX4_sheet_8 : decode cX4_sheet 8 = .ok (.invokestatic 221, 3) := by decide +kernel
theorem dX4_sheet_11 : decode cX4_sheet 11 = .ok (.ifCond .eq 9, 3) := by decide +kernel
theorem dX4_sheet_14 : decode cX4_sheet 14 = .ok (.iload_n 3, 1) := by decide +kernel
theorem dX4_sheet_15 : decode cX4_sheet 15 = .ok (.bipush 60, 2) := by decide +kernel
theorem dX4_sheet_17 : decode cX4_sheet 17 = .ok (.if_icmp .le 6, 3) := by decide +kernel
theorem dX4_sheet_20 : decode cX4_sheet 20 = .ok (.bipush (-2), 2) := by decide +kernel
theorem dX4_sheet_22 : decode cX4_sheet 22 = .ok (.ireturn, 1) := by decide +kernel
theorem dX4_sheet_23 : decode cX4_sheet 23 = .ok (.iload_n 3, 1) := by decide +kernel
theorem dX4_sheet_24 : decode cX4_sheet 24 = .ok (.ifCond .ge 9, 3) := by decide +kernel
theorem dX4_sheet_27 : decode cX4_sheet 27 = .ok (.aload_n 0, 1) := by decide +kernel
theorem dX4_sheet_28 : decode cX4_sheet 28 = .ok (.iconst 5, 1) := by decide +kernel
theorem dX4_sheet_29 : decode cX4_sheet 29 = .ok (.invokevirtual 126, 3) := by decide +kernel
theorem dX4_sheet_32 : decode cX4_sheet 32 = .ok (.ireturn, 1) := by decide +kernel
theorem dX4_sheet_33 : decode cX4_sheet 33 = .ok (.aload_n 0, 1) := by decide +kernel
theorem dX4_sheet_34 : decode cX4_sheet 34 = .ok (.getfield 42, 3) := by decide +kernel
theorem dX4_sheet_37 : decode cX4_sheet 37 = .ok (.iload_n 1, 1) := by decide +kernel
theorem dX4_sheet_38 : decode cX4_sheet 38 = .ok (.aaload, 1) := by decide +kernel
theorem dX4_sheet_39 : decode cX4_sheet 39 = .ok (.iload_n 2, 1) := by decide +kernel
theorem dX4_sheet_40 : decode cX4_sheet 40 = .ok (.iload_n 3, 1) := by decide +kernel
theorem dX4_sheet_41 : decode cX4_sheet 41 = .ok (.invokevirtual 224, 3) := by decide +kernel
theorem dX4_sheet_44 : decode cX4_sheet 44 = .ok (.iload_n 3, 1) := by decide +kernel
theorem dX4_sheet_45 : decode cX4_sheet 45 = .ok (.ireturn, 1) := by decide +kernel
theorem dX4_lose_0 : decode cX4_lose 0 = .ok (.iload_n 1, 1) := by decide +kernel
theorem dX4_lose_1 : decode cX4_lose 1 = .ok (.invokestatic 120, 3) := by decide +kernel
theorem dX4_lose_4 : decode cX4_lose 4 = .ok (.ifCond .ne 6, 3) := by decide +kernel
theorem dX4_lose_7 : decode cX4_lose 7 = .ok (.bipush (-2), 2) := by decide +kernel
theorem dX4_lose_9 : decode cX4_lose 9 = .ok (.ireturn, 1) := by decide +kernel
theorem dX4_lose_10 : decode cX4_lose 10 = .ok (.aload_n 0, 1) := by decide +kernel
theorem dX4_lose_11 : decode cX4_lose 11 = .ok (.getfield 42, 3) := by decide +kernel
theorem dX4_lose_14 : decode cX4_lose 14 = .ok (.iload_n 1, 1) := by decide +kernel
theorem dX4_lose_15 : decode cX4_lose 15 = .ok (.aaload, 1) := by decide +kernel
theorem dX4_lose_16 : decode cX4_lose 16 = .ok (.getfield 123, 3) := by decide +kernel
theorem dX4_lose_19 : decode cX4_lose 19 = .ok (.ifCond .eq 9, 3) := by decide +kernel
theorem dX4_lose_22 : decode cX4_lose 22 = .ok (.aload_n 0, 1) := by decide +kernel
theorem dX4_lose_23 : decode cX4_lose 23 = .ok (.iconst 1, 1) := by decide +kernel
theorem dX4_lose_24 : decode cX4_lose 24 = .ok (.invokevirtual 126, 3) := by decide +kernel
theorem dX4_lose_27 : decode cX4_lose 27 = .ok (.ireturn, 1) := by decide +kernel
theorem dX4_lose_28 : decode cX4_lose 28 = .ok (.aload_n 0, 1) := by decide +kernel
theorem dX4_lose_29 : decode cX4_lose 29 = .ok (.getfield 42, 3) := by decide +kernel
theorem dX4_lose_32 : decode cX4_lose 32 = .ok (.iload_n 1, 1) := by decide +kernel
theorem dX4_lose_33 : decode cX4_lose 33 = .ok (.aaload, 1) := by decide +kernel
theorem dX4_lose_34 : decode cX4_lose 34 = .ok (.iconst 1, 1) := by decide +kernel
theorem dX4_lose_35 : decode cX4_lose 35 = .ok (.putfield 123, 3) := by decide +kernel
theorem dX4_lose_38 : decode cX4_lose 38 = .ok (.aload_n 0, 1) := by decide +kernel
theorem dX4_lose_39 : decode cX4_lose 39 = .ok (.getfield 42, 3) := by decide +kernel
theorem dX4_lose_42 : decode cX4_lose 42 = .ok (.iload_n 1, 1) := by decide +kernel
theorem dX4_lose_43 : decode cX4_lose 43 = .ok (.aaload, 1) := by decide +kernel
theorem dX4_lose_44 : decode cX4_lose 44 = .ok (.getfield 129, 3) := by decide +kernel
theorem dX4_lose_47 : decode cX4_lose 47 = .ok (.ireturn, 1) := by decide +kernel
theorem dX4_lay_0 : decode cX4_lay 0 = .ok (.iload_n 1, 1) := by decide +kernel
theorem dX4_lay_1 : decode cX4_lay 1 = .ok (.invokestatic 120, 3) := by decide +kernel
theorem dX4_lay_4 : decode cX4_lay 4 = .ok (.ifCond .eq 10, 3) := by decide +kernel
theorem dX4_lay_7 : decode cX4_lay 7 = .ok (.iload_n 2, 1) := by decide +kernel
theorem dX4_lay_8 : decode cX4_lay 8 = .ok (.invokestatic 221, 3) := by decide +kernel
theorem dX4_lay_11 : decode cX4_lay 11 = .ok (.ifCond .ne 6, 3) := by decide +kernel
theorem dX4_lay_14 : decode cX4_lay 14 = .ok (.bipush (-2), 2) := by decide +kernel
theorem dX4_lay_16 : decode cX4_lay 16 = .ok (.ireturn, 1) := by decide +kernel
theorem dX4_lay_17 : decode cX4_lay 17 = .ok (.aload_n 0, 1) := by decide +kernel
theorem dX4_lay_18 : decode cX4_lay 18 = .ok (.getfield 42, 3) := by decide +kernel
theorem dX4_lay_21 : decode cX4_lay 21 = .ok (.iload_n 1, 1) := by decide +kernel
theorem dX4_lay_22 : decode cX4_lay 22 = .ok (.aaload, 1) := by decide +kernel
theorem dX4_lay_23 : decode cX4_lay 23 = .ok (.iload_n 2, 1) := by decide +kernel
theorem dX4_lay_24 : decode cX4_lay 24 = .ok (.iload_n 3, 1) := by decide +kernel
theorem dX4_lay_25 : decode cX4_lay 25 = .ok (.invokevirtual 228, 3) := by decide +kernel
theorem dX4_lay_28 : decode cX4_lay 28 = .ok (.istore 5, 2) := by decide +kernel
theorem dX4_lay_30 : decode cX4_lay 30 = .ok (.iload 5, 2) := by decide +kernel
theorem dX4_lay_32 : decode cX4_lay 32 = .ok (.ifCond .eq 10, 3) := by decide +kernel
theorem dX4_lay_35 : decode cX4_lay 35 = .ok (.aload_n 0, 1) := by decide +kernel
theorem dX4_lay_36 : decode cX4_lay 36 = .ok (.iload 5, 2) := by decide +kernel
theorem dX4_lay_38 : decode cX4_lay 38 = .ok (.invokevirtual 126, 3) := by decide +kernel
theorem dX4_lay_41 : decode cX4_lay 41 = .ok (.ireturn, 1) := by decide +kernel
theorem dX4_lay_42 : decode cX4_lay 42 = .ok (.aload_n 0, 1) := by decide +kernel
theorem dX4_lay_43 : decode cX4_lay 43 = .ok (.getfield 42, 3) := by decide +kernel
theorem dX4_lay_46 : decode cX4_lay 46 = .ok (.iload_n 1, 1) := by decide +kernel
