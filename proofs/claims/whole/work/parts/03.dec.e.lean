theorem dX5_plain_109 : decode cX5_plain 109 = .ok (.iload_n 1, 1) := by decide +kernel
theorem dX5_plain_110 : decode cX5_plain 110 = .ok (.aload_n 0, 1) := by decide +kernel
theorem dX5_plain_111 : decode cX5_plain 111 = .ok (.getfield 148, 3) := by decide +kernel
theorem dX5_plain_114 : decode cX5_plain 114 = .ok (.if_icmp .ge 50, 3) := by decide +kernel
theorem dX5_plain_117 : decode cX5_plain 117 = .ok (.aload_n 0, 1) := by decide +kernel
theorem dX5_plain_118 : decode cX5_plain 118 = .ok (.getfield 34, 3) := by decide +kernel
theorem dX5_plain_121 : decode cX5_plain 121 = .ok (.iconst 3, 1) := by decide +kernel
theorem dX5_plain_122 : decode cX5_plain 122 = .ok (.aload_n 0, 1) := by decide +kernel
theorem dX5_plain_123 : decode cX5_plain 123 = .ok (.getfield 31, 3) := by decide +kernel
theorem dX5_plain_126 : decode cX5_plain 126 = .ok (.iconst 3, 1) := by decide +kernel
theorem dX5_plain_127 : decode cX5_plain 127 = .ok (.iload_n 1, 1) := by decide +kernel
theorem dX5_plain_128 : decode cX5_plain 128 = .ok (.imul, 1) := by decide +kernel
theorem dX5_plain_129 : decode cX5_plain 129 = .ok (.iaload, 1) := by decide +kernel
theorem dX5_plain_130 : decode cX5_plain 130 = .ok (.imul, 1) := by decide +kernel
theorem dX5_plain_131 : decode cX5_plain 131 = .ok (.aload_n 0, 1) := by decide +kernel
theorem dX5_plain_132 : decode cX5_plain 132 = .ok (.getfield 31, 3) := by decide +kernel
theorem dX5_plain_135 : decode cX5_plain 135 = .ok (.iconst 3, 1) := by decide +kernel
theorem dX5_plain_136 : decode cX5_plain 136 = .ok (.iload_n 1, 1) := by decide +kernel
theorem dX5_plain_137 : decode cX5_plain 137 = .ok (.imul, 1) := by decide +kernel
theorem dX5_plain_138 : decode cX5_plain 138 = .ok (.iconst 2, 1) := by decide +kernel
theorem dX5_plain_139 : decode cX5_plain 139 = .ok (.iadd, 1) := by decide +kernel
theorem dX5_plain_140 : decode cX5_plain 140 = .ok (.iaload, 1) := by decide +kernel
theorem dX5_plain_141 : decode cX5_plain 141 = .ok (.iadd, 1) := by decide +kernel
theorem dX5_plain_142 : decode cX5_plain 142 = .ok (.dup2, 1) := by decide +kernel
theorem dX5_plain_143 : decode cX5_plain 143 = .ok (.iaload, 1) := by decide +kernel
theorem dX5_plain_144 : decode cX5_plain 144 = .ok (.iconst 1, 1) := by decide +kernel
theorem dX5_plain_145 : decode cX5_plain 145 = .ok (.aload_n 0, 1) := by decide +kernel
theorem dX5_plain_146 : decode cX5_plain 146 = .ok (.getfield 31, 3) := by decide +kernel
theorem dX5_plain_149 : decode cX5_plain 149 = .ok (.iconst 3, 1) := by decide +kernel
theorem dX5_plain_150 : decode cX5_plain 150 = .ok (.iload_n 1, 1) := by decide +kernel
theorem dX5_plain_151 : decode cX5_plain 151 = .ok (.imul, 1) := by decide +kernel
theorem dX5_plain_152 : decode cX5_plain 152 = .ok (.iconst 1, 1) := by decide +kernel
theorem dX5_plain_153 : decode cX5_plain 153 = .ok (.iadd, 1) := by decide +kernel
theorem dX5_plain_154 : decode cX5_plain 154 = .ok (.iaload, 1) := by decide +kernel
theorem dX5_plain_155 : decode cX5_plain 155 = .ok (.ishl, 1) := by decide +kernel
theorem dX5_plain_156 : decode cX5_plain 156 = .ok (.ior, 1) := by decide +kernel
theorem dX5_plain_157 : decode cX5_plain 157 = .ok (.iastore, 1) := by decide +kernel
theorem dX5_plain_158 : decode cX5_plain 158 = .ok (.iinc 1 1, 3) := by decide +kernel
theorem dX5_plain_161 : decode cX5_plain 161 = .ok (.goto (-52), 3) := by decide +kernel
theorem dX5_plain_164 : decode cX5_plain 164 = .ok (.return_, 1) := by decide +kernel
theorem dX5_isNear_0 : decode cX5_isNear 0 = .ok (.iconst 0, 1) := by decide +kernel
theorem dX5_isNear_1 : decode cX5_isNear 1 = .ok (.istore_n 3, 1) := by decide +kernel
theorem dX5_isNear_2 : decode cX5_isNear 2 = .ok (.iconst 0, 1) := by decide +kernel
theorem dX5_isNear_3 : decode cX5_isNear 3 = .ok (.istore 4, 2) := by decide +kernel
theorem dX5_isNear_5 : decode cX5_isNear 5 = .ok (.iload 4, 2) := by decide +kernel
theorem dX5_isNear_7 : decode cX5_isNear 7 = .ok (.aload_n 0, 1) := by decide +kernel
theorem dX5_isNear_8 : decode cX5_isNear 8 = .ok (.getfield 109, 3) := by decide +kernel
theorem dX5_isNear_11 : decode cX5_isNear 11 = .ok (.if_icmp .ge 60, 3) := by decide +kernel
theorem dX5_isNear_14 : decode cX5_isNear 14 = .ok (.iload_n 3, 1) := by decide +kernel
theorem dX5_isNear_15 : decode cX5_isNear 15 = .ok (.ifCond .ne 44, 3) := by decide +kernel
theorem dX5_isNear_18 : decode cX5_isNear 18 = .ok (.iload 4, 2) := by decide +kernel
theorem dX5_isNear_20 : decode cX5_isNear 20 = .ok (.iload_n 1, 1) := by decide +kernel
theorem dX5_isNear_21 : decode cX5_isNear 21 = .ok (.if_icmp .eq 42, 3) := by decide +kernel
theorem dX5_isNear_24 : decode cX5_isNear 24 = .ok (.iload_n 2, 1) := by decide +kernel
theorem dX5_isNear_25 : decode cX5_isNear 25 = .ok (.iload 4, 2) := by decide +kernel
theorem dX5_isNear_27 : decode cX5_isNear 27 = .ok (.invokestatic 157, 3) := by decide +kernel
theorem dX5_isNear_30 : decode cX5_isNear 30 = .ok (.ifCond .eq 33, 3) := by decide +kernel
theorem dX5_isNear_33 : decode cX5_isNear 33 = .ok (.aload_n 0, 1) := by decide +kernel
theorem dX5_isNear_34 : decode cX5_isNear 34 = .ok (.getfield 46, 3) := by decide +kernel
theorem dX5_isNear_37 : decode cX5_isNear 37 = .ok (.iload_n 1, 1) := by decide +kernel
theorem dX5_isNear_38 : decode cX5_isNear 38 = .ok (.iaload, 1) := by decide +kernel
theorem dX5_isNear_39 : decode cX5_isNear 39 = .ok (.aload_n 0, 1) := by decide +kernel
theorem dX5_isNear_40 : decode cX5_isNear 40 = .ok (.getfield 46, 3) := by decide +kernel
theorem dX5_isNear_43 : decode cX5_isNear 43 = .ok (.iload 4, 2) := by decide +kernel
theorem dX5_isNear_45 : decode cX5_isNear 45 = .ok (.iaload, 1) := by decide +kernel
theorem dX5_isNear_46 : decode cX5_isNear 46 = .ok (.isub, 1) := by decide +kernel
theorem dX5_isNear_47 : decode cX5_isNear 47 = .ok (.invokestatic 161, 3) := by decide +kernel
theorem dX5_isNear_50 : decode cX5_isNear 50 = .ok (.aload_n 0, 1) := by decide +kernel
theorem dX5_isNear_51 : decode cX5_isNear 51 = .ok (.getfield 52, 3) := by decide +kernel
theorem dX5_isNear_54 : decode cX5_isNear 54 = .ok (.iload_n 1, 1) := by decide +kernel
theorem dX5_isNear_55 : decode cX5_isNear 55 = .ok (.iaload, 1) := by decide +kernel
theorem dX5_isNear_56 : decode cX5_isNear 56 = .ok (.if_icmp .gt 7, 3) := by decide +kernel
theorem dX5_isNear_59 : decode cX5_isNear 59 = .ok (.iconst 1, 1) := by decide +kernel
theorem dX5_isNear_60 : decode cX5_isNear 60 = .ok (.goto 4, 3) := by decide +kernel
theorem dX5_isNear_63 : decode cX5_isNear 63 = .ok (.iconst 0, 1) := by decide +kernel
theorem dX5_isNear_64 : decode cX5_isNear 64 = .ok (.istore_n 3, 1) := by decide +kernel
theorem dX5_isNear_65 : decode cX5_isNear 65 = .ok (.iinc 4 1, 3) := by decide +kernel
theorem dX5_isNear_68 : decode cX5_isNear 68 = .ok (.goto (-63), 3) := by decide +kernel
theorem dX5_isNear_71 : decode cX5_isNear 71 = .ok (.iload_n 3, 1) := by decide +kernel
theorem dX5_isNear_72 : decode cX5_isNear 72 = .ok (.ireturn, 1) := by decide +kernel
theorem dX5_opensNow_0 : decode cX5_opensNow 0 = .ok (.aload_n 0, 1) := by decide +kernel
theorem dX5_opensNow_1 : decode cX5_opensNow 1 = .ok (.getfield 52, 3) := by decide +kernel
theorem dX5_opensNow_4 : decode cX5_opensNow 4 = .ok (.iload_n 2, 1) := by decide +kernel
theorem dX5_opensNow_5 : decode cX5_opensNow 5 = .ok (.iaload, 1) := by decide +kernel
theorem dX5_opensNow_6 : decode cX5_opensNow 6 = .ok (.istore_n 3, 1) := by decide +kernel
theorem dX5_opensNow_7 : decode cX5_opensNow 7 = .ok (.aload_n 0, 1) := by decide +kernel
theorem dX5_opensNow_8 : decode cX5_opensNow 8 = .ok (.getfield 49, 3) := by decide +kernel
theorem dX5_opensNow_11 : decode cX5_opensNow 11 = .ok (.iload_n 2, 1) := by decide +kernel
theorem dX5_opensNow_12 : decode cX5_opensNow 12 = .ok (.iaload, 1) := by decide +kernel
theorem dX5_opensNow_13 : decode cX5_opensNow 13 = .ok (.tableswitch 129 0 3 #[31, 62, 88, 104], 31) := by decide +kernel
theorem dX5_opensNow_44 : decode cX5_opensNow 44 = .ok (.aload_n 0, 1) := by decide +kernel
theorem dX5_opensNow_45 : decode cX5_opensNow 45 = .ok (.getfield 34, 3) := by decide +kernel
theorem dX5_opensNow_48 : decode cX5_opensNow 48 = .ok (.iconst 3, 1) := by decide +kernel
theorem dX5_opensNow_49 : decode cX5_opensNow 49 = .ok (.iload_n 1, 1) := by decide +kernel
theorem dX5_opensNow_50 : decode cX5_opensNow 50 = .ok (.imul, 1) := by decide +kernel
theorem dX5_opensNow_51 : decode cX5_opensNow 51 = .ok (.iaload, 1) := by decide +kernel
theorem dX5_opensNow_52 : decode cX5_opensNow 52 = .ok (.iload_n 2, 1) := by decide +kernel
theorem dX5_opensNow_53 : decode cX5_opensNow 53 = .ok (.invokestatic 157, 3) := by decide +kernel
theorem dX5_opensNow_56 : decode cX5_opensNow 56 = .ok (.ifCond .eq 17, 3) := by decide +kernel
theorem dX5_opensNow_59 : decode cX5_opensNow 59 = .ok (.aload_n 0, 1) := by decide +kernel
theorem dX5_opensNow_60 : decode cX5_opensNow 60 = .ok (.getfield 55, 3) := by decide +kernel
theorem dX5_opensNow_63 : decode cX5_opensNow 63 = .ok (.iload_n 2, 1) := by decide +kernel
theorem dX5_opensNow_64 : decode cX5_opensNow 64 = .ok (.iaload, 1) := by decide +kernel
theorem dX5_opensNow_65 : decode cX5_opensNow 65 = .ok (.iload_n 3, 1) := by decide +kernel
theorem dX5_opensNow_66 : decode cX5_opensNow 66 = .ok (.if_icmp .ne 7, 3) := by decide +kernel
theorem dX5_opensNow_69 : decode cX5_opensNow 69 = .ok (.iconst 1, 1) := by decide +kernel
theorem dX5_opensNow_70 : decode cX5_opensNow 70 = .ok (.goto 4, 3) := by decide +kernel
theorem dX5_opensNow_73 : decode cX5_opensNow 73 = .ok (.iconst 0, 1) := by decide +kernel
theorem dX5_opensNow_74 : decode cX5_opensNow 74 = .ok (.ireturn, 1) := by decide +kernel
theorem dX5_opensNow_75 : decode cX5_opensNow 75 = .ok (.iload_n 1, 1) := by decide +kernel
theorem dX5_opensNow_76 : decode cX5_opensNow 76 = .ok (.ifCond .le 23, 3) := by decide +kernel
theorem dX5_opensNow_79 : decode cX5_opensNow 79 = .ok (.aload_n 0, 1) := by decide +kernel
theorem dX5_opensNow_80 : decode cX5_opensNow 80 = .ok (.iload_n 2, 1) := by decide +kernel
theorem dX5_opensNow_81 : decode cX5_opensNow 81 = .ok (.aload_n 0, 1) := by decide +kernel
theorem dX5_opensNow_82 : decode cX5_opensNow 82 = .ok (.getfield 37, 3) := by decide +kernel
theorem dX5_opensNow_85 : decode cX5_opensNow 85 = .ok (.iload_n 1, 1) := by decide +kernel
theorem dX5_opensNow_86 : decode cX5_opensNow 86 = .ok (.iconst 1, 1) := by decide +kernel
theorem dX5_opensNow_87 : decode cX5_opensNow 87 = .ok (.isub, 1) := by decide +kernel
theorem dX5_opensNow_88 : decode cX5_opensNow 88 = .ok (.iaload, 1) := by decide +kernel
theorem dX5_opensNow_89 : decode cX5_opensNow 89 = .ok (.invokevirtual 164, 3) := by decide +kernel
theorem dX5_opensNow_92 : decode cX5_opensNow 92 = .ok (.ifCond .eq 7, 3) := by decide +kernel
theorem dX5_opensNow_95 : decode cX5_opensNow 95 = .ok (.iconst 1, 1) := by decide +kernel
theorem dX5_opensNow_96 : decode cX5_opensNow 96 = .ok (.goto 4, 3) := by decide +kernel
theorem dX5_opensNow_99 : decode cX5_opensNow 99 = .ok (.iconst 0, 1) := by decide +kernel
theorem dX5_opensNow_100 : decode cX5_opensNow 100 = .ok (.ireturn, 1) := by decide +kernel
theorem dX5_opensNow_101 : decode cX5_opensNow 101 = .ok (.aload_n 0, 1) := by decide +kernel
theorem dX5_opensNow_102 : decode cX5_opensNow 102 = .ok (.getfield 58, 3) := by decide +kernel
theorem dX5_opensNow_105 : decode cX5_opensNow 105 = .ok (.iload_n 2, 1) := by decide +kernel
theorem dX5_opensNow_106 : decode cX5_opensNow 106 = .ok (.iaload, 1) := by decide +kernel
theorem dX5_opensNow_107 : decode cX5_opensNow 107 = .ok (.iload_n 3, 1) := by decide +kernel
theorem dX5_opensNow_108 : decode cX5_opensNow 108 = .ok (.if_icmp .lt 7, 3) := by decide +kernel
theorem dX5_opensNow_111 : decode cX5_opensNow 111 = .ok (.iconst 1, 1) := by decide +kernel
theorem dX5_opensNow_112 : decode cX5_opensNow 112 = .ok (.goto 4, 3) := by decide +kernel
theorem dX5_opensNow_115 : decode cX5_opensNow 115 = .ok (.iconst 0, 1) := by decide +kernel
theorem dX5_opensNow_116 : decode cX5_opensNow 116 = .ok (.ireturn, 1) := by decide +kernel
theorem dX5_opensNow_117 : decode cX5_opensNow 117 = .ok (.iload_n 1, 1) := by decide +kernel
theorem dX5_opensNow_118 : decode cX5_opensNow 118 = .ok (.ifCond .le 22, 3) := by decide +kernel
theorem dX5_opensNow_121 : decode cX5_opensNow 121 = .ok (.aload_n 0, 1) := by decide +kernel
theorem dX5_opensNow_122 : decode cX5_opensNow 122 = .ok (.getfield 40, 3) := by decide +kernel
theorem dX5_opensNow_125 : decode cX5_opensNow 125 = .ok (.iload_n 1, 1) := by decide +kernel
theorem dX5_opensNow_126 : decode cX5_opensNow 126 = .ok (.iconst 1, 1) := by decide +kernel
theorem dX5_opensNow_127 : decode cX5_opensNow 127 = .ok (.isub, 1) := by decide +kernel
theorem dX5_opensNow_128 : decode cX5_opensNow 128 = .ok (.iaload, 1) := by decide +kernel
theorem dX5_opensNow_129 : decode cX5_opensNow 129 = .ok (.invokestatic 167, 3) := by decide +kernel
theorem dX5_opensNow_132 : decode cX5_opensNow 132 = .ok (.iload_n 3, 1) := by decide +kernel
theorem dX5_opensNow_133 : decode cX5_opensNow 133 = .ok (.if_icmp .lt 7, 3) := by decide +kernel
theorem dX5_opensNow_136 : decode cX5_opensNow 136 = .ok (.iconst 1, 1) := by decide +kernel
theorem dX5_opensNow_137 : decode cX5_opensNow 137 = .ok (.goto 4, 3) := by decide +kernel
theorem dX5_opensNow_140 : decode cX5_opensNow 140 = .ok (.iconst 0, 1) := by decide +kernel
theorem dX5_opensNow_141 : decode cX5_opensNow 141 = .ok (.ireturn, 1) := by decide +kernel
theorem dX5_opensNow_142 : decode cX5_opensNow 142 = .ok (.iconst 0, 1) := by decide +kernel
theorem dX5_opensNow_143 : decode cX5_opensNow 143 = .ok (.ireturn, 1) := by decide +kernel
theorem dX5_springAt_0 : decode cX5_springAt 0 = .ok (.iload_n 1, 1) := by decide +kernel
theorem dX5_springAt_1 : decode cX5_springAt 1 = .ok (.ifCond .ge 16, 3) := by decide +kernel
theorem dX5_springAt_4 : decode cX5_springAt 4 = .ok (.aload_n 0, 1) := by decide +kernel
theorem dX5_springAt_5 : decode cX5_springAt 5 = .ok (.getfield 25, 3) := by decide +kernel
theorem dX5_springAt_8 : decode cX5_springAt 8 = .ok (.iconst 3, 1) := by decide +kernel
theorem dX5_springAt_9 : decode cX5_springAt 9 = .ok (.iload_n 2, 1) := by decide +kernel
theorem dX5_springAt_10 : decode cX5_springAt 10 = .ok (.imul, 1) := by decide +kernel
theorem dX5_springAt_11 : decode cX5_springAt 11 = .ok (.iconst 2, 1) := by decide +kernel
theorem dX5_springAt_12 : decode cX5_springAt 12 = .ok (.iadd, 1) := by decide +kernel
theorem dX5_springAt_13 : decode cX5_springAt 13 = .ok (.iaload, 1) := by decide +kernel
theorem dX5_springAt_14 : decode cX5_springAt 14 = .ok (.goto 14, 3) := by decide +kernel
theorem dX5_springAt_17 : decode cX5_springAt 17 = .ok (.aload_n 0, 1) := by decide +kernel
theorem dX5_springAt_18 : decode cX5_springAt 18 = .ok (.getfield 43, 3) := by decide +kernel
theorem dX5_springAt_21 : decode cX5_springAt 21 = .ok (.bipush 9, 2) := by decide +kernel
theorem dX5_springAt_23 : decode cX5_springAt 23 = .ok (.iload_n 1, 1) := by decide +kernel
theorem dX5_springAt_24 : decode cX5_springAt 24 = .ok (.imul, 1) := by decide +kernel
theorem dX5_springAt_25 : decode cX5_springAt 25 = .ok (.iload_n 2, 1) := by decide +kernel
theorem dX5_springAt_26 : decode cX5_springAt 26 = .ok (.iadd, 1) := by decide +kernel
theorem dX5_springAt_27 : decode cX5_springAt 27 = .ok (.iaload, 1) := by decide +kernel
theorem dX5_springAt_28 : decode cX5_springAt 28 = .ok (.ireturn, 1) := by decide +kernel
theorem dX5_lives_0 : decode cX5_lives 0 = .ok (.iconst 0, 1) := by decide +kernel
theorem dX5_lives_1 : decode cX5_lives 1 = .ok (.istore_n 2, 1) := by decide +kernel
theorem dX5_lives_2 : decode cX5_lives 2 = .ok (.iload_n 2, 1) := by decide +kernel
theorem dX5_lives_3 : decode cX5_lives 3 = .ok (.aload_n 0, 1) := by decide +kernel
theorem dX5_lives_4 : decode cX5_lives 4 = .ok (.getfield 109, 3) := by decide +kernel
theorem dX5_lives_7 : decode cX5_lives 7 = .ok (.if_icmp .ge 23, 3) := by decide +kernel
theorem dX5_lives_10 : decode cX5_lives 10 = .ok (.aload_n 0, 1) := by decide +kernel
theorem dX5_lives_11 : decode cX5_lives 11 = .ok (.getfield 55, 3) := by decide +kernel
theorem dX5_lives_14 : decode cX5_lives 14 = .ok (.iload_n 2, 1) := by decide +kernel
theorem dX5_lives_15 : decode cX5_lives 15 = .ok (.iconst 0, 1) := by decide +kernel
theorem dX5_lives_16 : decode cX5_lives 16 = .ok (.iastore, 1) := by decide +kernel
theorem dX5_lives_17 : decode cX5_lives 17 = .ok (.aload_n 0, 1) := by decide +kernel
theorem dX5_lives_18 : decode cX5_lives 18 = .ok (.getfield 58, 3) := by decide +kernel
theorem dX5_lives_21 : decode cX5_lives 21 = .ok (.iload_n 2, 1) := by decide +kernel
theorem dX5_lives_22 : decode cX5_lives 22 = .ok (.iconst 0, 1) := by decide +kernel
theorem dX5_lives_23 : decode cX5_lives 23 = .ok (.iastore, 1) := by decide +kernel
theorem dX5_lives_24 : decode cX5_lives 24 = .ok (.iinc 2 1, 3) := by decide +kernel
theorem dX5_lives_27 : decode cX5_lives 27 = .ok (.goto (-25), 3) := by decide +kernel
theorem dX5_lives_30 : decode cX5_lives 30 = .ok (.iconst 0, 1) := by decide +kernel
theorem dX5_lives_31 : decode cX5_lives 31 = .ok (.istore_n 2, 1) := by decide +kernel
theorem dX5_lives_32 : decode cX5_lives 32 = .ok (.iload_n 2, 1) := by decide +kernel
theorem dX5_lives_33 : decode cX5_lives 33 = .ok (.iload_n 1, 1) := by decide +kernel
theorem dX5_lives_34 : decode cX5_lives 34 = .ok (.if_icmp .gt 354, 3) := by decide +kernel
theorem dX5_lives_37 : decode cX5_lives 37 = .ok (.iload_n 2, 1) := by decide +kernel
theorem dX5_lives_38 : decode cX5_lives 38 = .ok (.ifCond .ne 7, 3) := by decide +kernel
theorem dX5_lives_41 : decode cX5_lives 41 = .ok (.iconst 0, 1) := by decide +kernel
theorem dX5_lives_42 : decode cX5_lives 42 = .ok (.goto 11, 3) := by decide +kernel
theorem dX5_lives_45 : decode cX5_lives 45 = .ok (.aload_n 0, 1) := by decide +kernel
theorem dX5_lives_46 : decode cX5_lives 46 = .ok (.getfield 40, 3) := by decide +kernel
theorem dX5_lives_49 : decode cX5_lives 49 = .ok (.iload_n 2, 1) := by decide +kernel
theorem dX5_lives_50 : decode cX5_lives 50 = .ok (.iconst 1, 1) := by decide +kernel
theorem dX5_lives_51 : decode cX5_lives 51 = .ok (.isub, 1) := by decide +kernel
theorem dX5_lives_52 : decode cX5_lives 52 = .ok (.iaload, 1) := by decide +kernel
theorem dX5_lives_53 : decode cX5_lives 53 = .ok (.istore_n 3, 1) := by decide +kernel
theorem dX5_lives_54 : decode cX5_lives 54 = .ok (.iconst 0, 1) := by decide +kernel
theorem dX5_lives_55 : decode cX5_lives 55 = .ok (.istore 4, 2) := by decide +kernel
theorem dX5_lives_57 : decode cX5_lives 57 = .ok (.iconst 0, 1) := by decide +kernel
theorem dX5_lives_58 : decode cX5_lives 58 = .ok (.istore 5, 2) := by decide +kernel
theorem dX5_lives_60 : decode cX5_lives 60 = .ok (.iload 5, 2) := by decide +kernel
theorem dX5_lives_62 : decode cX5_lives 62 = .ok (.aload_n 0, 1) := by decide +kernel
theorem dX5_lives_63 : decode cX5_lives 63 = .ok (.getfield 109, 3) := by decide +kernel
theorem dX5_lives_66 : decode cX5_lives 66 = .ok (.if_icmp .ge 180, 3) := by decide +kernel
theorem dX5_lives_69 : decode cX5_lives 69 = .ok (.iload_n 3, 1) := by decide +kernel
theorem dX5_lives_70 : decode cX5_lives 70 = .ok (.iload 5, 2) := by decide +kernel
theorem dX5_lives_72 : decode cX5_lives 72 = .ok (.invokestatic 157, 3) := by decide +kernel
theorem dX5_lives_75 : decode cX5_lives 75 = .ok (.ifCond .ne 7, 3) := by decide +kernel
theorem dX5_lives_78 : decode cX5_lives 78 = .ok (.iconst 1, 1) := by decide +kernel
theorem dX5_lives_79 : decode cX5_lives 79 = .ok (.goto 4, 3) := by decide +kernel
theorem dX5_lives_82 : decode cX5_lives 82 = .ok (.iconst 0, 1) := by decide +kernel
theorem dX5_lives_83 : decode cX5_lives 83 = .ok (.istore 6, 2) := by decide +kernel
theorem dX5_lives_85 : decode cX5_lives 85 = .ok (.aload_n 0, 1) := by decide +kernel
theorem dX5_lives_86 : decode cX5_lives 86 = .ok (.getfield 55, 3) := by decide +kernel
theorem dX5_lives_89 : decode cX5_lives 89 = .ok (.iload 5, 2) := by decide +kernel
theorem dX5_lives_91 : decode cX5_lives 91 = .ok (.dup2, 1) := by decide +kernel
theorem dX5_lives_92 : decode cX5_lives 92 = .ok (.iaload, 1) := by decide +kernel
theorem dX5_lives_93 : decode cX5_lives 93 = .ok (.iload 6, 2) := by decide +kernel
theorem dX5_lives_95 : decode cX5_lives 95 = .ok (.ifCond .eq 35, 3) := by decide +kernel
theorem dX5_lives_98 : decode cX5_lives 98 = .ok (.aload_n 0, 1) := by decide +kernel
theorem dX5_lives_99 : decode cX5_lives 99 = .ok (.getfield 34, 3) := by decide +kernel
theorem dX5_lives_102 : decode cX5_lives 102 = .ok (.iconst 3, 1) := by decide +kernel
theorem dX5_lives_103 : decode cX5_lives 103 = .ok (.iload_n 2, 1) := by decide +kernel
theorem dX5_lives_104 : decode cX5_lives 104 = .ok (.imul, 1) := by decide +kernel
theorem dX5_lives_105 : decode cX5_lives 105 = .ok (.iaload, 1) := by decide +kernel
theorem dX5_lives_106 : decode cX5_lives 106 = .ok (.iload 5, 2) := by decide +kernel
theorem dX5_lives_108 : decode cX5_lives 108 = .ok (.invokestatic 157, 3) := by decide +kernel
theorem dX5_lives_111 : decode cX5_lives 111 = .ok (.ifCond .eq 19, 3) := by decide +kernel
theorem dX5_lives_114 : decode cX5_lives 114 = .ok (.aload_n 0, 1) := by decide +kernel
theorem dX5_lives_115 : decode cX5_lives 115 = .ok (.getfield 154, 3) := by decide +kernel
theorem dX5_lives_118 : decode cX5_lives 118 = .ok (.iload 5, 2) := by decide +kernel
theorem dX5_lives_120 : decode cX5_lives 120 = .ok (.invokestatic 157, 3) := by decide +kernel
theorem dX5_lives_123 : decode cX5_lives 123 = .ok (.ifCond .ne 7, 3) := by decide +kernel
theorem dX5_lives_126 : decode cX5_lives 126 = .ok (.iconst 1, 1) := by decide +kernel
theorem dX5_lives_127 : decode cX5_lives 127 = .ok (.goto 4, 3) := by decide +kernel
theorem dX5_lives_130 : decode cX5_lives 130 = .ok (.iconst 0, 1) := by decide +kernel
theorem dX5_lives_131 : decode cX5_lives 131 = .ok (.iadd, 1) := by decide +kernel
theorem dX5_lives_132 : decode cX5_lives 132 = .ok (.iastore, 1) := by decide +kernel
theorem dX5_lives_133 : decode cX5_lives 133 = .ok (.aload_n 0, 1) := by decide +kernel
theorem dX5_lives_134 : decode cX5_lives 134 = .ok (.getfield 58, 3) := by decide +kernel
theorem dX5_lives_137 : decode cX5_lives 137 = .ok (.iload 5, 2) := by decide +kernel
theorem dX5_lives_139 : decode cX5_lives 139 = .ok (.iload 6, 2) := by decide +kernel
theorem dX5_lives_141 : decode cX5_lives 141 = .ok (.ifCond .eq 33, 3) := by decide +kernel
theorem dX5_lives_144 : decode cX5_lives 144 = .ok (.aload_n 0, 1) := by decide +kernel
theorem dX5_lives_145 : decode cX5_lives 145 = .ok (.getfield 34, 3) := by decide +kernel
theorem dX5_lives_148 : decode cX5_lives 148 = .ok (.iconst 3, 1) := by decide +kernel
theorem dX5_lives_149 : decode cX5_lives 149 = .ok (.iload_n 2, 1) := by decide +kernel
theorem dX5_lives_150 : decode cX5_lives 150 = .ok (.imul, 1) := by decide +kernel
theorem dX5_lives_151 : decode cX5_lives 151 = .ok (.iconst 1, 1) := by decide +kernel
theorem dX5_lives_152 : decode cX5_lives 152 = .ok (.iadd, 1) := by decide +kernel
theorem dX5_lives_153 : decode cX5_lives 153 = .ok (.iaload, 1) := by decide +kernel
theorem dX5_lives_154 : decode cX5_lives 154 = .ok (.iload 5, 2) := by decide +kernel
theorem dX5_lives_156 : decode cX5_lives 156 = .ok (.invokestatic 157, 3) := by decide +kernel
theorem dX5_lives_159 : decode cX5_lives 159 = .ok (.ifCond .ne 15, 3) := by decide +kernel
theorem dX5_lives_162 : decode cX5_lives 162 = .ok (.aload_n 0, 1) := by decide +kernel
theorem dX5_lives_163 : decode cX5_lives 163 = .ok (.getfield 58, 3) := by decide +kernel
theorem dX5_lives_166 : decode cX5_lives 166 = .ok (.iload 5, 2) := by decide +kernel
theorem dX5_lives_168 : decode cX5_lives 168 = .ok (.iaload, 1) := by decide +kernel
theorem dX5_lives_169 : decode cX5_lives 169 = .ok (.iconst 1, 1) := by decide +kernel
theorem dX5_lives_170 : decode cX5_lives 170 = .ok (.iadd, 1) := by decide +kernel
theorem dX5_lives_171 : decode cX5_lives 171 = .ok (.goto 4, 3) := by decide +kernel
theorem dX5_lives_174 : decode cX5_lives 174 = .ok (.iconst 0, 1) := by decide +kernel
theorem dX5_lives_175 : decode cX5_lives 175 = .ok (.iastore, 1) := by decide +kernel
theorem dX5_lives_176 : decode cX5_lives 176 = .ok (.iload 6, 2) := by decide +kernel
theorem dX5_lives_178 : decode cX5_lives 178 = .ok (.ifCond .eq 31, 3) := by decide +kernel
theorem dX5_lives_181 : decode cX5_lives 181 = .ok (.aload_n 0, 1) := by decide +kernel
theorem dX5_lives_182 : decode cX5_lives 182 = .ok (.getfield 154, 3) := by decide +kernel
theorem dX5_lives_185 : decode cX5_lives 185 = .ok (.iload 5, 2) := by decide +kernel
theorem dX5_lives_187 : decode cX5_lives 187 = .ok (.invokestatic 157, 3) := by decide +kernel
theorem dX5_lives_190 : decode cX5_lives 190 = .ok (.ifCond .ne 19, 3) := by decide +kernel
theorem dX5_lives_193 : decode cX5_lives 193 = .ok (.aload_n 0, 1) := by decide +kernel
theorem dX5_lives_194 : decode cX5_lives 194 = .ok (.iload_n 2, 1) := by decide +kernel
theorem dX5_lives_195 : decode cX5_lives 195 = .ok (.iconst 1, 1) := by decide +kernel
theorem dX5_lives_196 : decode cX5_lives 196 = .ok (.isub, 1) := by decide +kernel
theorem dX5_lives_197 : decode cX5_lives 197 = .ok (.iload 5, 2) := by decide +kernel
theorem dX5_lives_199 : decode cX5_lives 199 = .ok (.invokevirtual 170, 3) := by decide +kernel
theorem dX5_lives_202 : decode cX5_lives 202 = .ok (.ifCond .le 7, 3) := by decide +kernel
theorem dX5_lives_205 : decode cX5_lives 205 = .ok (.iconst 1, 1) := by decide +kernel
theorem dX5_lives_206 : decode cX5_lives 206 = .ok (.goto 4, 3) := by decide +kernel
theorem dX5_lives_209 : decode cX5_lives 209 = .ok (.iconst 0, 1) := by decide +kernel
theorem dX5_lives_210 : decode cX5_lives 210 = .ok (.istore 7, 2) := by decide +kernel
theorem dX5_lives_212 : decode cX5_lives 212 = .ok (.iload 4, 2) := by decide +kernel
theorem dX5_lives_214 : decode cX5_lives 214 = .ok (.iload 7, 2) := by decide +kernel
theorem dX5_lives_216 : decode cX5_lives 216 = .ok (.ifCond .eq 20, 3) := by decide +kernel
theorem dX5_lives_219 : decode cX5_lives 219 = .ok (.aload_n 0, 1) := by decide +kernel
theorem dX5_lives_220 : decode cX5_lives 220 = .ok (.iload_n 2, 1) := by decide +kernel
theorem dX5_lives_221 : decode cX5_lives 221 = .ok (.iload 5, 2) := by decide +kernel
theorem dX5_lives_223 : decode cX5_lives 223 = .ok (.invokevirtual 173, 3) := by decide +kernel
theorem dX5_lives_226 : decode cX5_lives 226 = .ok (.ifCond .eq 10, 3) := by decide +kernel
theorem dX5_lives_229 : decode cX5_lives 229 = .ok (.iconst 1, 1) := by decide +kernel
theorem dX5_lives_230 : decode cX5_lives 230 = .ok (.iload 5, 2) := by decide +kernel
theorem dX5_lives_232 : decode cX5_lives 232 = .ok (.ishl, 1) := by decide +kernel
theorem dX5_lives_233 : decode cX5_lives 233 = .ok (.goto 4, 3) := by decide +kernel
theorem dX5_lives_236 : decode cX5_lives 236 = .ok (.iconst 0, 1) := by decide +kernel
theorem dX5_lives_237 : decode cX5_lives 237 = .ok (.ior, 1) := by decide +kernel
theorem dX5_lives_238 : decode cX5_lives 238 = .ok (.istore 4, 2) := by decide +kernel
theorem dX5_lives_240 : decode cX5_lives 240 = .ok (.iinc 5 1, 3) := by decide +kernel
theorem dX5_lives_243 : decode cX5_lives 243 = .ok (.goto (-183), 3) := by decide +kernel
theorem dX5_lives_246 : decode cX5_lives 246 = .ok (.iconst 0, 1) := by decide +kernel
theorem dX5_lives_247 : decode cX5_lives 247 = .ok (.istore 5, 2) := by decide +kernel
theorem dX5_lives_249 : decode cX5_lives 249 = .ok (.iload 5, 2) := by decide +kernel
theorem dX5_lives_251 : decode cX5_lives 251 = .ok (.aload_n 0, 1) := by decide +kernel
theorem dX5_lives_252 : decode cX5_lives 252 = .ok (.getfield 109, 3) := by decide +kernel
theorem dX5_lives_255 : decode cX5_lives 255 = .ok (.if_icmp .ge 96, 3) := by decide +kernel
theorem dX5_lives_258 : decode cX5_lives 258 = .ok (.iload 4, 2) := by decide +kernel
theorem dX5_lives_260 : decode cX5_lives 260 = .ok (.iload 5, 2) := by decide +kernel
theorem dX5_lives_262 : decode cX5_lives 262 = .ok (.invokestatic 157, 3) := by decide +kernel
theorem dX5_lives_265 : decode cX5_lives 265 = .ok (.istore 6, 2) := by decide +kernel
theorem dX5_lives_267 : decode cX5_lives 267 = .ok (.aload_n 0, 1) := by decide +kernel
theorem dX5_lives_268 : decode cX5_lives 268 = .ok (.getfield 43, 3) := by decide +kernel
theorem dX5_lives_271 : decode cX5_lives 271 = .ok (.bipush 9, 2) := by decide +kernel
theorem dX5_lives_273 : decode cX5_lives 273 = .ok (.iload_n 2, 1) := by decide +kernel
theorem dX5_lives_274 : decode cX5_lives 274 = .ok (.imul, 1) := by decide +kernel
theorem dX5_lives_275 : decode cX5_lives 275 = .ok (.iload 5, 2) := by decide +kernel
theorem dX5_lives_277 : decode cX5_lives 277 = .ok (.iadd, 1) := by decide +kernel
theorem dX5_lives_278 : decode cX5_lives 278 = .ok (.aload_n 0, 1) := by decide +kernel
theorem dX5_lives_279 : decode cX5_lives 279 = .ok (.iload_n 2, 1) := by decide +kernel
theorem dX5_lives_280 : decode cX5_lives 280 = .ok (.iconst 1, 1) := by decide +kernel
theorem dX5_lives_281 : decode cX5_lives 281 = .ok (.isub, 1) := by decide +kernel
theorem dX5_lives_282 : decode cX5_lives 282 = .ok (.iload 5, 2) := by decide +kernel
theorem dX5_lives_284 : decode cX5_lives 284 = .ok (.invokevirtual 170, 3) := by decide +kernel
theorem dX5_lives_287 : decode cX5_lives 287 = .ok (.iload 6, 2) := by decide +kernel
theorem dX5_lives_289 : decode cX5_lives 289 = .ok (.ifCond .eq 7, 3) := by decide +kernel
theorem dX5_lives_292 : decode cX5_lives 292 = .ok (.iconst 1, 1) := by decide +kernel
theorem dX5_lives_293 : decode cX5_lives 293 = .ok (.goto 4, 3) := by decide +kernel
theorem dX5_lives_296 : decode cX5_lives 296 = .ok (.iconst 0, 1) := by decide +kernel
theorem dX5_lives_297 : decode cX5_lives 297 = .ok (.isub, 1) := by decide +kernel
theorem dX5_lives_298 : decode cX5_lives 298 = .ok (.iastore, 1) := by decide +kernel
theorem dX5_lives_299 : decode cX5_lives 299 = .ok (.aload_n 0, 1) := by decide +kernel
theorem dX5_lives_300 : decode cX5_lives 300 = .ok (.getfield 55, 3) := by decide +kernel
theorem dX5_lives_303 : decode cX5_lives 303 = .ok (.iload 5, 2) := by decide +kernel
theorem dX5_lives_305 : decode cX5_lives 305 = .ok (.iload 6, 2) := by decide +kernel
theorem dX5_lives_307 : decode cX5_lives 307 = .ok (.ifCond .eq 7, 3) := by decide +kernel
theorem dX5_lives_310 : decode cX5_lives 310 = .ok (.iconst 0, 1) := by decide +kernel
theorem dX5_lives_311 : decode cX5_lives 311 = .ok (.goto 10, 3) := by decide +kernel
theorem dX5_lives_314 : decode cX5_lives 314 = .ok (.aload_n 0, 1) := by decide +kernel
theorem dX5_lives_315 : decode cX5_lives 315 = .ok (.getfield 55, 3) := by decide +kernel
theorem dX5_lives_318 : decode cX5_lives 318 = .ok (.iload 5, 2) := by decide +kernel
theorem dX5_lives_320 : decode cX5_lives 320 = .ok (.iaload, 1) := by decide +kernel
theorem dX5_lives_321 : decode cX5_lives 321 = .ok (.iastore, 1) := by decide +kernel
theorem dX5_lives_322 : decode cX5_lives 322 = .ok (.aload_n 0, 1) := by decide +kernel
theorem dX5_lives_323 : decode cX5_lives 323 = .ok (.getfield 58, 3) := by decide +kernel
theorem dX5_lives_326 : decode cX5_lives 326 = .ok (.iload 5, 2) := by decide +kernel
theorem dX5_lives_328 : decode cX5_lives 328 = .ok (.iload 6, 2) := by decide +kernel
theorem dX5_lives_330 : decode cX5_lives 330 = .ok (.ifCond .eq 7, 3) := by decide +kernel
theorem dX5_lives_333 : decode cX5_lives 333 = .ok (.iconst 0, 1) := by decide +kernel
theorem dX5_lives_334 : decode cX5_lives 334 = .ok (.goto 10, 3) := by decide +kernel
theorem dX5_lives_337 : decode cX5_lives 337 = .ok (.aload_n 0, 1) := by decide +kernel
theorem dX5_lives_338 : decode cX5_lives 338 = .ok (.getfield 58, 3) := by decide +kernel
theorem dX5_lives_341 : decode cX5_lives 341 = .ok (.iload 5, 2) := by decide +kernel
theorem dX5_lives_343 : decode cX5_lives 343 = .ok (.iaload, 1) := by decide +kernel
theorem dX5_lives_344 : decode cX5_lives 344 = .ok (.iastore, 1) := by decide +kernel
theorem dX5_lives_345 : decode cX5_lives 345 = .ok (.iinc 5 1, 3) := by decide +kernel
theorem dX5_lives_348 : decode cX5_lives 348 = .ok (.goto (-99), 3) := by decide +kernel
theorem dX5_lives_351 : decode cX5_lives 351 = .ok (.aload_n 0, 1) := by decide +kernel
theorem dX5_lives_352 : decode cX5_lives 352 = .ok (.getfield 37, 3) := by decide +kernel
theorem dX5_lives_355 : decode cX5_lives 355 = .ok (.iload_n 2, 1) := by decide +kernel
theorem dX5_lives_356 : decode cX5_lives 356 = .ok (.iload 4, 2) := by decide +kernel
theorem dX5_lives_358 : decode cX5_lives 358 = .ok (.iastore, 1) := by decide +kernel
theorem dX5_lives_359 : decode cX5_lives 359 = .ok (.aload_n 0, 1) := by decide +kernel
theorem dX5_lives_360 : decode cX5_lives 360 = .ok (.getfield 40, 3) := by decide +kernel
theorem dX5_lives_363 : decode cX5_lives 363 = .ok (.iload_n 2, 1) := by decide +kernel
theorem dX5_lives_364 : decode cX5_lives 364 = .ok (.iload_n 3, 1) := by decide +kernel
theorem dX5_lives_365 : decode cX5_lives 365 = .ok (.iload 4, 2) := by decide +kernel
theorem dX5_lives_367 : decode cX5_lives 367 = .ok (.ior, 1) := by decide +kernel
theorem dX5_lives_368 : decode cX5_lives 368 = .ok (.aload_n 0, 1) := by decide +kernel
theorem dX5_lives_369 : decode cX5_lives 369 = .ok (.getfield 34, 3) := by decide +kernel
theorem dX5_lives_372 : decode cX5_lives 372 = .ok (.iconst 3, 1) := by decide +kernel
theorem dX5_lives_373 : decode cX5_lives 373 = .ok (.iload_n 2, 1) := by decide +kernel
theorem dX5_lives_374 : decode cX5_lives 374 = .ok (.imul, 1) := by decide +kernel
theorem dX5_lives_375 : decode cX5_lives 375 = .ok (.iconst 2, 1) := by decide +kernel
theorem dX5_lives_376 : decode cX5_lives 376 = .ok (.iadd, 1) := by decide +kernel
theorem dX5_lives_377 : decode cX5_lives 377 = .ok (.iaload, 1) := by decide +kernel
theorem dX5_lives_378 : decode cX5_lives 378 = .ok (.iconst (-1), 1) := by decide +kernel
theorem dX5_lives_379 : decode cX5_lives 379 = .ok (.ixor, 1) := by decide +kernel
theorem dX5_lives_380 : decode cX5_lives 380 = .ok (.iand, 1) := by decide +kernel
theorem dX5_lives_381 : decode cX5_lives 381 = .ok (.iastore, 1) := by decide +kernel
theorem dX5_lives_382 : decode cX5_lives 382 = .ok (.iinc 2 1, 3) := by decide +kernel
theorem dX5_lives_385 : decode cX5_lives 385 = .ok (.goto (-353), 3) := by decide +kernel
theorem dX5_lives_388 : decode cX5_lives 388 = .ok (.return_, 1) := by decide +kernel
theorem dX5_find_0 : decode cX5_find 0 = .ok (.aload_n 0, 1) := by decide +kernel
theorem dX5_find_1 : decode cX5_find 1 = .ok (.invokevirtual 176, 3) := by decide +kernel
theorem dX5_find_4 : decode cX5_find 4 = .ok (.aload_n 0, 1) := by decide +kernel
theorem dX5_find_5 : decode cX5_find 5 = .ok (.bipush 59, 2) := by decide +kernel
theorem dX5_find_7 : decode cX5_find 7 = .ok (.invokevirtual 179, 3) := by decide +kernel
theorem dX5_find_10 : decode cX5_find 10 = .ok (.return_, 1) := by decide +kernel
theorem dX5_step_0 : decode cX5_step 0 = .ok (.aload_n 0, 1) := by decide +kernel
theorem dX5_step_1 : decode cX5_step 1 = .ok (.invokevirtual 183, 3) := by decide +kernel
theorem dX5_step_4 : decode cX5_step 4 = .ok (.iload_n 1, 1) := by decide +kernel
theorem dX5_step_5 : decode cX5_step 5 = .ok (.invokestatic 145, 3) := by decide +kernel
theorem dX5_step_8 : decode cX5_step 8 = .ok (.ifCond .eq 32, 3) := by decide +kernel
theorem dX5_step_11 : decode cX5_step 11 = .ok (.iload_n 2, 1) := by decide +kernel
theorem dX5_step_12 : decode cX5_step 12 = .ok (.invokestatic 186, 3) := by decide +kernel
theorem dX5_step_15 : decode cX5_step 15 = .ok (.ifCond .eq 25, 3) := by decide +kernel
theorem dX5_step_18 : decode cX5_step 18 = .ok (.iload_n 2, 1) := by decide +kernel
theorem dX5_step_19 : decode cX5_step 19 = .ok (.ifCond .ne 12, 3) := by decide +kernel
theorem dX5_step_22 : decode cX5_step 22 = .ok (.aload_n 0, 1) := by decide +kernel
theorem dX5_step_23 : decode cX5_step 23 = .ok (.getfield 37, 3) := by decide +kernel
theorem dX5_step_26 : decode cX5_step 26 = .ok (.iload_n 1, 1) := by decide +kernel
theorem dX5_step_27 : decode cX5_step 27 = .ok (.iaload, 1) := by decide +kernel
theorem dX5_step_28 : decode cX5_step 28 = .ok (.goto 14, 3) := by decide +kernel
theorem dX5_step_31 : decode cX5_step 31 = .ok (.aload_n 0, 1) := by decide +kernel
theorem dX5_step_32 : decode cX5_step 32 = .ok (.getfield 40, 3) := by decide +kernel
theorem dX5_step_35 : decode cX5_step 35 = .ok (.iload_n 1, 1) := by decide +kernel
theorem dX5_step_36 : decode cX5_step 36 = .ok (.iaload, 1) := by decide +kernel
theorem dX5_step_37 : decode cX5_step 37 = .ok (.goto 5, 3) := by decide +kernel
theorem dX5_step_40 : decode cX5_step 40 = .ok (.bipush (-2), 2) := by decide +kernel
theorem dX5_step_42 : decode cX5_step 42 = .ok (.ireturn, 1) := by decide +kernel
theorem dX5_spring_0 : decode cX5_spring 0 = .ok (.aload_n 0, 1) := by decide +kernel
theorem dX5_spring_1 : decode cX5_spring 1 = .ok (.invokevirtual 183, 3) := by decide +kernel
theorem dX5_spring_4 : decode cX5_spring 4 = .ok (.iload_n 1, 1) := by decide +kernel
theorem dX5_spring_5 : decode cX5_spring 5 = .ok (.invokestatic 145, 3) := by decide +kernel
theorem dX5_spring_8 : decode cX5_spring 8 = .ok (.ifCond .eq 25, 3) := by decide +kernel
theorem dX5_spring_11 : decode cX5_spring 11 = .ok (.aload_n 0, 1) := by decide +kernel
theorem dX5_spring_12 : decode cX5_spring 12 = .ok (.iload_n 2, 1) := by decide +kernel
theorem dX5_spring_13 : decode cX5_spring 13 = .ok (.invokevirtual 134, 3) := by decide +kernel
theorem dX5_spring_16 : decode cX5_spring 16 = .ok (.ifCond .eq 17, 3) := by decide +kernel
theorem dX5_spring_19 : decode cX5_spring 19 = .ok (.aload_n 0, 1) := by decide +kernel
theorem dX5_spring_20 : decode cX5_spring 20 = .ok (.getfield 43, 3) := by decide +kernel
theorem dX5_spring_23 : decode cX5_spring 23 = .ok (.bipush 9, 2) := by decide +kernel
theorem dX5_spring_25 : decode cX5_spring 25 = .ok (.iload_n 1, 1) := by decide +kernel
theorem dX5_spring_26 : decode cX5_spring 26 = .ok (.imul, 1) := by decide +kernel
theorem dX5_spring_27 : decode cX5_spring 27 = .ok (.iload_n 2, 1) := by decide +kernel
theorem dX5_spring_28 : decode cX5_spring 28 = .ok (.iadd, 1) := by decide +kernel
theorem dX5_spring_29 : decode cX5_spring 29 = .ok (.iaload, 1) := by decide +kernel
theorem dX5_spring_30 : decode cX5_spring 30 = .ok (.goto 5, 3) := by decide +kernel
theorem dX5_spring_33 : decode cX5_spring 33 = .ok (.bipush (-2), 2) := by decide +kernel
theorem dX5_spring_35 : decode cX5_spring 35 = .ok (.ireturn, 1) := by decide +kernel
theorem dX5_quietNow_0 : decode cX5_quietNow 0 = .ok (.bipush 60, 2) := by decide +kernel
theorem dX5_quietNow_2 : decode cX5_quietNow 2 = .ok (.istore_n 1, 1) := by decide +kernel
theorem dX5_quietNow_3 : decode cX5_quietNow 3 = .ok (.iload_n 1, 1) := by decide +kernel
theorem dX5_quietNow_4 : decode cX5_quietNow 4 = .ok (.ifCond .le 20, 3) := by decide +kernel
theorem dX5_quietNow_7 : decode cX5_quietNow 7 = .ok (.aload_n 0, 1) := by decide +kernel
theorem dX5_quietNow_8 : decode cX5_quietNow 8 = .ok (.getfield 37, 3) := by decide +kernel
theorem dX5_quietNow_11 : decode cX5_quietNow 11 = .ok (.iload_n 1, 1) := by decide +kernel
theorem dX5_quietNow_12 : decode cX5_quietNow 12 = .ok (.iconst 1, 1) := by decide +kernel
theorem dX5_quietNow_13 : decode cX5_quietNow 13 = .ok (.isub, 1) := by decide +kernel
theorem dX5_quietNow_14 : decode cX5_quietNow 14 = .ok (.iaload, 1) := by decide +kernel
theorem dX5_quietNow_15 : decode cX5_quietNow 15 = .ok (.ifCond .ne 9, 3) := by decide +kernel
theorem dX5_quietNow_18 : decode cX5_quietNow 18 = .ok (.iinc 1 (-1), 3) := by decide +kernel
theorem dX5_quietNow_21 : decode cX5_quietNow 21 = .ok (.goto (-18), 3) := by decide +kernel
theorem dX5_quietNow_24 : decode cX5_quietNow 24 = .ok (.iload_n 1, 1) := by decide +kernel
theorem dX5_quietNow_25 : decode cX5_quietNow 25 = .ok (.bipush 60, 2) := by decide +kernel
theorem dX5_quietNow_27 : decode cX5_quietNow 27 = .ok (.if_icmp .ne 7, 3) := by decide +kernel
theorem dX5_quietNow_30 : decode cX5_quietNow 30 = .ok (.iconst (-1), 1) := by decide +kernel
theorem dX5_quietNow_31 : decode cX5_quietNow 31 = .ok (.goto 4, 3) := by decide +kernel
theorem dX5_quietNow_34 : decode cX5_quietNow 34 = .ok (.iload_n 1, 1) := by decide +kernel
theorem dX5_quietNow_35 : decode cX5_quietNow 35 = .ok (.ireturn, 1) := by decide +kernel
theorem dX5_quiet_0 : decode cX5_quiet 0 = .ok (.aload_n 0, 1) := by decide +kernel
theorem dX5_quiet_1 : decode cX5_quiet 1 = .ok (.invokevirtual 183, 3) := by decide +kernel
theorem dX5_quiet_4 : decode cX5_quiet 4 = .ok (.aload_n 0, 1) := by decide +kernel
theorem dX5_quiet_5 : decode cX5_quiet 5 = .ok (.invokevirtual 189, 3) := by decide +kernel
theorem dX5_quiet_8 : decode cX5_quiet 8 = .ok (.ireturn, 1) := by decide +kernel
theorem dX5_loudestOf_0 : decode cX5_loudestOf 0 = .ok (.iconst 0, 1) := by decide +kernel
theorem dX5_loudestOf_1 : decode cX5_loudestOf 1 = .ok (.istore_n 2, 1) := by decide +kernel
theorem dX5_loudestOf_2 : decode cX5_loudestOf 2 = .ok (.iconst 1, 1) := by decide +kernel
theorem dX5_loudestOf_3 : decode cX5_loudestOf 3 = .ok (.istore_n 3, 1) := by decide +kernel
theorem dX5_loudestOf_4 : decode cX5_loudestOf 4 = .ok (.iload_n 3, 1) := by decide +kernel
theorem dX5_loudestOf_5 : decode cX5_loudestOf 5 = .ok (.bipush 60, 2) := by decide +kernel
theorem dX5_loudestOf_7 : decode cX5_loudestOf 7 = .ok (.if_icmp .ge 36, 3) := by decide +kernel
theorem dX5_loudestOf_10 : decode cX5_loudestOf 10 = .ok (.aload_n 0, 1) := by decide +kernel
theorem dX5_loudestOf_11 : decode cX5_loudestOf 11 = .ok (.getfield 37, 3) := by decide +kernel
theorem dX5_loudestOf_14 : decode cX5_loudestOf 14 = .ok (.iload_n 3, 1) := by decide +kernel
theorem dX5_loudestOf_15 : decode cX5_loudestOf 15 = .ok (.iaload, 1) := by decide +kernel
theorem dX5_loudestOf_16 : decode cX5_loudestOf 16 = .ok (.invokestatic 167, 3) := by decide +kernel
theorem dX5_loudestOf_19 : decode cX5_loudestOf 19 = .ok (.aload_n 0, 1) := by decide +kernel
theorem dX5_loudestOf_20 : decode cX5_loudestOf 20 = .ok (.getfield 37, 3) := by decide +kernel
theorem dX5_loudestOf_23 : decode cX5_loudestOf 23 = .ok (.iload_n 2, 1) := by decide +kernel
theorem dX5_loudestOf_24 : decode cX5_loudestOf 24 = .ok (.iaload, 1) := by decide +kernel
theorem dX5_loudestOf_25 : decode cX5_loudestOf 25 = .ok (.invokestatic 167, 3) := by decide +kernel
theorem dX5_loudestOf_28 : decode cX5_loudestOf 28 = .ok (.if_icmp .le 7, 3) := by decide +kernel
theorem dX5_loudestOf_31 : decode cX5_loudestOf 31 = .ok (.iload_n 3, 1) := by decide +kernel
theorem dX5_loudestOf_32 : decode cX5_loudestOf 32 = .ok (.goto 4, 3) := by decide +kernel
theorem dX5_loudestOf_35 : decode cX5_loudestOf 35 = .ok (.iload_n 2, 1) := by decide +kernel
theorem dX5_loudestOf_36 : decode cX5_loudestOf 36 = .ok (.istore_n 2, 1) := by decide +kernel
theorem dX5_loudestOf_37 : decode cX5_loudestOf 37 = .ok (.iinc 3 1, 3) := by decide +kernel
theorem dX5_loudestOf_40 : decode cX5_loudestOf 40 = .ok (.goto (-36), 3) := by decide +kernel
theorem dX5_loudestOf_43 : decode cX5_loudestOf 43 = .ok (.aload_n 0, 1) := by decide +kernel
theorem dX5_loudestOf_44 : decode cX5_loudestOf 44 = .ok (.getfield 37, 3) := by decide +kernel
theorem dX5_loudestOf_47 : decode cX5_loudestOf 47 = .ok (.iload_n 2, 1) := by decide +kernel
theorem dX5_loudestOf_48 : decode cX5_loudestOf 48 = .ok (.iaload, 1) := by decide +kernel
theorem dX5_loudestOf_49 : decode cX5_loudestOf 49 = .ok (.ifCond .ne 7, 3) := by decide +kernel
theorem dX5_loudestOf_52 : decode cX5_loudestOf 52 = .ok (.iconst (-1), 1) := by decide +kernel
theorem dX5_loudestOf_53 : decode cX5_loudestOf 53 = .ok (.goto 20, 3) := by decide +kernel
theorem dX5_loudestOf_56 : decode cX5_loudestOf 56 = .ok (.iload_n 1, 1) := by decide +kernel
theorem dX5_loudestOf_57 : decode cX5_loudestOf 57 = .ok (.ifCond .ne 7, 3) := by decide +kernel
theorem dX5_loudestOf_60 : decode cX5_loudestOf 60 = .ok (.iload_n 2, 1) := by decide +kernel
theorem dX5_loudestOf_61 : decode cX5_loudestOf 61 = .ok (.goto 12, 3) := by decide +kernel
theorem dX5_loudestOf_64 : decode cX5_loudestOf 64 = .ok (.aload_n 0, 1) := by decide +kernel
theorem dX5_loudestOf_65 : decode cX5_loudestOf 65 = .ok (.getfield 37, 3) := by decide +kernel
theorem dX5_loudestOf_68 : decode cX5_loudestOf 68 = .ok (.iload_n 2, 1) := by decide +kernel
theorem dX5_loudestOf_69 : decode cX5_loudestOf 69 = .ok (.iaload, 1) := by decide +kernel
theorem dX5_loudestOf_70 : decode cX5_loudestOf 70 = .ok (.invokestatic 167, 3) := by decide +kernel
theorem dX5_loudestOf_73 : decode cX5_loudestOf 73 = .ok (.ireturn, 1) := by decide +kernel
theorem dX5_loudest_0 : decode cX5_loudest 0 = .ok (.aload_n 0, 1) := by decide +kernel
theorem dX5_loudest_1 : decode cX5_loudest 1 = .ok (.invokevirtual 183, 3) := by decide +kernel
theorem dX5_loudest_4 : decode cX5_loudest 4 = .ok (.iload_n 1, 1) := by decide +kernel
theorem dX5_loudest_5 : decode cX5_loudest 5 = .ok (.invokestatic 186, 3) := by decide +kernel
theorem dX5_loudest_8 : decode cX5_loudest 8 = .ok (.ifCond .eq 11, 3) := by decide +kernel
theorem dX5_loudest_11 : decode cX5_loudest 11 = .ok (.aload_n 0, 1) := by decide +kernel
theorem dX5_loudest_12 : decode cX5_loudest 12 = .ok (.iload_n 1, 1) := by decide +kernel
theorem dX5_loudest_13 : decode cX5_loudest 13 = .ok (.invokevirtual 192, 3) := by decide +kernel
theorem dX5_loudest_16 : decode cX5_loudest 16 = .ok (.goto 5, 3) := by decide +kernel
theorem dX5_loudest_19 : decode cX5_loudest 19 = .ok (.bipush (-2), 2) := by decide +kernel
theorem dX5_loudest_21 : decode cX5_loudest 21 = .ok (.ireturn, 1) := by decide +kernel
theorem dX5_firstOf_0 : decode cX5_firstOf 0 = .ok (.iconst 0, 1) := by decide +kernel
theorem dX5_firstOf_1 : decode cX5_firstOf 1 = .ok (.istore_n 2, 1) := by decide +kernel
theorem dX5_firstOf_2 : decode cX5_firstOf 2 = .ok (.iload_n 2, 1) := by decide +kernel
theorem dX5_firstOf_3 : decode cX5_firstOf 3 = .ok (.bipush 60, 2) := by decide +kernel
theorem dX5_firstOf_5 : decode cX5_firstOf 5 = .ok (.if_icmp .ge 24, 3) := by decide +kernel
theorem dX5_firstOf_8 : decode cX5_firstOf 8 = .ok (.aload_n 0, 1) := by decide +kernel
theorem dX5_firstOf_9 : decode cX5_firstOf 9 = .ok (.getfield 37, 3) := by decide +kernel
theorem dX5_firstOf_12 : decode cX5_firstOf 12 = .ok (.iload_n 2, 1) := by decide +kernel
theorem dX5_firstOf_13 : decode cX5_firstOf 13 = .ok (.iaload, 1) := by decide +kernel
theorem dX5_firstOf_14 : decode cX5_firstOf 14 = .ok (.iload_n 1, 1) := by decide +kernel
theorem dX5_firstOf_15 : decode cX5_firstOf 15 = .ok (.invokestatic 157, 3) := by decide +kernel
theorem dX5_firstOf_18 : decode cX5_firstOf 18 = .ok (.ifCond .eq 5, 3) := by decide +kernel
theorem dX5_firstOf_21 : decode cX5_firstOf 21 = .ok (.iload_n 2, 1) := by decide +kernel
theorem dX5_firstOf_22 : decode cX5_firstOf 22 = .ok (.ireturn, 1) := by decide +kernel
theorem dX5_firstOf_23 : decode cX5_firstOf 23 = .ok (.iinc 2 1, 3) := by decide +kernel
theorem dX5_firstOf_26 : decode cX5_firstOf 26 = .ok (.goto (-24), 3) := by decide +kernel
theorem dX5_firstOf_29 : decode cX5_firstOf 29 = .ok (.iconst (-1), 1) := by decide +kernel
theorem dX5_firstOf_30 : decode cX5_firstOf 30 = .ok (.ireturn, 1) := by decide +kernel
theorem dX5_first_0 : decode cX5_first 0 = .ok (.aload_n 0, 1) := by decide +kernel
theorem dX5_first_1 : decode cX5_first 1 = .ok (.invokevirtual 183, 3) := by decide +kernel
theorem dX5_first_4 : decode cX5_first 4 = .ok (.aload_n 0, 1) := by decide +kernel
theorem dX5_first_5 : decode cX5_first 5 = .ok (.iload_n 1, 1) := by decide +kernel
theorem dX5_first_6 : decode cX5_first 6 = .ok (.invokevirtual 134, 3) := by decide +kernel
theorem dX5_first_9 : decode cX5_first 9 = .ok (.ifCond .eq 11, 3) := by decide +kernel
theorem dX5_first_12 : decode cX5_first 12 = .ok (.aload_n 0, 1) := by decide +kernel
theorem dX5_first_13 : decode cX5_first 13 = .ok (.iload_n 1, 1) := by decide +kernel
theorem dX5_first_14 : decode cX5_first 14 = .ok (.invokevirtual 195, 3) := by decide +kernel
theorem dX5_first_17 : decode cX5_first 17 = .ok (.goto 5, 3) := by decide +kernel
theorem dX5_first_20 : decode cX5_first 20 = .ok (.bipush (-2), 2) := by decide +kernel
theorem dX5_first_22 : decode cX5_first 22 = .ok (.ireturn, 1) := by decide +kernel
theorem dX5_areTwo_0 : decode cX5_areTwo 0 = .ok (.aload_n 0, 1) := by decide +kernel
theorem dX5_areTwo_1 : decode cX5_areTwo 1 = .ok (.iload_n 1, 1) := by decide +kernel
theorem dX5_areTwo_2 : decode cX5_areTwo 2 = .ok (.invokevirtual 134, 3) := by decide +kernel
theorem dX5_areTwo_5 : decode cX5_areTwo 5 = .ok (.ifCond .eq 20, 3) := by decide +kernel
theorem dX5_areTwo_8 : decode cX5_areTwo 8 = .ok (.aload_n 0, 1) := by decide +kernel
theorem dX5_areTwo_9 : decode cX5_areTwo 9 = .ok (.iload_n 2, 1) := by decide +kernel
theorem dX5_areTwo_10 : decode cX5_areTwo 10 = .ok (.invokevirtual 134, 3) := by decide +kernel
theorem dX5_areTwo_13 : decode cX5_areTwo 13 = .ok (.ifCond .eq 12, 3) := by decide +kernel
theorem dX5_areTwo_16 : decode cX5_areTwo 16 = .ok (.iload_n 1, 1) := by decide +kernel
theorem dX5_areTwo_17 : decode cX5_areTwo 17 = .ok (.iload_n 2, 1) := by decide +kernel
theorem dX5_areTwo_18 : decode cX5_areTwo 18 = .ok (.if_icmp .eq 7, 3) := by decide +kernel
theorem dX5_areTwo_21 : decode cX5_areTwo 21 = .ok (.iconst 1, 1) := by decide +kernel
theorem dX5_areTwo_22 : decode cX5_areTwo 22 = .ok (.goto 4, 3) := by decide +kernel
theorem dX5_areTwo_25 : decode cX5_areTwo 25 = .ok (.iconst 0, 1) := by decide +kernel
theorem dX5_areTwo_26 : decode cX5_areTwo 26 = .ok (.ireturn, 1) := by decide +kernel
theorem dX5_togetherOf_0 : decode cX5_togetherOf 0 = .ok (.iconst 0, 1) := by decide +kernel
theorem dX5_togetherOf_1 : decode cX5_togetherOf 1 = .ok (.istore_n 3, 1) := by decide +kernel
theorem dX5_togetherOf_2 : decode cX5_togetherOf 2 = .ok (.iconst 0, 1) := by decide +kernel
theorem dX5_togetherOf_3 : decode cX5_togetherOf 3 = .ok (.istore 4, 2) := by decide +kernel
theorem dX5_togetherOf_5 : decode cX5_togetherOf 5 = .ok (.iload 4, 2) := by decide +kernel
theorem dX5_togetherOf_7 : decode cX5_togetherOf 7 = .ok (.bipush 60, 2) := by decide +kernel
theorem dX5_togetherOf_9 : decode cX5_togetherOf 9 = .ok (.if_icmp .ge 45, 3) := by decide +kernel
theorem dX5_togetherOf_12 : decode cX5_togetherOf 12 = .ok (.iload_n 3, 1) := by decide +kernel
theorem dX5_togetherOf_13 : decode cX5_togetherOf 13 = .ok (.aload_n 0, 1) := by decide +kernel
theorem dX5_togetherOf_14 : decode cX5_togetherOf 14 = .ok (.getfield 40, 3) := by decide +kernel
theorem dX5_togetherOf_17 : decode cX5_togetherOf 17 = .ok (.iload 4, 2) := by decide +kernel
theorem dX5_togetherOf_19 : decode cX5_togetherOf 19 = .ok (.iaload, 1) := by decide +kernel
theorem dX5_togetherOf_20 : decode cX5_togetherOf 20 = .ok (.iload_n 1, 1) := by decide +kernel
theorem dX5_togetherOf_21 : decode cX5_togetherOf 21 = .ok (.invokestatic 157, 3) := by decide +kernel
theorem dX5_togetherOf_24 : decode cX5_togetherOf 24 = .ok (.ifCond .eq 21, 3) := by decide +kernel
theorem dX5_togetherOf_27 : decode cX5_togetherOf 27 = .ok (.aload_n 0, 1) := by decide +kernel
theorem dX5_togetherOf_28 : decode cX5_togetherOf 28 = .ok (.getfield 40, 3) := by decide +kernel
theorem dX5_togetherOf_31 : decode cX5_togetherOf 31 = .ok (.iload 4, 2) := by decide +kernel
theorem dX5_togetherOf_33 : decode cX5_togetherOf 33 = .ok (.iaload, 1) := by decide +kernel
theorem dX5_togetherOf_34 : decode cX5_togetherOf 34 = .ok (.iload_n 2, 1) := by decide +kernel
theorem dX5_togetherOf_35 : decode cX5_togetherOf 35 = .ok (.invokestatic 157, 3) := by decide +kernel
theorem dX5_togetherOf_38 : decode cX5_togetherOf 38 = .ok (.ifCond .eq 7, 3) := by decide +kernel
theorem dX5_togetherOf_41 : decode cX5_togetherOf 41 = .ok (.iconst 1, 1) := by decide +kernel
theorem dX5_togetherOf_42 : decode cX5_togetherOf 42 = .ok (.goto 4, 3) := by decide +kernel
theorem dX5_togetherOf_45 : decode cX5_togetherOf 45 = .ok (.iconst 0, 1) := by decide +kernel
theorem dX5_togetherOf_46 : decode cX5_togetherOf 46 = .ok (.iadd, 1) := by decide +kernel
theorem dX5_togetherOf_47 : decode cX5_togetherOf 47 = .ok (.istore_n 3, 1) := by decide +kernel
theorem dX5_togetherOf_48 : decode cX5_togetherOf 48 = .ok (.iinc 4 1, 3) := by decide +kernel
theorem dX5_togetherOf_51 : decode cX5_togetherOf 51 = .ok (.goto (-46), 3) := by decide +kernel
theorem dX5_togetherOf_54 : decode cX5_togetherOf 54 = .ok (.iload_n 3, 1) := by decide +kernel
theorem dX5_togetherOf_55 : decode cX5_togetherOf 55 = .ok (.ireturn, 1) := by decide +kernel
theorem dX5_together_0 : decode cX5_together 0 = .ok (.aload_n 0, 1) := by decide +kernel
theorem dX5_together_1 : decode cX5_together 1 = .ok (.invokevirtual 183, 3) := by decide +kernel
theorem dX5_together_4 : decode cX5_together 4 = .ok (.aload_n 0, 1) := by decide +kernel
theorem dX5_together_5 : decode cX5_together 5 = .ok (.iload_n 1, 1) := by decide +kernel
theorem dX5_together_6 : decode cX5_together 6 = .ok (.iload_n 2, 1) := by decide +kernel
theorem dX5_together_7 : decode cX5_together 7 = .ok (.invokevirtual 198, 3) := by decide +kernel
theorem dX5_together_10 : decode cX5_together 10 = .ok (.ifCond .eq 12, 3) := by decide +kernel
theorem dX5_together_13 : decode cX5_together 13 = .ok (.aload_n 0, 1) := by decide +kernel
theorem dX5_together_14 : decode cX5_together 14 = .ok (.iload_n 1, 1) := by decide +kernel
theorem dX5_together_15 : decode cX5_together 15 = .ok (.iload_n 2, 1) := by decide +kernel
theorem dX5_together_16 : decode cX5_together 16 = .ok (.invokevirtual 201, 3) := by decide +kernel
theorem dX5_together_19 : decode cX5_together 19 = .ok (.goto 5, 3) := by decide +kernel
theorem dX5_together_22 : decode cX5_together 22 = .ok (.bipush (-2), 2) := by decide +kernel
theorem dX5_together_24 : decode cX5_together 24 = .ok (.ireturn, 1) := by decide +kernel
theorem dX5_haveIt_0 : decode cX5_haveIt 0 = .ok (.iconst 1, 1) := by decide +kernel
theorem dX5_haveIt_1 : decode cX5_haveIt 1 = .ok (.iload_n 1, 1) := by decide +kernel
theorem dX5_haveIt_2 : decode cX5_haveIt 2 = .ok (.ishl, 1) := by decide +kernel
theorem dX5_haveIt_3 : decode cX5_haveIt 3 = .ok (.istore 4, 2) := by decide +kernel
theorem dX5_haveIt_5 : decode cX5_haveIt 5 = .ok (.iload_n 2, 1) := by decide +kernel
theorem dX5_haveIt_6 : decode cX5_haveIt 6 = .ok (.istore 5, 2) := by decide +kernel
theorem dX5_haveIt_8 : decode cX5_haveIt 8 = .ok (.iload 5, 2) := by decide +kernel
theorem dX5_haveIt_10 : decode cX5_haveIt 10 = .ok (.iload_n 3, 1) := by decide +kernel
theorem dX5_haveIt_11 : decode cX5_haveIt 11 = .ok (.if_icmp .gt 38, 3) := by decide +kernel
theorem dX5_haveIt_14 : decode cX5_haveIt 14 = .ok (.iload 4, 2) := by decide +kernel
theorem dX5_haveIt_16 : decode cX5_haveIt 16 = .ok (.aload_n 0, 1) := by decide +kernel
theorem dX5_haveIt_17 : decode cX5_haveIt 17 = .ok (.getfield 40, 3) := by decide +kernel
theorem dX5_haveIt_20 : decode cX5_haveIt 20 = .ok (.iload 5, 2) := by decide +kernel
theorem dX5_haveIt_22 : decode cX5_haveIt 22 = .ok (.iaload, 1) := by decide +kernel
theorem dX5_haveIt_23 : decode cX5_haveIt 23 = .ok (.iload 4, 2) := by decide +kernel
theorem dX5_haveIt_25 : decode cX5_haveIt 25 = .ok (.iand, 1) := by decide +kernel
theorem dX5_haveIt_26 : decode cX5_haveIt 26 = .ok (.ifCond .eq 13, 3) := by decide +kernel
theorem dX5_haveIt_29 : decode cX5_haveIt 29 = .ok (.aload_n 0, 1) := by decide +kernel
theorem dX5_haveIt_30 : decode cX5_haveIt 30 = .ok (.getfield 40, 3) := by decide +kernel
theorem dX5_haveIt_33 : decode cX5_haveIt 33 = .ok (.iload 5, 2) := by decide +kernel
theorem dX5_haveIt_35 : decode cX5_haveIt 35 = .ok (.iaload, 1) := by decide +kernel
theorem dX5_haveIt_36 : decode cX5_haveIt 36 = .ok (.goto 4, 3) := by decide +kernel
theorem dX5_haveIt_39 : decode cX5_haveIt 39 = .ok (.iconst 0, 1) := by decide +kernel
theorem dX5_haveIt_40 : decode cX5_haveIt 40 = .ok (.ior, 1) := by decide +kernel
theorem dX5_haveIt_41 : decode cX5_haveIt 41 = .ok (.istore 4, 2) := by decide +kernel
theorem dX5_haveIt_43 : decode cX5_haveIt 43 = .ok (.iinc 5 1, 3) := by decide +kernel
theorem dX5_haveIt_46 : decode cX5_haveIt 46 = .ok (.goto (-38), 3) := by decide +kernel
theorem dX5_haveIt_49 : decode cX5_haveIt 49 = .ok (.iload 4, 2) := by decide +kernel
theorem dX5_haveIt_51 : decode cX5_haveIt 51 = .ok (.ireturn, 1) := by decide +kernel
theorem dX5_newsOf_0 : decode cX5_newsOf 0 = .ok (.iload_n 2, 1) := by decide +kernel
theorem dX5_newsOf_1 : decode cX5_newsOf 1 = .ok (.istore 4, 2) := by decide +kernel
theorem dX5_newsOf_3 : decode cX5_newsOf 3 = .ok (.iload 4, 2) := by decide +kernel
theorem dX5_newsOf_5 : decode cX5_newsOf 5 = .ok (.bipush 60, 2) := by decide +kernel
theorem dX5_newsOf_7 : decode cX5_newsOf 7 = .ok (.if_icmp .ge 27, 3) := by decide +kernel
theorem dX5_newsOf_10 : decode cX5_newsOf 10 = .ok (.aload_n 0, 1) := by decide +kernel
theorem dX5_newsOf_11 : decode cX5_newsOf 11 = .ok (.iload_n 1, 1) := by decide +kernel
theorem dX5_newsOf_12 : decode cX5_newsOf 12 = .ok (.iload_n 2, 1) := by decide +kernel
theorem dX5_newsOf_13 : decode cX5_newsOf 13 = .ok (.iload 4, 2) := by decide +kernel
theorem dX5_newsOf_15 : decode cX5_newsOf 15 = .ok (.invokevirtual 204, 3) := by decide +kernel
theorem dX5_newsOf_18 : decode cX5_newsOf 18 = .ok (.iload_n 3, 1) := by decide +kernel
theorem dX5_newsOf_19 : decode cX5_newsOf 19 = .ok (.invokestatic 157, 3) := by decide +kernel
theorem dX5_newsOf_22 : decode cX5_newsOf 22 = .ok (.ifCond .eq 6, 3) := by decide +kernel
theorem dX5_newsOf_25 : decode cX5_newsOf 25 = .ok (.iload 4, 2) := by decide +kernel
theorem dX5_newsOf_27 : decode cX5_newsOf 27 = .ok (.ireturn, 1) := by decide +kernel
theorem dX5_newsOf_28 : decode cX5_newsOf 28 = .ok (.iinc 4 1, 3) := by decide +kernel
theorem dX5_newsOf_31 : decode cX5_newsOf 31 = .ok (.goto (-28), 3) := by decide +kernel
theorem dX5_newsOf_34 : decode cX5_newsOf 34 = .ok (.iconst (-1), 1) := by decide +kernel
theorem dX5_newsOf_35 : decode cX5_newsOf 35 = .ok (.ireturn, 1) := by decide +kernel
theorem dX5_news_0 : decode cX5_news 0 = .ok (.aload_n 0, 1) := by decide +kernel
theorem dX5_news_1 : decode cX5_news 1 = .ok (.invokevirtual 183, 3) := by decide +kernel
theorem dX5_news_4 : decode cX5_news 4 = .ok (.aload_n 0, 1) := by decide +kernel
theorem dX5_news_5 : decode cX5_news 5 = .ok (.iload_n 1, 1) := by decide +kernel
theorem dX5_news_6 : decode cX5_news 6 = .ok (.iload_n 3, 1) := by decide +kernel
theorem dX5_news_7 : decode cX5_news 7 = .ok (.invokevirtual 198, 3) := by decide +kernel
theorem dX5_news_10 : decode cX5_news 10 = .ok (.ifCond .eq 20, 3) := by decide +kernel
theorem dX5_news_13 : decode cX5_news 13 = .ok (.iload_n 2, 1) := by decide +kernel
theorem dX5_news_14 : decode cX5_news 14 = .ok (.invokestatic 145, 3) := by decide +kernel
theorem dX5_news_17 : decode cX5_news 17 = .ok (.ifCond .eq 13, 3) := by decide +kernel
theorem dX5_news_20 : decode cX5_news 20 = .ok (.aload_n 0, 1) := by decide +kernel
theorem dX5_news_21 : decode cX5_news 21 = .ok (.iload_n 1, 1) := by decide +kernel
theorem dX5_news_22 : decode cX5_news 22 = .ok (.iload_n 2, 1) := by decide +kernel
theorem dX5_news_23 : decode cX5_news 23 = .ok (.iload_n 3, 1) := by decide +kernel
theorem dX5_news_24 : decode cX5_news 24 = .ok (.invokevirtual 207, 3) := by decide +kernel
theorem dX5_news_27 : decode cX5_news 27 = .ok (.goto 5, 3) := by decide +kernel
theorem dX5_news_30 : decode cX5_news 30 = .ok (.bipush (-2), 2) := by decide +kernel
theorem dX5_news_32 : decode cX5_news 32 = .ok (.ireturn, 1) := by decide +kernel
theorem dX5_hears_0 : decode cX5_hears 0 = .ok (.aload_n 0, 1) := by decide +kernel
theorem dX5_hears_1 : decode cX5_hears 1 = .ok (.invokevirtual 183, 3) := by decide +kernel
theorem dX5_hears_4 : decode cX5_hears 4 = .ok (.aload_n 0, 1) := by decide +kernel
theorem dX5_hears_5 : decode cX5_hears 5 = .ok (.iload_n 1, 1) := by decide +kernel
theorem dX5_hears_6 : decode cX5_hears 6 = .ok (.invokevirtual 134, 3) := by decide +kernel
theorem dX5_hears_9 : decode cX5_hears 9 = .ok (.ifCond .eq 21, 3) := by decide +kernel
theorem dX5_hears_12 : decode cX5_hears 12 = .ok (.iload_n 2, 1) := by decide +kernel
theorem dX5_hears_13 : decode cX5_hears 13 = .ok (.invokestatic 145, 3) := by decide +kernel
theorem dX5_hears_16 : decode cX5_hears 16 = .ok (.ifCond .eq 14, 3) := by decide +kernel
theorem dX5_hears_19 : decode cX5_hears 19 = .ok (.aload_n 0, 1) := by decide +kernel
theorem dX5_hears_20 : decode cX5_hears 20 = .ok (.iload_n 1, 1) := by decide +kernel
theorem dX5_hears_21 : decode cX5_hears 21 = .ok (.iload_n 2, 1) := by decide +kernel
theorem dX5_hears_22 : decode cX5_hears 22 = .ok (.bipush 59, 2) := by decide +kernel
theorem dX5_hears_24 : decode cX5_hears 24 = .ok (.invokevirtual 204, 3) := by decide +kernel
theorem dX5_hears_27 : decode cX5_hears 27 = .ok (.goto 5, 3) := by decide +kernel
theorem dX5_hears_30 : decode cX5_hears 30 = .ok (.bipush (-2), 2) := by decide +kernel
theorem dX5_hears_32 : decode cX5_hears 32 = .ok (.ireturn, 1) := by decide +kernel
theorem dX5_tells_0 : decode cX5_tells 0 = .ok (.iload_n 0, 1) := by decide +kernel
theorem dX5_tells_1 : decode cX5_tells 1 = .ok (.iconst (-1), 1) := by decide +kernel
theorem dX5_tells_2 : decode cX5_tells 2 = .ok (.if_icmp .eq 8, 3) := by decide +kernel
theorem dX5_tells_5 : decode cX5_tells 5 = .ok (.iload_n 1, 1) := by decide +kernel
theorem dX5_tells_6 : decode cX5_tells 6 = .ok (.iconst 1, 1) := by decide +kernel
theorem dX5_tells_7 : decode cX5_tells 7 = .ok (.if_icmp .ne 7, 3) := by decide +kernel
theorem dX5_tells_10 : decode cX5_tells 10 = .ok (.iload_n 0, 1) := by decide +kernel
theorem dX5_tells_11 : decode cX5_tells 11 = .ok (.goto 7, 3) := by decide +kernel
theorem dX5_tells_14 : decode cX5_tells 14 = .ok (.iload_n 0, 1) := by decide +kernel
theorem dX5_tells_15 : decode cX5_tells 15 = .ok (.invokestatic 167, 3) := by decide +kernel
theorem dX5_tells_18 : decode cX5_tells 18 = .ok (.ireturn, 1) := by decide +kernel
theorem dX5_hushOf_0 : decode cX5_hushOf 0 = .ok (.iconst (-1), 1) := by decide +kernel
theorem dX5_hushOf_1 : decode cX5_hushOf 1 = .ok (.istore_n 2, 1) := by decide +kernel
theorem dX5_hushOf_2 : decode cX5_hushOf 2 = .ok (.iconst 0, 1) := by decide +kernel
theorem dX5_hushOf_3 : decode cX5_hushOf 3 = .ok (.istore_n 3, 1) := by decide +kernel
theorem dX5_hushOf_4 : decode cX5_hushOf 4 = .ok (.iload_n 3, 1) := by decide +kernel
theorem dX5_hushOf_5 : decode cX5_hushOf 5 = .ok (.iconst 1, 1) := by decide +kernel
theorem dX5_hushOf_6 : decode cX5_hushOf 6 = .ok (.aload_n 0, 1) := by decide +kernel
theorem dX5_hushOf_7 : decode cX5_hushOf 7 = .ok (.getfield 109, 3) := by decide +kernel
theorem dX5_hushOf_10 : decode cX5_hushOf 10 = .ok (.ishl, 1) := by decide +kernel
theorem dX5_hushOf_11 : decode cX5_hushOf 11 = .ok (.if_icmp .ge 64, 3) := by decide +kernel
theorem dX5_hushOf_14 : decode cX5_hushOf 14 = .ok (.iload_n 3, 1) := by decide +kernel
theorem dX5_hushOf_15 : decode cX5_hushOf 15 = .ok (.aload_n 0, 1) := by decide +kernel
theorem dX5_hushOf_16 : decode cX5_hushOf 16 = .ok (.getfield 142, 3) := by decide +kernel
theorem dX5_hushOf_19 : decode cX5_hushOf 19 = .ok (.iand, 1) := by decide +kernel
theorem dX5_hushOf_20 : decode cX5_hushOf 20 = .ok (.ifCond .ne 49, 3) := by decide +kernel
theorem dX5_hushOf_23 : decode cX5_hushOf 23 = .ok (.iload_n 2, 1) := by decide +kernel
theorem dX5_hushOf_24 : decode cX5_hushOf 24 = .ok (.iconst (-1), 1) := by decide +kernel
theorem dX5_hushOf_25 : decode cX5_hushOf 25 = .ok (.if_icmp .eq 14, 3) := by decide +kernel
theorem dX5_hushOf_28 : decode cX5_hushOf 28 = .ok (.iload_n 3, 1) := by decide +kernel
theorem dX5_hushOf_29 : decode cX5_hushOf 29 = .ok (.invokestatic 167, 3) := by decide +kernel
theorem dX5_hushOf_32 : decode cX5_hushOf 32 = .ok (.iload_n 2, 1) := by decide +kernel
theorem dX5_hushOf_33 : decode cX5_hushOf 33 = .ok (.invokestatic 167, 3) := by decide +kernel
theorem dX5_hushOf_36 : decode cX5_hushOf 36 = .ok (.if_icmp .ge 33, 3) := by decide +kernel
theorem dX5_hushOf_39 : decode cX5_hushOf 39 = .ok (.aload_n 0, 1) := by decide +kernel
theorem dX5_hushOf_40 : decode cX5_hushOf 40 = .ok (.aload_n 0, 1) := by decide +kernel
theorem dX5_hushOf_41 : decode cX5_hushOf 41 = .ok (.getfield 142, 3) := by decide +kernel
theorem dX5_hushOf_44 : decode cX5_hushOf 44 = .ok (.iload_n 3, 1) := by decide +kernel
theorem dX5_hushOf_45 : decode cX5_hushOf 45 = .ok (.ior, 1) := by decide +kernel
theorem dX5_hushOf_46 : decode cX5_hushOf 46 = .ok (.putfield 154, 3) := by decide +kernel
theorem dX5_hushOf_49 : decode cX5_hushOf 49 = .ok (.aload_n 0, 1) := by decide +kernel
theorem dX5_hushOf_50 : decode cX5_hushOf 50 = .ok (.iload_n 1, 1) := by decide +kernel
theorem dX5_hushOf_51 : decode cX5_hushOf 51 = .ok (.invokevirtual 179, 3) := by decide +kernel
theorem dX5_hushOf_54 : decode cX5_hushOf 54 = .ok (.aload_n 0, 1) := by decide +kernel
theorem dX5_hushOf_55 : decode cX5_hushOf 55 = .ok (.getfield 40, 3) := by decide +kernel
theorem dX5_hushOf_58 : decode cX5_hushOf 58 = .ok (.iload_n 1, 1) := by decide +kernel
theorem dX5_hushOf_59 : decode cX5_hushOf 59 = .ok (.iaload, 1) := by decide +kernel
theorem dX5_hushOf_60 : decode cX5_hushOf 60 = .ok (.ifCond .ne 7, 3) := by decide +kernel
theorem dX5_hushOf_63 : decode cX5_hushOf 63 = .ok (.iload_n 3, 1) := by decide +kernel
theorem dX5_hushOf_64 : decode cX5_hushOf 64 = .ok (.goto 4, 3) := by decide +kernel
theorem dX5_hushOf_67 : decode cX5_hushOf 67 = .ok (.iload_n 2, 1) := by decide +kernel
theorem dX5_hushOf_68 : decode cX5_hushOf 68 = .ok (.istore_n 2, 1) := by decide +kernel
theorem dX5_hushOf_69 : decode cX5_hushOf 69 = .ok (.iinc 3 1, 3) := by decide +kernel
theorem dX5_hushOf_72 : decode cX5_hushOf 72 = .ok (.goto (-68), 3) := by decide +kernel
theorem dX5_hushOf_75 : decode cX5_hushOf 75 = .ok (.aload_n 0, 1) := by decide +kernel
theorem dX5_hushOf_76 : decode cX5_hushOf 76 = .ok (.aload_n 0, 1) := by decide +kernel
theorem dX5_hushOf_77 : decode cX5_hushOf 77 = .ok (.getfield 142, 3) := by decide +kernel
theorem dX5_hushOf_80 : decode cX5_hushOf 80 = .ok (.putfield 154, 3) := by decide +kernel
theorem dX5_hushOf_83 : decode cX5_hushOf 83 = .ok (.aload_n 0, 1) := by decide +kernel
theorem dX5_hushOf_84 : decode cX5_hushOf 84 = .ok (.bipush 59, 2) := by decide +kernel
theorem dX5_hushOf_86 : decode cX5_hushOf 86 = .ok (.invokevirtual 179, 3) := by decide +kernel
theorem dX5_hushOf_89 : decode cX5_hushOf 89 = .ok (.iload_n 2, 1) := by decide +kernel
theorem dX5_hushOf_90 : decode cX5_hushOf 90 = .ok (.ireturn, 1) := by decide +kernel
theorem dX5_hush_0 : decode cX5_hush 0 = .ok (.aload_n 0, 1) := by decide +kernel
theorem dX5_hush_1 : decode cX5_hush 1 = .ok (.invokevirtual 183, 3) := by decide +kernel
theorem dX5_hush_4 : decode cX5_hush 4 = .ok (.iload_n 1, 1) := by decide +kernel
theorem dX5_hush_5 : decode cX5_hush 5 = .ok (.invokestatic 145, 3) := by decide +kernel
theorem dX5_hush_8 : decode cX5_hush 8 = .ok (.ifCond .eq 22, 3) := by decide +kernel
theorem dX5_hush_11 : decode cX5_hush 11 = .ok (.iload_n 2, 1) := by decide +kernel
theorem dX5_hush_12 : decode cX5_hush 12 = .ok (.invokestatic 186, 3) := by decide +kernel
theorem dX5_hush_15 : decode cX5_hush 15 = .ok (.ifCond .eq 15, 3) := by decide +kernel
theorem dX5_hush_18 : decode cX5_hush 18 = .ok (.aload_n 0, 1) := by decide +kernel
theorem dX5_hush_19 : decode cX5_hush 19 = .ok (.iload_n 1, 1) := by decide +kernel
theorem dX5_hush_20 : decode cX5_hush 20 = .ok (.invokevirtual 210, 3) := by decide +kernel
theorem dX5_hush_23 : decode cX5_hush 23 = .ok (.iload_n 2, 1) := by decide +kernel
theorem dX5_hush_24 : decode cX5_hush 24 = .ok (.invokestatic 213, 3) := by decide +kernel
theorem dX5_hush_27 : decode cX5_hush 27 = .ok (.goto 5, 3) := by decide +kernel
theorem dX5_hush_30 : decode cX5_hush 30 = .ok (.bipush (-2), 2) := by decide +kernel
theorem dX5_hush_32 : decode cX5_hush 32 = .ok (.ireturn, 1) := by decide +kernel
theorem dX5_unfolds_0 : decode cX5_unfolds 0 = .ok (.iload_n 2, 1) := by decide +kernel
theorem dX5_unfolds_1 : decode cX5_unfolds 1 = .ok (.istore_n 3, 1) := by decide +kernel
theorem dX5_unfolds_2 : decode cX5_unfolds 2 = .ok (.iload_n 1, 1) := by decide +kernel
theorem dX5_unfolds_3 : decode cX5_unfolds 3 = .ok (.iconst 1, 1) := by decide +kernel
theorem dX5_unfolds_4 : decode cX5_unfolds 4 = .ok (.isub, 1) := by decide +kernel
theorem dX5_unfolds_5 : decode cX5_unfolds 5 = .ok (.istore 4, 2) := by decide +kernel
theorem dX5_unfolds_7 : decode cX5_unfolds 7 = .ok (.iload 4, 2) := by decide +kernel
theorem dX5_unfolds_9 : decode cX5_unfolds 9 = .ok (.ifCond .lt 29, 3) := by decide +kernel
theorem dX5_unfolds_12 : decode cX5_unfolds 12 = .ok (.aload_n 0, 1) := by decide +kernel
theorem dX5_unfolds_13 : decode cX5_unfolds 13 = .ok (.getfield 61, 3) := by decide +kernel
theorem dX5_unfolds_16 : decode cX5_unfolds 16 = .ok (.iload 4, 2) := by decide +kernel
theorem dX5_unfolds_18 : decode cX5_unfolds 18 = .ok (.iload_n 3, 1) := by decide +kernel
theorem dX5_unfolds_19 : decode cX5_unfolds 19 = .ok (.iload_n 1, 1) := by decide +kernel
theorem dX5_unfolds_20 : decode cX5_unfolds 20 = .ok (.iload 4, 2) := by decide +kernel
theorem dX5_unfolds_22 : decode cX5_unfolds 22 = .ok (.isub, 1) := by decide +kernel
theorem dX5_unfolds_23 : decode cX5_unfolds 23 = .ok (.irem, 1) := by decide +kernel
theorem dX5_unfolds_24 : decode cX5_unfolds 24 = .ok (.iastore, 1) := by decide +kernel
theorem dX5_unfolds_25 : decode cX5_unfolds 25 = .ok (.iload_n 3, 1) := by decide +kernel
theorem dX5_unfolds_26 : decode cX5_unfolds 26 = .ok (.iload_n 1, 1) := by decide +kernel
theorem dX5_unfolds_27 : decode cX5_unfolds 27 = .ok (.iload 4, 2) := by decide +kernel
theorem dX5_unfolds_29 : decode cX5_unfolds 29 = .ok (.isub, 1) := by decide +kernel
theorem dX5_unfolds_30 : decode cX5_unfolds 30 = .ok (.idiv, 1) := by decide +kernel
theorem dX5_unfolds_31 : decode cX5_unfolds 31 = .ok (.istore_n 3, 1) := by decide +kernel
theorem dX5_unfolds_32 : decode cX5_unfolds 32 = .ok (.iinc 4 (-1), 3) := by decide +kernel
theorem dX5_unfolds_35 : decode cX5_unfolds 35 = .ok (.goto (-28), 3) := by decide +kernel
theorem dX5_unfolds_38 : decode cX5_unfolds 38 = .ok (.iload_n 1, 1) := by decide +kernel
theorem dX5_unfolds_39 : decode cX5_unfolds 39 = .ok (.iconst 1, 1) := by decide +kernel
theorem dX5_unfolds_40 : decode cX5_unfolds 40 = .ok (.isub, 1) := by decide +kernel
theorem dX5_unfolds_41 : decode cX5_unfolds 41 = .ok (.istore 4, 2) := by decide +kernel
theorem dX5_unfolds_43 : decode cX5_unfolds 43 = .ok (.iload 4, 2) := by decide +kernel
theorem dX5_unfolds_45 : decode cX5_unfolds 45 = .ok (.ifCond .lt 59, 3) := by decide +kernel
theorem dX5_unfolds_48 : decode cX5_unfolds 48 = .ok (.iload 4, 2) := by decide +kernel
theorem dX5_unfolds_50 : decode cX5_unfolds 50 = .ok (.iconst 1, 1) := by decide +kernel
theorem dX5_unfolds_51 : decode cX5_unfolds 51 = .ok (.iadd, 1) := by decide +kernel
theorem dX5_unfolds_52 : decode cX5_unfolds 52 = .ok (.istore 5, 2) := by decide +kernel
theorem dX5_unfolds_54 : decode cX5_unfolds 54 = .ok (.iload 5, 2) := by decide +kernel
theorem dX5_unfolds_56 : decode cX5_unfolds 56 = .ok (.iload_n 1, 1) := by decide +kernel
theorem dX5_unfolds_57 : decode cX5_unfolds 57 = .ok (.if_icmp .ge 41, 3) := by decide +kernel
theorem dX5_unfolds_60 : decode cX5_unfolds 60 = .ok (.aload_n 0, 1) := by decide +kernel
theorem dX5_unfolds_61 : decode cX5_unfolds 61 = .ok (.getfield 61, 3) := by decide +kernel
theorem dX5_unfolds_64 : decode cX5_unfolds 64 = .ok (.iload 5, 2) := by decide +kernel
theorem dX5_unfolds_66 : decode cX5_unfolds 66 = .ok (.dup2, 1) := by decide +kernel
theorem dX5_unfolds_67 : decode cX5_unfolds 67 = .ok (.iaload, 1) := by decide +kernel
theorem dX5_unfolds_68 : decode cX5_unfolds 68 = .ok (.aload_n 0, 1) := by decide +kernel
theorem dX5_unfolds_69 : decode cX5_unfolds 69 = .ok (.getfield 61, 3) := by decide +kernel
theorem dX5_unfolds_72 : decode cX5_unfolds 72 = .ok (.iload 5, 2) := by decide +kernel
theorem dX5_unfolds_74 : decode cX5_unfolds 74 = .ok (.iaload, 1) := by decide +kernel
theorem dX5_unfolds_75 : decode cX5_unfolds 75 = .ok (.aload_n 0, 1) := by decide +kernel
theorem dX5_unfolds_76 : decode cX5_unfolds 76 = .ok (.getfield 61, 3) := by decide +kernel
theorem dX5_unfolds_79 : decode cX5_unfolds 79 = .ok (.iload 4, 2) := by decide +kernel
theorem dX5_unfolds_81 : decode cX5_unfolds 81 = .ok (.iaload, 1) := by decide +kernel
theorem dX5_unfolds_82 : decode cX5_unfolds 82 = .ok (.if_icmp .lt 7, 3) := by decide +kernel
theorem dX5_unfolds_85 : decode cX5_unfolds 85 = .ok (.iconst 1, 1) := by decide +kernel
theorem dX5_unfolds_86 : decode cX5_unfolds 86 = .ok (.goto 4, 3) := by decide +kernel
theorem dX5_unfolds_89 : decode cX5_unfolds 89 = .ok (.iconst 0, 1) := by decide +kernel
theorem dX5_unfolds_90 : decode cX5_unfolds 90 = .ok (.iadd, 1) := by decide +kernel
theorem dX5_unfolds_91 : decode cX5_unfolds 91 = .ok (.iastore, 1) := by decide +kernel
theorem dX5_unfolds_92 : decode cX5_unfolds 92 = .ok (.iinc 5 1, 3) := by decide +kernel
theorem dX5_unfolds_95 : decode cX5_unfolds 95 = .ok (.goto (-41), 3) := by decide +kernel
theorem dX5_unfolds_98 : decode cX5_unfolds 98 = .ok (.iinc 4 (-1), 3) := by decide +kernel
theorem dX5_unfolds_101 : decode cX5_unfolds 101 = .ok (.goto (-58), 3) := by decide +kernel
theorem dX5_unfolds_104 : decode cX5_unfolds 104 = .ok (.return_, 1) := by decide +kernel
theorem dX5_opened_0 : decode cX5_opened 0 = .ok (.iconst 0, 1) := by decide +kernel
theorem dX5_opened_1 : decode cX5_opened 1 = .ok (.istore_n 2, 1) := by decide +kernel
theorem dX5_opened_2 : decode cX5_opened 2 = .ok (.iconst 0, 1) := by decide +kernel
theorem dX5_opened_3 : decode cX5_opened 3 = .ok (.istore_n 3, 1) := by decide +kernel
theorem dX5_opened_4 : decode cX5_opened 4 = .ok (.iload_n 3, 1) := by decide +kernel
theorem dX5_opened_5 : decode cX5_opened 5 = .ok (.iload_n 1, 1) := by decide +kernel
theorem dX5_opened_6 : decode cX5_opened 6 = .ok (.if_icmp .gt 21, 3) := by decide +kernel
theorem dX5_opened_9 : decode cX5_opened 9 = .ok (.iload_n 2, 1) := by decide +kernel
theorem dX5_opened_10 : decode cX5_opened 10 = .ok (.aload_n 0, 1) := by decide +kernel
theorem dX5_opened_11 : decode cX5_opened 11 = .ok (.getfield 37, 3) := by decide +kernel
theorem dX5_opened_14 : decode cX5_opened 14 = .ok (.iload_n 3, 1) := by decide +kernel
theorem dX5_opened_15 : decode cX5_opened 15 = .ok (.iaload, 1) := by decide +kernel
theorem dX5_opened_16 : decode cX5_opened 16 = .ok (.invokestatic 167, 3) := by decide +kernel
theorem dX5_opened_19 : decode cX5_opened 19 = .ok (.iadd, 1) := by decide +kernel
theorem dX5_opened_20 : decode cX5_opened 20 = .ok (.istore_n 2, 1) := by decide +kernel
theorem dX5_opened_21 : decode cX5_opened 21 = .ok (.iinc 3 1, 3) := by decide +kernel
theorem dX5_opened_24 : decode cX5_opened 24 = .ok (.goto (-20), 3) := by decide +kernel
theorem dX5_opened_27 : decode cX5_opened 27 = .ok (.iload_n 2, 1) := by decide +kernel
theorem dX5_opened_28 : decode cX5_opened 28 = .ok (.ireturn, 1) := by decide +kernel
theorem dX5_findShelf_0 : decode cX5_findShelf 0 = .ok (.iconst 1, 1) := by decide +kernel
theorem dX5_findShelf_1 : decode cX5_findShelf 1 = .ok (.istore_n 3, 1) := by decide +kernel
theorem dX5_findShelf_2 : decode cX5_findShelf 2 = .ok (.iconst 2, 1) := by decide +kernel
theorem dX5_findShelf_3 : decode cX5_findShelf 3 = .ok (.istore 4, 2) := by decide +kernel
theorem dX5_findShelf_5 : decode cX5_findShelf 5 = .ok (.iload 4, 2) := by decide +kernel
theorem dX5_findShelf_7 : decode cX5_findShelf 7 = .ok (.iload_n 1, 1) := by decide +kernel
theorem dX5_findShelf_8 : decode cX5_findShelf 8 = .ok (.if_icmp .gt 14, 3) := by decide +kernel
theorem dX5_findShelf_11 : decode cX5_findShelf 11 = .ok (.iload_n 3, 1) := by decide +kernel
theorem dX5_findShelf_12 : decode cX5_findShelf 12 = .ok (.iload 4, 2) := by decide +kernel
theorem dX5_findShelf_14 : decode cX5_findShelf 14 = .ok (.imul, 1) := by decide +kernel
theorem dX5_findShelf_15 : decode cX5_findShelf 15 = .ok (.istore_n 3, 1) := by decide +kernel
theorem dX5_findShelf_16 : decode cX5_findShelf 16 = .ok (.iinc 4 1, 3) := by decide +kernel
theorem dX5_findShelf_19 : decode cX5_findShelf 19 = .ok (.goto (-14), 3) := by decide +kernel
theorem dX5_findShelf_22 : decode cX5_findShelf 22 = .ok (.iconst 0, 1) := by decide +kernel
theorem dX5_findShelf_23 : decode cX5_findShelf 23 = .ok (.istore 4, 2) := by decide +kernel
theorem dX5_findShelf_25 : decode cX5_findShelf 25 = .ok (.iload 4, 2) := by decide +kernel
theorem dX5_findShelf_27 : decode cX5_findShelf 27 = .ok (.bipush 9, 2) := by decide +kernel
theorem dX5_findShelf_29 : decode cX5_findShelf 29 = .ok (.if_icmp .ge 18, 3) := by decide +kernel
theorem dX5_findShelf_32 : decode cX5_findShelf 32 = .ok (.aload_n 0, 1) := by decide +kernel
theorem dX5_findShelf_33 : decode cX5_findShelf 33 = .ok (.getfield 46, 3) := by decide +kernel
theorem dX5_findShelf_36 : decode cX5_findShelf 36 = .ok (.iload 4, 2) := by decide +kernel
theorem dX5_findShelf_38 : decode cX5_findShelf 38 = .ok (.iload 4, 2) := by decide +kernel
theorem dX5_findShelf_40 : decode cX5_findShelf 40 = .ok (.iastore, 1) := by decide +kernel
theorem dX5_findShelf_41 : decode cX5_findShelf 41 = .ok (.iinc 4 1, 3) := by decide +kernel
theorem dX5_findShelf_44 : decode cX5_findShelf 44 = .ok (.goto (-19), 3) := by decide +kernel
theorem dX5_findShelf_47 : decode cX5_findShelf 47 = .ok (.iconst (-1), 1) := by decide +kernel
theorem dX5_findShelf_48 : decode cX5_findShelf 48 = .ok (.istore 4, 2) := by decide +kernel
theorem dX5_findShelf_50 : decode cX5_findShelf 50 = .ok (.iconst 0, 1) := by decide +kernel
theorem dX5_findShelf_51 : decode cX5_findShelf 51 = .ok (.istore 5, 2) := by decide +kernel
theorem dX5_findShelf_53 : decode cX5_findShelf 53 = .ok (.iload 5, 2) := by decide +kernel
theorem dX5_findShelf_55 : decode cX5_findShelf 55 = .ok (.iload_n 3, 1) := by decide +kernel
theorem dX5_findShelf_56 : decode cX5_findShelf 56 = .ok (.if_icmp .ge 119, 3) := by decide +kernel
theorem dX5_findShelf_59 : decode cX5_findShelf 59 = .ok (.aload_n 0, 1) := by decide +kernel
theorem dX5_findShelf_60 : decode cX5_findShelf 60 = .ok (.iload_n 1, 1) := by decide +kernel
theorem dX5_findShelf_61 : decode cX5_findShelf 61 = .ok (.iload 5, 2) := by decide +kernel
theorem dX5_findShelf_63 : decode cX5_findShelf 63 = .ok (.invokevirtual 216, 3) := by decide +kernel
theorem dX5_findShelf_66 : decode cX5_findShelf 66 = .ok (.iconst 0, 1) := by decide +kernel
theorem dX5_findShelf_67 : decode cX5_findShelf 67 = .ok (.istore 6, 2) := by decide +kernel
theorem dX5_findShelf_69 : decode cX5_findShelf 69 = .ok (.iload 6, 2) := by decide +kernel
theorem dX5_findShelf_71 : decode cX5_findShelf 71 = .ok (.iload_n 1, 1) := by decide +kernel
theorem dX5_findShelf_72 : decode cX5_findShelf 72 = .ok (.if_icmp .ge 23, 3) := by decide +kernel
theorem dX5_findShelf_75 : decode cX5_findShelf 75 = .ok (.aload_n 0, 1) := by decide +kernel
theorem dX5_findShelf_76 : decode cX5_findShelf 76 = .ok (.getfield 46, 3) := by decide +kernel
theorem dX5_findShelf_79 : decode cX5_findShelf 79 = .ok (.aload_n 0, 1) := by decide +kernel
theorem dX5_findShelf_80 : decode cX5_findShelf 80 = .ok (.getfield 61, 3) := by decide +kernel
theorem dX5_findShelf_83 : decode cX5_findShelf 83 = .ok (.iload 6, 2) := by decide +kernel
theorem dX5_findShelf_85 : decode cX5_findShelf 85 = .ok (.iaload, 1) := by decide +kernel
theorem dX5_findShelf_86 : decode cX5_findShelf 86 = .ok (.iload 6, 2) := by decide +kernel
theorem dX5_findShelf_88 : decode cX5_findShelf 88 = .ok (.iastore, 1) := by decide +kernel
theorem dX5_findShelf_89 : decode cX5_findShelf 89 = .ok (.iinc 6 1, 3) := by decide +kernel
theorem dX5_findShelf_92 : decode cX5_findShelf 92 = .ok (.goto (-23), 3) := by decide +kernel
theorem dX5_findShelf_95 : decode cX5_findShelf 95 = .ok (.aload_n 0, 1) := by decide +kernel
theorem dX5_findShelf_96 : decode cX5_findShelf 96 = .ok (.bipush 19, 2) := by decide +kernel
theorem dX5_findShelf_98 : decode cX5_findShelf 98 = .ok (.invokevirtual 179, 3) := by decide +kernel
theorem dX5_findShelf_101 : decode cX5_findShelf 101 = .ok (.aload_n 0, 1) := by decide +kernel
theorem dX5_findShelf_102 : decode cX5_findShelf 102 = .ok (.bipush 19, 2) := by decide +kernel
theorem dX5_findShelf_104 : decode cX5_findShelf 104 = .ok (.invokevirtual 220, 3) := by decide +kernel
theorem dX5_findShelf_107 : decode cX5_findShelf 107 = .ok (.istore 6, 2) := by decide +kernel
theorem dX5_findShelf_109 : decode cX5_findShelf 109 = .ok (.iload 4, 2) := by decide +kernel
theorem dX5_findShelf_111 : decode cX5_findShelf 111 = .ok (.iconst (-1), 1) := by decide +kernel
theorem dX5_findShelf_112 : decode cX5_findShelf 112 = .ok (.if_icmp .eq 24, 3) := by decide +kernel
theorem dX5_findShelf_115 : decode cX5_findShelf 115 = .ok (.iload_n 2, 1) := by decide +kernel
theorem dX5_findShelf_116 : decode cX5_findShelf 116 = .ok (.ifCond .ne 13, 3) := by decide +kernel
theorem dX5_findShelf_119 : decode cX5_findShelf 119 = .ok (.iload 6, 2) := by decide +kernel
theorem dX5_findShelf_121 : decode cX5_findShelf 121 = .ok (.iload 4, 2) := by decide +kernel
theorem dX5_findShelf_123 : decode cX5_findShelf 123 = .ok (.if_icmp .ge 46, 3) := by decide +kernel
theorem dX5_findShelf_126 : decode cX5_findShelf 126 = .ok (.goto 10, 3) := by decide +kernel
theorem dX5_findShelf_129 : decode cX5_findShelf 129 = .ok (.iload 6, 2) := by decide +kernel
theorem dX5_findShelf_131 : decode cX5_findShelf 131 = .ok (.iload 4, 2) := by decide +kernel
theorem dX5_findShelf_133 : decode cX5_findShelf 133 = .ok (.if_icmp .le 36, 3) := by decide +kernel
theorem dX5_findShelf_136 : decode cX5_findShelf 136 = .ok (.iload 6, 2) := by decide +kernel
theorem dX5_findShelf_138 : decode cX5_findShelf 138 = .ok (.istore 4, 2) := by decide +kernel
theorem dX5_findShelf_140 : decode cX5_findShelf 140 = .ok (.iconst 0, 1) := by decide +kernel
theorem dX5_findShelf_141 : decode cX5_findShelf 141 = .ok (.istore 7, 2) := by decide +kernel
theorem dX5_findShelf_143 : decode cX5_findShelf 143 = .ok (.iload 7, 2) := by decide +kernel
theorem dX5_findShelf_145 : decode cX5_findShelf 145 = .ok (.iload_n 1, 1) := by decide +kernel
theorem dX5_findShelf_146 : decode cX5_findShelf 146 = .ok (.if_icmp .ge 23, 3) := by decide +kernel
theorem dX5_findShelf_149 : decode cX5_findShelf 149 = .ok (.aload_n 0, 1) := by decide +kernel
theorem dX5_findShelf_150 : decode cX5_findShelf 150 = .ok (.getfield 64, 3) := by decide +kernel
theorem dX5_findShelf_153 : decode cX5_findShelf 153 = .ok (.iload 7, 2) := by decide +kernel
theorem dX5_findShelf_155 : decode cX5_findShelf 155 = .ok (.aload_n 0, 1) := by decide +kernel
theorem dX5_findShelf_156 : decode cX5_findShelf 156 = .ok (.getfield 61, 3) := by decide +kernel
theorem dX5_findShelf_159 : decode cX5_findShelf 159 = .ok (.iload 7, 2) := by decide +kernel
theorem dX5_findShelf_161 : decode cX5_findShelf 161 = .ok (.iaload, 1) := by decide +kernel
theorem dX5_findShelf_162 : decode cX5_findShelf 162 = .ok (.iastore, 1) := by decide +kernel
theorem dX5_findShelf_163 : decode cX5_findShelf 163 = .ok (.iinc 7 1, 3) := by decide +kernel
theorem dX5_findShelf_166 : decode cX5_findShelf 166 = .ok (.goto (-23), 3) := by decide +kernel
theorem dX5_findShelf_169 : decode cX5_findShelf 169 = .ok (.iinc 5 1, 3) := by decide +kernel
theorem dX5_findShelf_172 : decode cX5_findShelf 172 = .ok (.goto (-119), 3) := by decide +kernel
theorem dX5_findShelf_175 : decode cX5_findShelf 175 = .ok (.aload_n 0, 1) := by decide +kernel
theorem dX5_findShelf_176 : decode cX5_findShelf 176 = .ok (.invokevirtual 183, 3) := by decide +kernel
theorem dX5_findShelf_179 : decode cX5_findShelf 179 = .ok (.iload 4, 2) := by decide +kernel
theorem dX5_findShelf_181 : decode cX5_findShelf 181 = .ok (.ireturn, 1) := by decide +kernel
theorem dX5_shelfOf_0 : decode cX5_shelfOf 0 = .ok (.aload_n 0, 1) := by decide +kernel
theorem dX5_shelfOf_1 : decode cX5_shelfOf 1 = .ok (.iload_n 1, 1) := by decide +kernel
theorem dX5_shelfOf_2 : decode cX5_shelfOf 2 = .ok (.iload_n 2, 1) := by decide +kernel
theorem dX5_shelfOf_3 : decode cX5_shelfOf 3 = .ok (.invokevirtual 223, 3) := by decide +kernel
theorem dX5_shelfOf_6 : decode cX5_shelfOf 6 = .ok (.istore 4, 2) := by decide +kernel
theorem dX5_shelfOf_8 : decode cX5_shelfOf 8 = .ok (.iload_n 3, 1) := by decide +kernel
theorem dX5_shelfOf_9 : decode cX5_shelfOf 9 = .ok (.iconst (-1), 1) := by decide +kernel
theorem dX5_shelfOf_10 : decode cX5_shelfOf 10 = .ok (.if_icmp .ne 8, 3) := by decide +kernel
theorem dX5_shelfOf_13 : decode cX5_shelfOf 13 = .ok (.iload 4, 2) := by decide +kernel
theorem dX5_shelfOf_15 : decode cX5_shelfOf 15 = .ok (.goto 9, 3) := by decide +kernel
theorem dX5_shelfOf_18 : decode cX5_shelfOf 18 = .ok (.aload_n 0, 1) := by decide +kernel
theorem dX5_shelfOf_19 : decode cX5_shelfOf 19 = .ok (.getfield 64, 3) := by decide +kernel
theorem dX5_shelfOf_22 : decode cX5_shelfOf 22 = .ok (.iload_n 3, 1) := by decide +kernel
theorem dX5_shelfOf_23 : decode cX5_shelfOf 23 = .ok (.iaload, 1) := by decide +kernel
theorem dX5_shelfOf_24 : decode cX5_shelfOf 24 = .ok (.ireturn, 1) := by decide +kernel
theorem dX5_shelf_0 : decode cX5_shelf 0 = .ok (.aload_n 0, 1) := by decide +kernel
theorem dX5_shelf_1 : decode cX5_shelf 1 = .ok (.invokevirtual 183, 3) := by decide +kernel
theorem dX5_shelf_4 : decode cX5_shelf 4 = .ok (.iload_n 1, 1) := by decide +kernel
theorem dX5_shelf_5 : decode cX5_shelf 5 = .ok (.i2l, 1) := by decide +kernel
theorem dX5_shelf_6 : decode cX5_shelf 6 = .ok (.lconst 1, 1) := by decide +kernel
theorem dX5_shelf_7 : decode cX5_shelf 7 = .ok (.aload_n 0, 1) := by decide +kernel
theorem dX5_shelf_8 : decode cX5_shelf 8 = .ok (.getfield 109, 3) := by decide +kernel
theorem dX5_shelf_11 : decode cX5_shelf 11 = .ok (.invokestatic 226, 3) := by decide +kernel
theorem dX5_shelf_14 : decode cX5_shelf 14 = .ok (.i2l, 1) := by decide +kernel
theorem dX5_shelf_15 : decode cX5_shelf 15 = .ok (.invokestatic 75, 3) := by decide +kernel
theorem dX5_shelf_18 : decode cX5_shelf 18 = .ok (.ifCond .eq 35, 3) := by decide +kernel
theorem dX5_shelf_21 : decode cX5_shelf 21 = .ok (.iload_n 2, 1) := by decide +kernel
theorem dX5_shelf_22 : decode cX5_shelf 22 = .ok (.invokestatic 186, 3) := by decide +kernel
theorem dX5_shelf_25 : decode cX5_shelf 25 = .ok (.ifCond .eq 28, 3) := by decide +kernel
theorem dX5_shelf_28 : decode cX5_shelf 28 = .ok (.iload_n 3, 1) := by decide +kernel
theorem dX5_shelf_29 : decode cX5_shelf 29 = .ok (.i2l, 1) := by decide +kernel
theorem dX5_shelf_30 : decode cX5_shelf 30 = .ok (.ldc2_w 229, 3) := by decide +kernel
theorem dX5_shelf_33 : decode cX5_shelf 33 = .ok (.iload_n 1, 1) := by decide +kernel
theorem dX5_shelf_34 : decode cX5_shelf 34 = .ok (.iconst 1, 1) := by decide +kernel
theorem dX5_shelf_35 : decode cX5_shelf 35 = .ok (.isub, 1) := by decide +kernel
theorem dX5_shelf_36 : decode cX5_shelf 36 = .ok (.i2l, 1) := by decide +kernel
theorem dX5_shelf_37 : decode cX5_shelf 37 = .ok (.invokestatic 75, 3) := by decide +kernel
theorem dX5_shelf_40 : decode cX5_shelf 40 = .ok (.ifCond .eq 13, 3) := by decide +kernel
theorem dX5_shelf_43 : decode cX5_shelf 43 = .ok (.aload_n 0, 1) := by decide +kernel
theorem dX5_shelf_44 : decode cX5_shelf 44 = .ok (.iload_n 1, 1) := by decide +kernel
theorem dX5_shelf_45 : decode cX5_shelf 45 = .ok (.iload_n 2, 1) := by decide +kernel
theorem dX5_shelf_46 : decode cX5_shelf 46 = .ok (.iload_n 3, 1) := by decide +kernel
theorem dX5_shelf_47 : decode cX5_shelf 47 = .ok (.invokevirtual 231, 3) := by decide +kernel
theorem dX5_shelf_50 : decode cX5_shelf 50 = .ok (.goto 5, 3) := by decide +kernel
theorem dX5_shelf_53 : decode cX5_shelf 53 = .ok (.bipush (-2), 2) := by decide +kernel
theorem dX5_shelf_55 : decode cX5_shelf 55 = .ok (.ireturn, 1) := by decide +kernel
theorem dX5_lesserOf_0 : decode cX5_lesserOf 0 = .ok (.iload_n 0, 1) := by decide +kernel
theorem dX5_lesserOf_1 : decode cX5_lesserOf 1 = .ok (.bipush 6, 2) := by decide +kernel
theorem dX5_lesserOf_3 : decode cX5_lesserOf 3 = .ok (.if_icmp .ge 7, 3) := by decide +kernel
theorem dX5_lesserOf_6 : decode cX5_lesserOf 6 = .ok (.iload_n 0, 1) := by decide +kernel
theorem dX5_lesserOf_7 : decode cX5_lesserOf 7 = .ok (.goto 5, 3) := by decide +kernel
theorem dX5_lesserOf_10 : decode cX5_lesserOf 10 = .ok (.bipush 6, 2) := by decide +kernel
theorem dX5_lesserOf_12 : decode cX5_lesserOf 12 = .ok (.ireturn, 1) := by decide +kernel
theorem dX5_heard_0 : decode cX5_heard 0 = .ok (.iload_n 1, 1) := by decide +kernel
theorem dX5_heard_1 : decode cX5_heard 1 = .ok (.invokestatic 145, 3) := by decide +kernel
theorem dX5_heard_4 : decode cX5_heard 4 = .ok (.ifCond .eq 15, 3) := by decide +kernel
theorem dX5_heard_7 : decode cX5_heard 7 = .ok (.iload_n 2, 1) := by decide +kernel
theorem dX5_heard_8 : decode cX5_heard 8 = .ok (.i2l, 1) := by decide +kernel
theorem dX5_heard_9 : decode cX5_heard 9 = .ok (.lconst 0, 1) := by decide +kernel
theorem dX5_heard_10 : decode cX5_heard 10 = .ok (.ldc2_w 234, 3) := by decide +kernel
theorem dX5_heard_13 : decode cX5_heard 13 = .ok (.invokestatic 75, 3) := by decide +kernel
theorem dX5_heard_16 : decode cX5_heard 16 = .ok (.ifCond .ne 6, 3) := by decide +kernel
theorem dX5_heard_19 : decode cX5_heard 19 = .ok (.bipush (-2), 2) := by decide +kernel
theorem dX5_heard_21 : decode cX5_heard 21 = .ok (.ireturn, 1) := by decide +kernel
theorem dX5_heard_22 : decode cX5_heard 22 = .ok (.aload_n 0, 1) := by decide +kernel
theorem dX5_heard_23 : decode cX5_heard 23 = .ok (.getfield 236, 3) := by decide +kernel
theorem dX5_heard_26 : decode cX5_heard 26 = .ok (.bipush 8, 2) := by decide +kernel
theorem dX5_heard_28 : decode cX5_heard 28 = .ok (.if_icmp .ne 6, 3) := by decide +kernel
theorem dX5_heard_31 : decode cX5_heard 31 = .ok (.bipush (-4), 2) := by decide +kernel
theorem dX5_heard_33 : decode cX5_heard 33 = .ok (.ireturn, 1) := by decide +kernel
theorem dX5_heard_34 : decode cX5_heard 34 = .ok (.aload_n 0, 1) := by decide +kernel
theorem dX5_heard_35 : decode cX5_heard 35 = .ok (.getfield 67, 3) := by decide +kernel
theorem dX5_heard_38 : decode cX5_heard 38 = .ok (.iconst 2, 1) := by decide +kernel
theorem dX5_heard_39 : decode cX5_heard 39 = .ok (.aload_n 0, 1) := by decide +kernel
theorem dX5_heard_40 : decode cX5_heard 40 = .ok (.getfield 236, 3) := by decide +kernel
theorem dX5_heard_43 : decode cX5_heard 43 = .ok (.imul, 1) := by decide +kernel
theorem dX5_heard_44 : decode cX5_heard 44 = .ok (.iload_n 1, 1) := by decide +kernel
theorem dX5_heard_45 : decode cX5_heard 45 = .ok (.iastore, 1) := by decide +kernel
theorem dX5_heard_46 : decode cX5_heard 46 = .ok (.aload_n 0, 1) := by decide +kernel
theorem dX5_heard_47 : decode cX5_heard 47 = .ok (.getfield 67, 3) := by decide +kernel
theorem dX5_heard_50 : decode cX5_heard 50 = .ok (.iconst 2, 1) := by decide +kernel
theorem dX5_heard_51 : decode cX5_heard 51 = .ok (.aload_n 0, 1) := by decide +kernel
theorem dX5_heard_52 : decode cX5_heard 52 = .ok (.getfield 236, 3) := by decide +kernel
theorem dX5_heard_55 : decode cX5_heard 55 = .ok (.imul, 1) := by decide +kernel
theorem dX5_heard_56 : decode cX5_heard 56 = .ok (.iconst 1, 1) := by decide +kernel
theorem dX5_heard_57 : decode cX5_heard 57 = .ok (.iadd, 1) := by decide +kernel
