theorem dX0_init_0 : decode cX0_init 0 = .ok (.aload_n 0, 1) := by decide +kernel
theorem dX0_init_1 : decode cX0_init 1 = .ok (.invokespecial 3, 3) := by decide +kernel
theorem dX0_init_4 : decode cX0_init 4 = .ok (.aload_n 0, 1) := by decide +kernel
theorem dX0_init_5 : decode cX0_init 5 = .ok (.bipush 50, 2) := by decide +kernel
theorem dX0_init_7 : decode cX0_init 7 = .ok (.newarray .int, 2) := by decide +kernel
theorem dX0_init_9 : decode cX0_init 9 = .ok (.putfield 9, 3) := by decide +kernel
theorem dX0_init_12 : decode cX0_init 12 = .ok (.aload_n 0, 1) := by decide +kernel
theorem dX0_init_13 : decode cX0_init 13 = .ok (.bipush 24, 2) := by decide +kernel
theorem dX0_init_15 : decode cX0_init 15 = .ok (.newarray .int, 2) := by decide +kernel
theorem dX0_init_17 : decode cX0_init 17 = .ok (.putfield 15, 3) := by decide +kernel
theorem dX0_init_20 : decode cX0_init 20 = .ok (.return_, 1) := by decide +kernel
theorem dX0_has_0 : decode cX0_has 0 = .ok (.iload_n 1, 1) := by decide +kernel
theorem dX0_has_1 : decode cX0_has 1 = .ok (.ifCond .lt 15, 3) := by decide +kernel
theorem dX0_has_4 : decode cX0_has 4 = .ok (.iload_n 1, 1) := by decide +kernel
theorem dX0_has_5 : decode cX0_has 5 = .ok (.aload_n 0, 1) := by decide +kernel
theorem dX0_has_6 : decode cX0_has 6 = .ok (.getfield 18, 3) := by decide +kernel
theorem dX0_has_9 : decode cX0_has 9 = .ok (.if_icmp .ge 7, 3) := by decide +kernel
theorem dX0_has_12 : decode cX0_has 12 = .ok (.iconst 1, 1) := by decide +kernel
theorem dX0_has_13 : decode cX0_has 13 = .ok (.goto 4, 3) := by decide +kernel
theorem dX0_has_16 : decode cX0_has 16 = .ok (.iconst 0, 1) := by decide +kernel
theorem dX0_has_17 : decode cX0_has 17 = .ok (.ireturn, 1) := by decide +kernel
theorem dX0_come_0 : decode cX0_come 0 = .ok (.aload_n 0, 1) := by decide +kernel
theorem dX0_come_1 : decode cX0_come 1 = .ok (.getfield 18, 3) := by decide +kernel
theorem dX0_come_4 : decode cX0_come 4 = .ok (.bipush 50, 2) := by decide +kernel
theorem dX0_come_6 : decode cX0_come 6 = .ok (.if_icmp .lt 6, 3) := by decide +kernel
theorem dX0_come_9 : decode cX0_come 9 = .ok (.bipush (-3), 2) := by decide +kernel
theorem dX0_come_11 : decode cX0_come 11 = .ok (.ireturn, 1) := by decide +kernel
theorem dX0_come_12 : decode cX0_come 12 = .ok (.aload_n 0, 1) := by decide +kernel
theorem dX0_come_13 : decode cX0_come 13 = .ok (.getfield 9, 3) := by decide +kernel
theorem dX0_come_16 : decode cX0_come 16 = .ok (.aload_n 0, 1) := by decide +kernel
theorem dX0_come_17 : decode cX0_come 17 = .ok (.getfield 18, 3) := by decide +kernel
theorem dX0_come_20 : decode cX0_come 20 = .ok (.iload_n 1, 1) := by decide +kernel
theorem dX0_come_21 : decode cX0_come 21 = .ok (.iastore, 1) := by decide +kernel
theorem dX0_come_22 : decode cX0_come 22 = .ok (.aload_n 0, 1) := by decide +kernel
theorem dX0_come_23 : decode cX0_come 23 = .ok (.dup, 1) := by decide +kernel
theorem dX0_come_24 : decode cX0_come 24 = .ok (.getfield 18, 3) := by decide +kernel
theorem dX0_come_27 : decode cX0_come 27 = .ok (.dup_x1, 1) := by decide +kernel
theorem dX0_come_28 : decode cX0_come 28 = .ok (.iconst 1, 1) := by decide +kernel
theorem dX0_come_29 : decode cX0_come 29 = .ok (.iadd, 1) := by decide +kernel
theorem dX0_come_30 : decode cX0_come 30 = .ok (.putfield 18, 3) := by decide +kernel
theorem dX0_come_33 : decode cX0_come 33 = .ok (.ireturn, 1) := by decide +kernel
theorem dX0_isUnder_0 : decode cX0_isUnder 0 = .ok (.iload_n 0, 1) := by decide +kernel
theorem dX0_isUnder_1 : decode cX0_isUnder 1 = .ok (.istore_n 2, 1) := by decide +kernel
theorem dX0_isUnder_2 : decode cX0_isUnder 2 = .ok (.iconst 0, 1) := by decide +kernel
theorem dX0_isUnder_3 : decode cX0_isUnder 3 = .ok (.istore_n 3, 1) := by decide +kernel
theorem dX0_isUnder_4 : decode cX0_isUnder 4 = .ok (.iload_n 3, 1) := by decide +kernel
theorem dX0_isUnder_5 : decode cX0_isUnder 5 = .ok (.bipush 8, 2) := by decide +kernel
theorem dX0_isUnder_7 : decode cX0_isUnder 7 = .ok (.if_icmp .ge 30, 3) := by decide +kernel
theorem dX0_isUnder_10 : decode cX0_isUnder 10 = .ok (.iload_n 2, 1) := by decide +kernel
theorem dX0_isUnder_11 : decode cX0_isUnder 11 = .ok (.iload_n 1, 1) := by decide +kernel
theorem dX0_isUnder_12 : decode cX0_isUnder 12 = .ok (.if_icmp .eq 25, 3) := by decide +kernel
theorem dX0_isUnder_15 : decode cX0_isUnder 15 = .ok (.iload_n 2, 1) := by decide +kernel
theorem dX0_isUnder_16 : decode cX0_isUnder 16 = .ok (.ifCond .lt 21, 3) := by decide +kernel
theorem dX0_isUnder_19 : decode cX0_isUnder 19 = .ok (.iload_n 2, 1) := by decide +kernel
theorem dX0_isUnder_20 : decode cX0_isUnder 20 = .ok (.bipush 8, 2) := by decide +kernel
theorem dX0_isUnder_22 : decode cX0_isUnder 22 = .ok (.if_icmp .ge 15, 3) := by decide +kernel
theorem dX0_isUnder_25 : decode cX0_isUnder 25 = .ok (.getstatic 22, 3) := by decide +kernel
theorem dX0_isUnder_28 : decode cX0_isUnder 28 = .ok (.iload_n 2, 1) := by decide +kernel
theorem dX0_isUnder_29 : decode cX0_isUnder 29 = .ok (.iaload, 1) := by decide +kernel
theorem dX0_isUnder_30 : decode cX0_isUnder 30 = .ok (.istore_n 2, 1) := by decide +kernel
theorem dX0_isUnder_31 : decode cX0_isUnder 31 = .ok (.iinc 3 1, 3) := by decide +kernel
theorem dX0_isUnder_34 : decode cX0_isUnder 34 = .ok (.goto (-30), 3) := by decide +kernel
theorem dX0_isUnder_37 : decode cX0_isUnder 37 = .ok (.iload_n 2, 1) := by decide +kernel
theorem dX0_isUnder_38 : decode cX0_isUnder 38 = .ok (.iload_n 1, 1) := by decide +kernel
theorem dX0_isUnder_39 : decode cX0_isUnder 39 = .ok (.if_icmp .ne 7, 3) := by decide +kernel
theorem dX0_isUnder_42 : decode cX0_isUnder 42 = .ok (.iconst 1, 1) := by decide +kernel
theorem dX0_isUnder_43 : decode cX0_isUnder 43 = .ok (.goto 4, 3) := by decide +kernel
theorem dX0_isUnder_46 : decode cX0_isUnder 46 = .ok (.iconst 0, 1) := by decide +kernel
theorem dX0_isUnder_47 : decode cX0_isUnder 47 = .ok (.ireturn, 1) := by decide +kernel
theorem dX0_withOwn_0 : decode cX0_withOwn 0 = .ok (.iload_n 0, 1) := by decide +kernel
theorem dX0_withOwn_1 : decode cX0_withOwn 1 = .ok (.istore_n 2, 1) := by decide +kernel
theorem dX0_withOwn_2 : decode cX0_withOwn 2 = .ok (.iconst 0, 1) := by decide +kernel
theorem dX0_withOwn_3 : decode cX0_withOwn 3 = .ok (.istore_n 3, 1) := by decide +kernel
theorem dX0_withOwn_4 : decode cX0_withOwn 4 = .ok (.iload_n 3, 1) := by decide +kernel
theorem dX0_withOwn_5 : decode cX0_withOwn 5 = .ok (.bipush 8, 2) := by decide +kernel
theorem dX0_withOwn_7 : decode cX0_withOwn 7 = .ok (.if_icmp .ge 37, 3) := by decide +kernel
theorem dX0_withOwn_10 : decode cX0_withOwn 10 = .ok (.iload_n 2, 1) := by decide +kernel
theorem dX0_withOwn_11 : decode cX0_withOwn 11 = .ok (.ifCond .le 33, 3) := by decide +kernel
theorem dX0_withOwn_14 : decode cX0_withOwn 14 = .ok (.iload_n 2, 1) := by decide +kernel
theorem dX0_withOwn_15 : decode cX0_withOwn 15 = .ok (.bipush 8, 2) := by decide +kernel
theorem dX0_withOwn_17 : decode cX0_withOwn 17 = .ok (.if_icmp .ge 27, 3) := by decide +kernel
theorem dX0_withOwn_20 : decode cX0_withOwn 20 = .ok (.getstatic 25, 3) := by decide +kernel
theorem dX0_withOwn_23 : decode cX0_withOwn 23 = .ok (.iconst 4, 1) := by decide +kernel
theorem dX0_withOwn_24 : decode cX0_withOwn 24 = .ok (.iload_n 2, 1) := by decide +kernel
theorem dX0_withOwn_25 : decode cX0_withOwn 25 = .ok (.imul, 1) := by decide +kernel
theorem dX0_withOwn_26 : decode cX0_withOwn 26 = .ok (.iload_n 1, 1) := by decide +kernel
theorem dX0_withOwn_27 : decode cX0_withOwn 27 = .ok (.iadd, 1) := by decide +kernel
theorem dX0_withOwn_28 : decode cX0_withOwn 28 = .ok (.iaload, 1) := by decide +kernel
theorem dX0_withOwn_29 : decode cX0_withOwn 29 = .ok (.ifCond .ne 15, 3) := by decide +kernel
theorem dX0_withOwn_32 : decode cX0_withOwn 32 = .ok (.getstatic 22, 3) := by decide +kernel
theorem dX0_withOwn_35 : decode cX0_withOwn 35 = .ok (.iload_n 2, 1) := by decide +kernel
theorem dX0_withOwn_36 : decode cX0_withOwn 36 = .ok (.iaload, 1) := by decide +kernel
theorem dX0_withOwn_37 : decode cX0_withOwn 37 = .ok (.istore_n 2, 1) := by decide +kernel
theorem dX0_withOwn_38 : decode cX0_withOwn 38 = .ok (.iinc 3 1, 3) := by decide +kernel
theorem dX0_withOwn_41 : decode cX0_withOwn 41 = .ok (.goto (-37), 3) := by decide +kernel
theorem dX0_withOwn_44 : decode cX0_withOwn 44 = .ok (.iload_n 2, 1) := by decide +kernel
theorem dX0_withOwn_45 : decode cX0_withOwn 45 = .ok (.ireturn, 1) := by decide +kernel
theorem dX0_acted_0 : decode cX0_acted 0 = .ok (.aload_n 0, 1) := by decide +kernel
theorem dX0_acted_1 : decode cX0_acted 1 = .ok (.iload_n 1, 1) := by decide +kernel
theorem dX0_acted_2 : decode cX0_acted 2 = .ok (.iload_n 2, 1) := by decide +kernel
theorem dX0_acted_3 : decode cX0_acted 3 = .ok (.iload_n 3, 1) := by decide +kernel
theorem dX0_acted_4 : decode cX0_acted 4 = .ok (.iconst 0, 1) := by decide +kernel
theorem dX0_acted_5 : decode cX0_acted 5 = .ok (.invokevirtual 28, 3) := by decide +kernel
theorem dX0_acted_8 : decode cX0_acted 8 = .ok (.ireturn, 1) := by decide +kernel
theorem dX0_called_0 : decode cX0_called 0 = .ok (.aload_n 0, 1) := by decide +kernel
theorem dX0_called_1 : decode cX0_called 1 = .ok (.iload_n 1, 1) := by decide +kernel
theorem dX0_called_2 : decode cX0_called 2 = .ok (.aload_n 0, 1) := by decide +kernel
theorem dX0_called_3 : decode cX0_called 3 = .ok (.getfield 9, 3) := by decide +kernel
theorem dX0_called_6 : decode cX0_called 6 = .ok (.iload_n 1, 1) := by decide +kernel
theorem dX0_called_7 : decode cX0_called 7 = .ok (.iaload, 1) := by decide +kernel
theorem dX0_called_8 : decode cX0_called 8 = .ok (.iload_n 2, 1) := by decide +kernel
theorem dX0_called_9 : decode cX0_called 9 = .ok (.iload_n 3, 1) := by decide +kernel
theorem dX0_called_10 : decode cX0_called 10 = .ok (.iload 4, 2) := by decide +kernel
theorem dX0_called_12 : decode cX0_called 12 = .ok (.invokevirtual 32, 3) := by decide +kernel
theorem dX0_called_15 : decode cX0_called 15 = .ok (.ireturn, 1) := by decide +kernel
theorem dX0_begin_0 : decode cX0_begin 0 = .ok (.iload_n 2, 1) := by decide +kernel
theorem dX0_begin_1 : decode cX0_begin 1 = .ok (.iload_n 3, 1) := by decide +kernel
theorem dX0_begin_2 : decode cX0_begin 2 = .ok (.invokestatic 36, 3) := by decide +kernel
theorem dX0_begin_5 : decode cX0_begin 5 = .ok (.istore 6, 2) := by decide +kernel
theorem dX0_begin_7 : decode cX0_begin 7 = .ok (.iload 6, 2) := by decide +kernel
theorem dX0_begin_9 : decode cX0_begin 9 = .ok (.ifCond .lt 17, 3) := by decide +kernel
theorem dX0_begin_12 : decode cX0_begin 12 = .ok (.iload 6, 2) := by decide +kernel
theorem dX0_begin_14 : decode cX0_begin 14 = .ok (.bipush 8, 2) := by decide +kernel
theorem dX0_begin_16 : decode cX0_begin 16 = .ok (.if_icmp .ge 10, 3) := by decide +kernel
theorem dX0_begin_19 : decode cX0_begin 19 = .ok (.iload 5, 2) := by decide +kernel
theorem dX0_begin_21 : decode cX0_begin 21 = .ok (.bipush 30, 2) := by decide +kernel
theorem dX0_begin_23 : decode cX0_begin 23 = .ok (.if_icmp .lt 5, 3) := by decide +kernel
theorem dX0_begin_26 : decode cX0_begin 26 = .ok (.iconst 0, 1) := by decide +kernel
theorem dX0_begin_27 : decode cX0_begin 27 = .ok (.ireturn, 1) := by decide +kernel
theorem dX0_begin_28 : decode cX0_begin 28 = .ok (.getstatic 25, 3) := by decide +kernel
theorem dX0_begin_31 : decode cX0_begin 31 = .ok (.iconst 4, 1) := by decide +kernel
theorem dX0_begin_32 : decode cX0_begin 32 = .ok (.iload 6, 2) := by decide +kernel
theorem dX0_begin_34 : decode cX0_begin 34 = .ok (.imul, 1) := by decide +kernel
theorem dX0_begin_35 : decode cX0_begin 35 = .ok (.iload_n 3, 1) := by decide +kernel
theorem dX0_begin_36 : decode cX0_begin 36 = .ok (.iadd, 1) := by decide +kernel
theorem dX0_begin_37 : decode cX0_begin 37 = .ok (.iaload, 1) := by decide +kernel
theorem dX0_begin_38 : decode cX0_begin 38 = .ok (.istore 7, 2) := by decide +kernel
theorem dX0_begin_40 : decode cX0_begin 40 = .ok (.aload_n 0, 1) := by decide +kernel
theorem dX0_begin_41 : decode cX0_begin 41 = .ok (.getfield 40, 3) := by decide +kernel
theorem dX0_begin_44 : decode cX0_begin 44 = .ok (.bipush 24, 2) := by decide +kernel
theorem dX0_begin_46 : decode cX0_begin 46 = .ok (.if_icmp .ge 14, 3) := by decide +kernel
theorem dX0_begin_49 : decode cX0_begin 49 = .ok (.aload_n 0, 1) := by decide +kernel
theorem dX0_begin_50 : decode cX0_begin 50 = .ok (.getfield 15, 3) := by decide +kernel
theorem dX0_begin_53 : decode cX0_begin 53 = .ok (.aload_n 0, 1) := by decide +kernel
theorem dX0_begin_54 : decode cX0_begin 54 = .ok (.getfield 40, 3) := by decide +kernel
theorem dX0_begin_57 : decode cX0_begin 57 = .ok (.iload 7, 2) := by decide +kernel
theorem dX0_begin_59 : decode cX0_begin 59 = .ok (.iastore, 1) := by decide +kernel
theorem dX0_begin_60 : decode cX0_begin 60 = .ok (.aload_n 0, 1) := by decide +kernel
theorem dX0_begin_61 : decode cX0_begin 61 = .ok (.dup, 1) := by decide +kernel
theorem dX0_begin_62 : decode cX0_begin 62 = .ok (.getfield 40, 3) := by decide +kernel
theorem dX0_begin_65 : decode cX0_begin 65 = .ok (.iconst 1, 1) := by decide +kernel
theorem dX0_begin_66 : decode cX0_begin 66 = .ok (.iadd, 1) := by decide +kernel
theorem dX0_begin_67 : decode cX0_begin 67 = .ok (.putfield 40, 3) := by decide +kernel
theorem dX0_begin_70 : decode cX0_begin 70 = .ok (.aload_n 0, 1) := by decide +kernel
theorem dX0_begin_71 : decode cX0_begin 71 = .ok (.iload_n 1, 1) := by decide +kernel
theorem dX0_begin_72 : decode cX0_begin 72 = .ok (.iload 7, 2) := by decide +kernel
theorem dX0_begin_74 : decode cX0_begin 74 = .ok (.iload 4, 2) := by decide +kernel
theorem dX0_begin_76 : decode cX0_begin 76 = .ok (.getstatic 22, 3) := by decide +kernel
theorem dX0_begin_79 : decode cX0_begin 79 = .ok (.iload 6, 2) := by decide +kernel
theorem dX0_begin_81 : decode cX0_begin 81 = .ok (.iaload, 1) := by decide +kernel
theorem dX0_begin_82 : decode cX0_begin 82 = .ok (.iload 5, 2) := by decide +kernel
theorem dX0_begin_84 : decode cX0_begin 84 = .ok (.iconst 1, 1) := by decide +kernel
theorem dX0_begin_85 : decode cX0_begin 85 = .ok (.iadd, 1) := by decide +kernel
theorem dX0_begin_86 : decode cX0_begin 86 = .ok (.invokevirtual 43, 3) := by decide +kernel
theorem dX0_begin_89 : decode cX0_begin 89 = .ok (.ireturn, 1) := by decide +kernel
theorem dX0_goOn_0 : decode cX0_goOn 0 = .ok (.iload_n 2, 1) := by decide +kernel
theorem dX0_goOn_1 : decode cX0_goOn 1 = .ok (.lookupswitch 296 #[(1, 115), (2, 119), (10, 139), (11, 151), (20, 155), (30, 169), (40, 182), (41, 196), (50, 210), (60, 232), (70, 246), (80, 260), (81, 282)], 115) := by decide +kernel
theorem dX0_goOn_116 : decode cX0_goOn 116 = .ok (.iload_n 3, 1) := by decide +kernel
theorem dX0_goOn_117 : decode cX0_goOn 117 = .ok (.iload_n 1, 1) := by decide +kernel
theorem dX0_goOn_118 : decode cX0_goOn 118 = .ok (.iadd, 1) := by decide +kernel
theorem dX0_goOn_119 : decode cX0_goOn 119 = .ok (.ireturn, 1) := by decide +kernel
theorem dX0_goOn_120 : decode cX0_goOn 120 = .ok (.aload_n 0, 1) := by decide +kernel
theorem dX0_goOn_121 : decode cX0_goOn 121 = .ok (.iload_n 1, 1) := by decide +kernel
theorem dX0_goOn_122 : decode cX0_goOn 122 = .ok (.iconst 1, 1) := by decide +kernel
theorem dX0_goOn_123 : decode cX0_goOn 123 = .ok (.iload_n 3, 1) := by decide +kernel
theorem dX0_goOn_124 : decode cX0_goOn 124 = .ok (.iload 5, 2) := by decide +kernel
theorem dX0_goOn_126 : decode cX0_goOn 126 = .ok (.invokevirtual 28, 3) := by decide +kernel
theorem dX0_goOn_129 : decode cX0_goOn 129 = .ok (.aload_n 0, 1) := by decide +kernel
theorem dX0_goOn_130 : decode cX0_goOn 130 = .ok (.iload_n 1, 1) := by decide +kernel
theorem dX0_goOn_131 : decode cX0_goOn 131 = .ok (.iconst 2, 1) := by decide +kernel
theorem dX0_goOn_132 : decode cX0_goOn 132 = .ok (.iconst 1, 1) := by decide +kernel
theorem dX0_goOn_133 : decode cX0_goOn 133 = .ok (.iload 5, 2) := by decide +kernel
theorem dX0_goOn_135 : decode cX0_goOn 135 = .ok (.invokevirtual 28, 3) := by decide +kernel
theorem dX0_goOn_138 : decode cX0_goOn 138 = .ok (.isub, 1) := by decide +kernel
theorem dX0_goOn_139 : decode cX0_goOn 139 = .ok (.ireturn, 1) := by decide +kernel
theorem dX0_goOn_140 : decode cX0_goOn 140 = .ok (.aload_n 0, 1) := by decide +kernel
theorem dX0_goOn_141 : decode cX0_goOn 141 = .ok (.iload_n 1, 1) := by decide +kernel
theorem dX0_goOn_142 : decode cX0_goOn 142 = .ok (.iconst 0, 1) := by decide +kernel
theorem dX0_goOn_143 : decode cX0_goOn 143 = .ok (.iload_n 3, 1) := by decide +kernel
theorem dX0_goOn_144 : decode cX0_goOn 144 = .ok (.iload 5, 2) := by decide +kernel
theorem dX0_goOn_146 : decode cX0_goOn 146 = .ok (.invokevirtual 28, 3) := by decide +kernel
theorem dX0_goOn_149 : decode cX0_goOn 149 = .ok (.iconst 2, 1) := by decide +kernel
theorem dX0_goOn_150 : decode cX0_goOn 150 = .ok (.imul, 1) := by decide +kernel
theorem dX0_goOn_151 : decode cX0_goOn 151 = .ok (.ireturn, 1) := by decide +kernel
theorem dX0_goOn_152 : decode cX0_goOn 152 = .ok (.iload_n 3, 1) := by decide +kernel
theorem dX0_goOn_153 : decode cX0_goOn 153 = .ok (.iload_n 1, 1) := by decide +kernel
theorem dX0_goOn_154 : decode cX0_goOn 154 = .ok (.ixor, 1) := by decide +kernel
theorem dX0_goOn_155 : decode cX0_goOn 155 = .ok (.ireturn, 1) := by decide +kernel
theorem dX0_goOn_156 : decode cX0_goOn 156 = .ok (.aload_n 0, 1) := by decide +kernel
theorem dX0_goOn_157 : decode cX0_goOn 157 = .ok (.iload_n 1, 1) := by decide +kernel
theorem dX0_goOn_158 : decode cX0_goOn 158 = .ok (.iload 4, 2) := by decide +kernel
theorem dX0_goOn_160 : decode cX0_goOn 160 = .ok (.iconst 0, 1) := by decide +kernel
theorem dX0_goOn_161 : decode cX0_goOn 161 = .ok (.iload_n 3, 1) := by decide +kernel
theorem dX0_goOn_162 : decode cX0_goOn 162 = .ok (.iload 5, 2) := by decide +kernel
theorem dX0_goOn_164 : decode cX0_goOn 164 = .ok (.invokevirtual 32, 3) := by decide +kernel
theorem dX0_goOn_167 : decode cX0_goOn 167 = .ok (.iconst 3, 1) := by decide +kernel
theorem dX0_goOn_168 : decode cX0_goOn 168 = .ok (.iadd, 1) := by decide +kernel
theorem dX0_goOn_169 : decode cX0_goOn 169 = .ok (.ireturn, 1) := by decide +kernel
theorem dX0_goOn_170 : decode cX0_goOn 170 = .ok (.aload_n 0, 1) := by decide +kernel
theorem dX0_goOn_171 : decode cX0_goOn 171 = .ok (.iload_n 1, 1) := by decide +kernel
theorem dX0_goOn_172 : decode cX0_goOn 172 = .ok (.iload 4, 2) := by decide +kernel
theorem dX0_goOn_174 : decode cX0_goOn 174 = .ok (.iconst 1, 1) := by decide +kernel
theorem dX0_goOn_175 : decode cX0_goOn 175 = .ok (.iload_n 3, 1) := by decide +kernel
theorem dX0_goOn_176 : decode cX0_goOn 176 = .ok (.iload 5, 2) := by decide +kernel
theorem dX0_goOn_178 : decode cX0_goOn 178 = .ok (.invokevirtual 32, 3) := by decide +kernel
theorem dX0_goOn_181 : decode cX0_goOn 181 = .ok (.ineg, 1) := by decide +kernel
theorem dX0_goOn_182 : decode cX0_goOn 182 = .ok (.ireturn, 1) := by decide +kernel
theorem dX0_goOn_183 : decode cX0_goOn 183 = .ok (.aload_n 0, 1) := by decide +kernel
theorem dX0_goOn_184 : decode cX0_goOn 184 = .ok (.iload_n 1, 1) := by decide +kernel
theorem dX0_goOn_185 : decode cX0_goOn 185 = .ok (.iload 4, 2) := by decide +kernel
theorem dX0_goOn_187 : decode cX0_goOn 187 = .ok (.iconst 2, 1) := by decide +kernel
theorem dX0_goOn_188 : decode cX0_goOn 188 = .ok (.iload_n 3, 1) := by decide +kernel
theorem dX0_goOn_189 : decode cX0_goOn 189 = .ok (.iload 5, 2) := by decide +kernel
theorem dX0_goOn_191 : decode cX0_goOn 191 = .ok (.invokevirtual 32, 3) := by decide +kernel
theorem dX0_goOn_194 : decode cX0_goOn 194 = .ok (.iconst 3, 1) := by decide +kernel
theorem dX0_goOn_195 : decode cX0_goOn 195 = .ok (.imul, 1) := by decide +kernel
theorem dX0_goOn_196 : decode cX0_goOn 196 = .ok (.ireturn, 1) := by decide +kernel
theorem dX0_goOn_197 : decode cX0_goOn 197 = .ok (.aload_n 0, 1) := by decide +kernel
theorem dX0_goOn_198 : decode cX0_goOn 198 = .ok (.iload_n 1, 1) := by decide +kernel
theorem dX0_goOn_199 : decode cX0_goOn 199 = .ok (.iload 4, 2) := by decide +kernel
theorem dX0_goOn_201 : decode cX0_goOn 201 = .ok (.iconst 0, 1) := by decide +kernel
theorem dX0_goOn_202 : decode cX0_goOn 202 = .ok (.iload_n 3, 1) := by decide +kernel
theorem dX0_goOn_203 : decode cX0_goOn 203 = .ok (.iconst 1, 1) := by decide +kernel
theorem dX0_goOn_204 : decode cX0_goOn 204 = .ok (.iadd, 1) := by decide +kernel
theorem dX0_goOn_205 : decode cX0_goOn 205 = .ok (.iload 5, 2) := by decide +kernel
theorem dX0_goOn_207 : decode cX0_goOn 207 = .ok (.invokevirtual 32, 3) := by decide +kernel
theorem dX0_goOn_210 : decode cX0_goOn 210 = .ok (.ireturn, 1) := by decide +kernel
theorem dX0_goOn_211 : decode cX0_goOn 211 = .ok (.aload_n 0, 1) := by decide +kernel
theorem dX0_goOn_212 : decode cX0_goOn 212 = .ok (.iload_n 1, 1) := by decide +kernel
theorem dX0_goOn_213 : decode cX0_goOn 213 = .ok (.iload 4, 2) := by decide +kernel
theorem dX0_goOn_215 : decode cX0_goOn 215 = .ok (.iconst 2, 1) := by decide +kernel
theorem dX0_goOn_216 : decode cX0_goOn 216 = .ok (.iload_n 3, 1) := by decide +kernel
theorem dX0_goOn_217 : decode cX0_goOn 217 = .ok (.iload 5, 2) := by decide +kernel
theorem dX0_goOn_219 : decode cX0_goOn 219 = .ok (.invokevirtual 32, 3) := by decide +kernel
theorem dX0_goOn_222 : decode cX0_goOn 222 = .ok (.aload_n 0, 1) := by decide +kernel
theorem dX0_goOn_223 : decode cX0_goOn 223 = .ok (.iload_n 1, 1) := by decide +kernel
theorem dX0_goOn_224 : decode cX0_goOn 224 = .ok (.iconst 0, 1) := by decide +kernel
theorem dX0_goOn_225 : decode cX0_goOn 225 = .ok (.iconst 2, 1) := by decide +kernel
theorem dX0_goOn_226 : decode cX0_goOn 226 = .ok (.iload 5, 2) := by decide +kernel
theorem dX0_goOn_228 : decode cX0_goOn 228 = .ok (.invokevirtual 28, 3) := by decide +kernel
theorem dX0_goOn_231 : decode cX0_goOn 231 = .ok (.isub, 1) := by decide +kernel
theorem dX0_goOn_232 : decode cX0_goOn 232 = .ok (.ireturn, 1) := by decide +kernel
theorem dX0_goOn_233 : decode cX0_goOn 233 = .ok (.aload_n 0, 1) := by decide +kernel
theorem dX0_goOn_234 : decode cX0_goOn 234 = .ok (.iload_n 1, 1) := by decide +kernel
theorem dX0_goOn_235 : decode cX0_goOn 235 = .ok (.iload 4, 2) := by decide +kernel
theorem dX0_goOn_237 : decode cX0_goOn 237 = .ok (.iconst 3, 1) := by decide +kernel
theorem dX0_goOn_238 : decode cX0_goOn 238 = .ok (.iload_n 3, 1) := by decide +kernel
theorem dX0_goOn_239 : decode cX0_goOn 239 = .ok (.iload 5, 2) := by decide +kernel
theorem dX0_goOn_241 : decode cX0_goOn 241 = .ok (.invokevirtual 32, 3) := by decide +kernel
theorem dX0_goOn_244 : decode cX0_goOn 244 = .ok (.iconst 5, 1) := by decide +kernel
theorem dX0_goOn_245 : decode cX0_goOn 245 = .ok (.ixor, 1) := by decide +kernel
theorem dX0_goOn_246 : decode cX0_goOn 246 = .ok (.ireturn, 1) := by decide +kernel
theorem dX0_goOn_247 : decode cX0_goOn 247 = .ok (.aload_n 0, 1) := by decide +kernel
theorem dX0_goOn_248 : decode cX0_goOn 248 = .ok (.iload_n 1, 1) := by decide +kernel
theorem dX0_goOn_249 : decode cX0_goOn 249 = .ok (.iload 4, 2) := by decide +kernel
theorem dX0_goOn_251 : decode cX0_goOn 251 = .ok (.iconst 0, 1) := by decide +kernel
theorem dX0_goOn_252 : decode cX0_goOn 252 = .ok (.iload_n 3, 1) := by decide +kernel
theorem dX0_goOn_253 : decode cX0_goOn 253 = .ok (.iload 5, 2) := by decide +kernel
theorem dX0_goOn_255 : decode cX0_goOn 255 = .ok (.invokevirtual 32, 3) := by decide +kernel
theorem dX0_goOn_258 : decode cX0_goOn 258 = .ok (.iconst 2, 1) := by decide +kernel
theorem dX0_goOn_259 : decode cX0_goOn 259 = .ok (.imul, 1) := by decide +kernel
theorem dX0_goOn_260 : decode cX0_goOn 260 = .ok (.ireturn, 1) := by decide +kernel
theorem dX0_goOn_261 : decode cX0_goOn 261 = .ok (.aload_n 0, 1) := by decide +kernel
theorem dX0_goOn_262 : decode cX0_goOn 262 = .ok (.iload_n 1, 1) := by decide +kernel
theorem dX0_goOn_263 : decode cX0_goOn 263 = .ok (.iload 4, 2) := by decide +kernel
theorem dX0_goOn_265 : decode cX0_goOn 265 = .ok (.iconst 1, 1) := by decide +kernel
theorem dX0_goOn_266 : decode cX0_goOn 266 = .ok (.iload_n 3, 1) := by decide +kernel
theorem dX0_goOn_267 : decode cX0_goOn 267 = .ok (.iload 5, 2) := by decide +kernel
theorem dX0_goOn_269 : decode cX0_goOn 269 = .ok (.invokevirtual 32, 3) := by decide +kernel
theorem dX0_goOn_272 : decode cX0_goOn 272 = .ok (.aload_n 0, 1) := by decide +kernel
theorem dX0_goOn_273 : decode cX0_goOn 273 = .ok (.iload_n 1, 1) := by decide +kernel
theorem dX0_goOn_274 : decode cX0_goOn 274 = .ok (.iconst 2, 1) := by decide +kernel
theorem dX0_goOn_275 : decode cX0_goOn 275 = .ok (.iconst 2, 1) := by decide +kernel
theorem dX0_goOn_276 : decode cX0_goOn 276 = .ok (.iload 5, 2) := by decide +kernel
theorem dX0_goOn_278 : decode cX0_goOn 278 = .ok (.invokevirtual 28, 3) := by decide +kernel
theorem dX0_goOn_281 : decode cX0_goOn 281 = .ok (.iadd, 1) := by decide +kernel
theorem dX0_goOn_282 : decode cX0_goOn 282 = .ok (.ireturn, 1) := by decide +kernel
theorem dX0_goOn_283 : decode cX0_goOn 283 = .ok (.aload_n 0, 1) := by decide +kernel
theorem dX0_goOn_284 : decode cX0_goOn 284 = .ok (.iload_n 1, 1) := by decide +kernel
theorem dX0_goOn_285 : decode cX0_goOn 285 = .ok (.iload 4, 2) := by decide +kernel
theorem dX0_goOn_287 : decode cX0_goOn 287 = .ok (.iconst 3, 1) := by decide +kernel
theorem dX0_goOn_288 : decode cX0_goOn 288 = .ok (.iload_n 3, 1) := by decide +kernel
theorem dX0_goOn_289 : decode cX0_goOn 289 = .ok (.iload 5, 2) := by decide +kernel
theorem dX0_goOn_291 : decode cX0_goOn 291 = .ok (.invokevirtual 32, 3) := by decide +kernel
theorem dX0_goOn_294 : decode cX0_goOn 294 = .ok (.iconst 1, 1) := by decide +kernel
theorem dX0_goOn_295 : decode cX0_goOn 295 = .ok (.isub, 1) := by decide +kernel
theorem dX0_goOn_296 : decode cX0_goOn 296 = .ok (.ireturn, 1) := by decide +kernel
theorem dX0_goOn_297 : decode cX0_goOn 297 = .ok (.iconst 0, 1) := by decide +kernel
theorem dX0_goOn_298 : decode cX0_goOn 298 = .ok (.ireturn, 1) := by decide +kernel
theorem dX1_init_0 : decode cX1_init 0 = .ok (.aload_n 0, 1) := by decide +kernel
theorem dX1_init_1 : decode cX1_init 1 = .ok (.invokespecial 3, 3) := by decide +kernel
theorem dX1_init_4 : decode cX1_init 4 = .ok (.aload_n 0, 1) := by decide +kernel
theorem dX1_init_5 : decode cX1_init 5 = .ok (.bipush 6, 2) := by decide +kernel
theorem dX1_init_7 : decode cX1_init 7 = .ok (.newarray .int, 2) := by decide +kernel
theorem dX1_init_9 : decode cX1_init 9 = .ok (.putfield 9, 3) := by decide +kernel
theorem dX1_init_12 : decode cX1_init 12 = .ok (.aload_n 0, 1) := by decide +kernel
theorem dX1_init_13 : decode cX1_init 13 = .ok (.bipush 6, 2) := by decide +kernel
theorem dX1_init_15 : decode cX1_init 15 = .ok (.newarray .int, 2) := by decide +kernel
theorem dX1_init_17 : decode cX1_init 17 = .ok (.putfield 15, 3) := by decide +kernel
theorem dX1_init_20 : decode cX1_init 20 = .ok (.return_, 1) := by decide +kernel
theorem dX1_rises_0 : decode cX1_rises 0 = .ok (.aload_n 0, 1) := by decide +kernel
theorem dX1_rises_1 : decode cX1_rises 1 = .ok (.getfield 18, 3) := by decide +kernel
theorem dX1_rises_4 : decode cX1_rises 4 = .ok (.ifCond .eq 18, 3) := by decide +kernel
theorem dX1_rises_7 : decode cX1_rises 7 = .ok (.iload_n 1, 1) := by decide +kernel
theorem dX1_rises_8 : decode cX1_rises 8 = .ok (.aload_n 0, 1) := by decide +kernel
theorem dX1_rises_9 : decode cX1_rises 9 = .ok (.getfield 9, 3) := by decide +kernel
theorem dX1_rises_12 : decode cX1_rises 12 = .ok (.aload_n 0, 1) := by decide +kernel
theorem dX1_rises_13 : decode cX1_rises 13 = .ok (.getfield 18, 3) := by decide +kernel
theorem dX1_rises_16 : decode cX1_rises 16 = .ok (.iconst 1, 1) := by decide +kernel
theorem dX1_rises_17 : decode cX1_rises 17 = .ok (.isub, 1) := by decide +kernel
theorem dX1_rises_18 : decode cX1_rises 18 = .ok (.iaload, 1) := by decide +kernel
theorem dX1_rises_19 : decode cX1_rises 19 = .ok (.if_icmp .le 7, 3) := by decide +kernel
theorem dX1_rises_22 : decode cX1_rises 22 = .ok (.iconst 1, 1) := by decide +kernel
theorem dX1_rises_23 : decode cX1_rises 23 = .ok (.goto 4, 3) := by decide +kernel
theorem dX1_rises_26 : decode cX1_rises 26 = .ok (.iconst 0, 1) := by decide +kernel
theorem dX1_rises_27 : decode cX1_rises 27 = .ok (.ireturn, 1) := by decide +kernel
theorem dX1_come_0 : decode cX1_come 0 = .ok (.aload_n 0, 1) := by decide +kernel
theorem dX1_come_1 : decode cX1_come 1 = .ok (.getfield 18, 3) := by decide +kernel
theorem dX1_come_4 : decode cX1_come 4 = .ok (.bipush 6, 2) := by decide +kernel
theorem dX1_come_6 : decode cX1_come 6 = .ok (.if_icmp .lt 6, 3) := by decide +kernel
theorem dX1_come_9 : decode cX1_come 9 = .ok (.bipush (-3), 2) := by decide +kernel
theorem dX1_come_11 : decode cX1_come 11 = .ok (.ireturn, 1) := by decide +kernel
theorem dX1_come_12 : decode cX1_come 12 = .ok (.aload_n 0, 1) := by decide +kernel
theorem dX1_come_13 : decode cX1_come 13 = .ok (.getfield 9, 3) := by decide +kernel
theorem dX1_come_16 : decode cX1_come 16 = .ok (.aload_n 0, 1) := by decide +kernel
theorem dX1_come_17 : decode cX1_come 17 = .ok (.getfield 18, 3) := by decide +kernel
theorem dX1_come_20 : decode cX1_come 20 = .ok (.iload_n 1, 1) := by decide +kernel
theorem dX1_come_21 : decode cX1_come 21 = .ok (.iastore, 1) := by decide +kernel
theorem dX1_come_22 : decode cX1_come 22 = .ok (.aload_n 0, 1) := by decide +kernel
theorem dX1_come_23 : decode cX1_come 23 = .ok (.getfield 15, 3) := by decide +kernel
theorem dX1_come_26 : decode cX1_come 26 = .ok (.aload_n 0, 1) := by decide +kernel
theorem dX1_come_27 : decode cX1_come 27 = .ok (.getfield 18, 3) := by decide +kernel
theorem dX1_come_30 : decode cX1_come 30 = .ok (.iload_n 2, 1) := by decide +kernel
theorem dX1_come_31 : decode cX1_come 31 = .ok (.iastore, 1) := by decide +kernel
theorem dX1_come_32 : decode cX1_come 32 = .ok (.aload_n 0, 1) := by decide +kernel
theorem dX1_come_33 : decode cX1_come 33 = .ok (.dup, 1) := by decide +kernel
theorem dX1_come_34 : decode cX1_come 34 = .ok (.getfield 18, 3) := by decide +kernel
theorem dX1_come_37 : decode cX1_come 37 = .ok (.iconst 1, 1) := by decide +kernel
theorem dX1_come_38 : decode cX1_come 38 = .ok (.iadd, 1) := by decide +kernel
theorem dX1_come_39 : decode cX1_come 39 = .ok (.putfield 18, 3) := by decide +kernel
theorem dX1_come_42 : decode cX1_come 42 = .ok (.aload_n 0, 1) := by decide +kernel
theorem dX1_come_43 : decode cX1_come 43 = .ok (.getfield 18, 3) := by decide +kernel
theorem dX1_come_46 : decode cX1_come 46 = .ok (.ireturn, 1) := by decide +kernel
theorem dX1_at_0 : decode cX1_at 0 = .ok (.iconst 0, 1) := by decide +kernel
theorem dX1_at_1 : decode cX1_at 1 = .ok (.istore_n 2, 1) := by decide +kernel
theorem dX1_at_2 : decode cX1_at 2 = .ok (.iconst 0, 1) := by decide +kernel
theorem dX1_at_3 : decode cX1_at 3 = .ok (.istore_n 3, 1) := by decide +kernel
theorem dX1_at_4 : decode cX1_at 4 = .ok (.iload_n 3, 1) := by decide +kernel
theorem dX1_at_5 : decode cX1_at 5 = .ok (.aload_n 0, 1) := by decide +kernel
theorem dX1_at_6 : decode cX1_at 6 = .ok (.getfield 18, 3) := by decide +kernel
theorem dX1_at_9 : decode cX1_at 9 = .ok (.if_icmp .ge 55, 3) := by decide +kernel
theorem dX1_at_12 : decode cX1_at 12 = .ok (.iload_n 1, 1) := by decide +kernel
theorem dX1_at_13 : decode cX1_at 13 = .ok (.aload_n 0, 1) := by decide +kernel
theorem dX1_at_14 : decode cX1_at 14 = .ok (.getfield 9, 3) := by decide +kernel
theorem dX1_at_17 : decode cX1_at 17 = .ok (.iload_n 3, 1) := by decide +kernel
theorem dX1_at_18 : decode cX1_at 18 = .ok (.iaload, 1) := by decide +kernel
theorem dX1_at_19 : decode cX1_at 19 = .ok (.if_icmp .gt 32, 3) := by decide +kernel
theorem dX1_at_22 : decode cX1_at 22 = .ok (.iload_n 3, 1) := by decide +kernel
theorem dX1_at_23 : decode cX1_at 23 = .ok (.ifCond .ne 12, 3) := by decide +kernel
theorem dX1_at_26 : decode cX1_at 26 = .ok (.aload_n 0, 1) := by decide +kernel
theorem dX1_at_27 : decode cX1_at 27 = .ok (.getfield 15, 3) := by decide +kernel
theorem dX1_at_30 : decode cX1_at 30 = .ok (.iconst 0, 1) := by decide +kernel
theorem dX1_at_31 : decode cX1_at 31 = .ok (.iaload, 1) := by decide +kernel
theorem dX1_at_32 : decode cX1_at 32 = .ok (.goto 18, 3) := by decide +kernel
theorem dX1_at_35 : decode cX1_at 35 = .ok (.aload_n 0, 1) := by decide +kernel
theorem dX1_at_36 : decode cX1_at 36 = .ok (.iload_n 3, 1) := by decide +kernel
theorem dX1_at_37 : decode cX1_at 37 = .ok (.iload_n 1, 1) := by decide +kernel
theorem dX1_at_38 : decode cX1_at 38 = .ok (.aload_n 0, 1) := by decide +kernel
theorem dX1_at_39 : decode cX1_at 39 = .ok (.getfield 9, 3) := by decide +kernel
theorem dX1_at_42 : decode cX1_at 42 = .ok (.iload_n 3, 1) := by decide +kernel
theorem dX1_at_43 : decode cX1_at 43 = .ok (.iconst 1, 1) := by decide +kernel
theorem dX1_at_44 : decode cX1_at 44 = .ok (.isub, 1) := by decide +kernel
theorem dX1_at_45 : decode cX1_at 45 = .ok (.iaload, 1) := by decide +kernel
theorem dX1_at_46 : decode cX1_at 46 = .ok (.isub, 1) := by decide +kernel
theorem dX1_at_47 : decode cX1_at 47 = .ok (.invokevirtual 22, 3) := by decide +kernel
theorem dX1_at_50 : decode cX1_at 50 = .ok (.ireturn, 1) := by decide +kernel
theorem dX1_at_51 : decode cX1_at 51 = .ok (.aload_n 0, 1) := by decide +kernel
theorem dX1_at_52 : decode cX1_at 52 = .ok (.getfield 15, 3) := by decide +kernel
theorem dX1_at_55 : decode cX1_at 55 = .ok (.iload_n 3, 1) := by decide +kernel
theorem dX1_at_56 : decode cX1_at 56 = .ok (.iaload, 1) := by decide +kernel
theorem dX1_at_57 : decode cX1_at 57 = .ok (.istore_n 2, 1) := by decide +kernel
theorem dX1_at_58 : decode cX1_at 58 = .ok (.iinc 3 1, 3) := by decide +kernel
theorem dX1_at_61 : decode cX1_at 61 = .ok (.goto (-57), 3) := by decide +kernel
theorem dX1_at_64 : decode cX1_at 64 = .ok (.iload_n 2, 1) := by decide +kernel
theorem dX1_at_65 : decode cX1_at 65 = .ok (.ireturn, 1) := by decide +kernel
theorem dX1_between_0 : decode cX1_between 0 = .ok (.aload_n 0, 1) := by decide +kernel
theorem dX1_between_1 : decode cX1_between 1 = .ok (.getfield 9, 3) := by decide +kernel
theorem dX1_between_4 : decode cX1_between 4 = .ok (.iload_n 1, 1) := by decide +kernel
theorem dX1_between_5 : decode cX1_between 5 = .ok (.iaload, 1) := by decide +kernel
theorem dX1_between_6 : decode cX1_between 6 = .ok (.aload_n 0, 1) := by decide +kernel
theorem dX1_between_7 : decode cX1_between 7 = .ok (.getfield 9, 3) := by decide +kernel
theorem dX1_between_10 : decode cX1_between 10 = .ok (.iload_n 1, 1) := by decide +kernel
theorem dX1_between_11 : decode cX1_between 11 = .ok (.iconst 1, 1) := by decide +kernel
theorem dX1_between_12 : decode cX1_between 12 = .ok (.isub, 1) := by decide +kernel
theorem dX1_between_13 : decode cX1_between 13 = .ok (.iaload, 1) := by decide +kernel
theorem dX1_between_14 : decode cX1_between 14 = .ok (.isub, 1) := by decide +kernel
theorem dX1_between_15 : decode cX1_between 15 = .ok (.istore_n 3, 1) := by decide +kernel
theorem dX1_between_16 : decode cX1_between 16 = .ok (.aload_n 0, 1) := by decide +kernel
theorem dX1_between_17 : decode cX1_between 17 = .ok (.getfield 15, 3) := by decide +kernel
theorem dX1_between_20 : decode cX1_between 20 = .ok (.iload_n 1, 1) := by decide +kernel
theorem dX1_between_21 : decode cX1_between 21 = .ok (.iconst 1, 1) := by decide +kernel
theorem dX1_between_22 : decode cX1_between 22 = .ok (.isub, 1) := by decide +kernel
theorem dX1_between_23 : decode cX1_between 23 = .ok (.iaload, 1) := by decide +kernel
theorem dX1_between_24 : decode cX1_between 24 = .ok (.iload_n 3, 1) := by decide +kernel
theorem dX1_between_25 : decode cX1_between 25 = .ok (.iload_n 2, 1) := by decide +kernel
theorem dX1_between_26 : decode cX1_between 26 = .ok (.isub, 1) := by decide +kernel
theorem dX1_between_27 : decode cX1_between 27 = .ok (.imul, 1) := by decide +kernel
theorem dX1_between_28 : decode cX1_between 28 = .ok (.aload_n 0, 1) := by decide +kernel
theorem dX1_between_29 : decode cX1_between 29 = .ok (.getfield 15, 3) := by decide +kernel
theorem dX1_between_32 : decode cX1_between 32 = .ok (.iload_n 1, 1) := by decide +kernel
theorem dX1_between_33 : decode cX1_between 33 = .ok (.iaload, 1) := by decide +kernel
theorem dX1_between_34 : decode cX1_between 34 = .ok (.iload_n 2, 1) := by decide +kernel
theorem dX1_between_35 : decode cX1_between 35 = .ok (.imul, 1) := by decide +kernel
theorem dX1_between_36 : decode cX1_between 36 = .ok (.iadd, 1) := by decide +kernel
theorem dX1_between_37 : decode cX1_between 37 = .ok (.i2l, 1) := by decide +kernel
theorem dX1_between_38 : decode cX1_between 38 = .ok (.iload_n 3, 1) := by decide +kernel
theorem dX1_between_39 : decode cX1_between 39 = .ok (.i2l, 1) := by decide +kernel
theorem dX1_between_40 : decode cX1_between 40 = .ok (.invokestatic 26, 3) := by decide +kernel
theorem dX1_between_43 : decode cX1_between 43 = .ok (.ireturn, 1) := by decide +kernel
theorem dX2_init_0 : decode cX2_init 0 = .ok (.aload_n 0, 1) := by decide +kernel
theorem dX2_init_1 : decode cX2_init 1 = .ok (.invokespecial 3, 3) := by decide +kernel
theorem dX2_init_4 : decode cX2_init 4 = .ok (.aload_n 0, 1) := by decide +kernel
theorem dX2_init_5 : decode cX2_init 5 = .ok (.new 9, 3) := by decide +kernel
theorem dX2_init_8 : decode cX2_init 8 = .ok (.dup, 1) := by decide +kernel
theorem dX2_init_9 : decode cX2_init 9 = .ok (.invokespecial 11, 3) := by decide +kernel
theorem dX2_init_12 : decode cX2_init 12 = .ok (.putfield 12, 3) := by decide +kernel
theorem dX2_init_15 : decode cX2_init 15 = .ok (.aload_n 0, 1) := by decide +kernel
theorem dX2_init_16 : decode cX2_init 16 = .ok (.iconst 4, 1) := by decide +kernel
theorem dX2_init_17 : decode cX2_init 17 = .ok (.newarray .long, 2) := by decide +kernel
theorem dX2_init_19 : decode cX2_init 19 = .ok (.putfield 18, 3) := by decide +kernel
theorem dX2_init_22 : decode cX2_init 22 = .ok (.aload_n 0, 1) := by decide +kernel
theorem dX2_init_23 : decode cX2_init 23 = .ok (.iconst 4, 1) := by decide +kernel
theorem dX2_init_24 : decode cX2_init 24 = .ok (.newarray .int, 2) := by decide +kernel
theorem dX2_init_26 : decode cX2_init 26 = .ok (.putfield 22, 3) := by decide +kernel
theorem dX2_init_29 : decode cX2_init 29 = .ok (.aload_n 0, 1) := by decide +kernel
theorem dX2_init_30 : decode cX2_init 30 = .ok (.bipush 12, 2) := by decide +kernel
theorem dX2_init_32 : decode cX2_init 32 = .ok (.newarray .int, 2) := by decide +kernel
theorem dX2_init_34 : decode cX2_init 34 = .ok (.putfield 26, 3) := by decide +kernel
theorem dX2_init_37 : decode cX2_init 37 = .ok (.aload_n 0, 1) := by decide +kernel
theorem dX2_init_38 : decode cX2_init 38 = .ok (.aload_n 1, 1) := by decide +kernel
theorem dX2_init_39 : decode cX2_init 39 = .ok (.putfield 29, 3) := by decide +kernel
theorem dX2_init_42 : decode cX2_init 42 = .ok (.return_, 1) := by decide +kernel
theorem dX2_isPair_0 : decode cX2_isPair 0 = .ok (.aload_n 0, 1) := by decide +kernel
theorem dX2_isPair_1 : decode cX2_isPair 1 = .ok (.getfield 29, 3) := by decide +kernel
theorem dX2_isPair_4 : decode cX2_isPair 4 = .ok (.getfield 33, 3) := by decide +kernel
theorem dX2_isPair_7 : decode cX2_isPair 7 = .ok (.iload_n 1, 1) := by decide +kernel
theorem dX2_isPair_8 : decode cX2_isPair 8 = .ok (.iaload, 1) := by decide +kernel
theorem dX2_isPair_9 : decode cX2_isPair 9 = .ok (.aload_n 0, 1) := by decide +kernel
theorem dX2_isPair_10 : decode cX2_isPair 10 = .ok (.getfield 29, 3) := by decide +kernel
theorem dX2_isPair_13 : decode cX2_isPair 13 = .ok (.getfield 33, 3) := by decide +kernel
theorem dX2_isPair_16 : decode cX2_isPair 16 = .ok (.iload_n 2, 1) := by decide +kernel
theorem dX2_isPair_17 : decode cX2_isPair 17 = .ok (.iaload, 1) := by decide +kernel
theorem dX2_isPair_18 : decode cX2_isPair 18 = .ok (.if_icmp .ne 29, 3) := by decide +kernel
theorem dX2_isPair_21 : decode cX2_isPair 21 = .ok (.aload_n 0, 1) := by decide +kernel
theorem dX2_isPair_22 : decode cX2_isPair 22 = .ok (.getfield 29, 3) := by decide +kernel
theorem dX2_isPair_25 : decode cX2_isPair 25 = .ok (.iload_n 1, 1) := by decide +kernel
theorem dX2_isPair_26 : decode cX2_isPair 26 = .ok (.invokevirtual 38, 3) := by decide +kernel
theorem dX2_isPair_29 : decode cX2_isPair 29 = .ok (.ifCond .eq 18, 3) := by decide +kernel
theorem dX2_isPair_32 : decode cX2_isPair 32 = .ok (.aload_n 0, 1) := by decide +kernel
theorem dX2_isPair_33 : decode cX2_isPair 33 = .ok (.getfield 29, 3) := by decide +kernel
theorem dX2_isPair_36 : decode cX2_isPair 36 = .ok (.iload_n 2, 1) := by decide +kernel
theorem dX2_isPair_37 : decode cX2_isPair 37 = .ok (.invokevirtual 38, 3) := by decide +kernel
theorem dX2_isPair_40 : decode cX2_isPair 40 = .ok (.ifCond .eq 7, 3) := by decide +kernel
theorem dX2_isPair_43 : decode cX2_isPair 43 = .ok (.iconst 1, 1) := by decide +kernel
theorem dX2_isPair_44 : decode cX2_isPair 44 = .ok (.goto 4, 3) := by decide +kernel
theorem dX2_isPair_47 : decode cX2_isPair 47 = .ok (.iconst 0, 1) := by decide +kernel
theorem dX2_isPair_48 : decode cX2_isPair 48 = .ok (.ireturn, 1) := by decide +kernel
theorem dX2_sortOf_0 : decode cX2_sortOf 0 = .ok (.aload_n 0, 1) := by decide +kernel
theorem dX2_sortOf_1 : decode cX2_sortOf 1 = .ok (.getfield 29, 3) := by decide +kernel
theorem dX2_sortOf_4 : decode cX2_sortOf 4 = .ok (.iload_n 1, 1) := by decide +kernel
theorem dX2_sortOf_5 : decode cX2_sortOf 5 = .ok (.invokevirtual 42, 3) := by decide +kernel
theorem dX2_sortOf_8 : decode cX2_sortOf 8 = .ok (.ifCond .eq 20, 3) := by decide +kernel
theorem dX2_sortOf_11 : decode cX2_sortOf 11 = .ok (.aload_n 0, 1) := by decide +kernel
theorem dX2_sortOf_12 : decode cX2_sortOf 12 = .ok (.getfield 29, 3) := by decide +kernel
theorem dX2_sortOf_15 : decode cX2_sortOf 15 = .ok (.iload_n 2, 1) := by decide +kernel
theorem dX2_sortOf_16 : decode cX2_sortOf 16 = .ok (.invokevirtual 42, 3) := by decide +kernel
theorem dX2_sortOf_19 : decode cX2_sortOf 19 = .ok (.ifCond .eq 7, 3) := by decide +kernel
theorem dX2_sortOf_22 : decode cX2_sortOf 22 = .ok (.iconst 3, 1) := by decide +kernel
theorem dX2_sortOf_23 : decode cX2_sortOf 23 = .ok (.goto 4, 3) := by decide +kernel
theorem dX2_sortOf_26 : decode cX2_sortOf 26 = .ok (.iconst 1, 1) := by decide +kernel
theorem dX2_sortOf_27 : decode cX2_sortOf 27 = .ok (.ireturn, 1) := by decide +kernel
theorem dX2_sortOf_28 : decode cX2_sortOf 28 = .ok (.aload_n 0, 1) := by decide +kernel
theorem dX2_sortOf_29 : decode cX2_sortOf 29 = .ok (.getfield 29, 3) := by decide +kernel
theorem dX2_sortOf_32 : decode cX2_sortOf 32 = .ok (.iload_n 2, 1) := by decide +kernel
theorem dX2_sortOf_33 : decode cX2_sortOf 33 = .ok (.invokevirtual 42, 3) := by decide +kernel
theorem dX2_sortOf_36 : decode cX2_sortOf 36 = .ok (.ifCond .eq 7, 3) := by decide +kernel
theorem dX2_sortOf_39 : decode cX2_sortOf 39 = .ok (.iconst 0, 1) := by decide +kernel
theorem dX2_sortOf_40 : decode cX2_sortOf 40 = .ok (.goto 4, 3) := by decide +kernel
theorem dX2_sortOf_43 : decode cX2_sortOf 43 = .ok (.iconst 2, 1) := by decide +kernel
theorem dX2_sortOf_44 : decode cX2_sortOf 44 = .ok (.ireturn, 1) := by decide +kernel
theorem dX2_gained_0 : decode cX2_gained 0 = .ok (.aload_n 0, 1) := by decide +kernel
theorem dX2_gained_1 : decode cX2_gained 1 = .ok (.getfield 29, 3) := by decide +kernel
theorem dX2_gained_4 : decode cX2_gained 4 = .ok (.iload_n 1, 1) := by decide +kernel
theorem dX2_gained_5 : decode cX2_gained 5 = .ok (.invokevirtual 45, 3) := by decide +kernel
theorem dX2_gained_8 : decode cX2_gained 8 = .ok (.i2l, 1) := by decide +kernel
theorem dX2_gained_9 : decode cX2_gained 9 = .ok (.lstore_n 3, 1) := by decide +kernel
theorem dX2_gained_10 : decode cX2_gained 10 = .ok (.lload_n 3, 1) := by decide +kernel
theorem dX2_gained_11 : decode cX2_gained 11 = .ok (.aload_n 0, 1) := by decide +kernel
theorem dX2_gained_12 : decode cX2_gained 12 = .ok (.getfield 29, 3) := by decide +kernel
theorem dX2_gained_15 : decode cX2_gained 15 = .ok (.iload_n 2, 1) := by decide +kernel
theorem dX2_gained_16 : decode cX2_gained 16 = .ok (.invokevirtual 45, 3) := by decide +kernel
theorem dX2_gained_19 : decode cX2_gained 19 = .ok (.i2l, 1) := by decide +kernel
theorem dX2_gained_20 : decode cX2_gained 20 = .ok (.lsub, 1) := by decide +kernel
theorem dX2_gained_21 : decode cX2_gained 21 = .ok (.ldc2_w 49, 3) := by decide +kernel
theorem dX2_gained_24 : decode cX2_gained 24 = .ok (.lmul, 1) := by decide +kernel
theorem dX2_gained_25 : decode cX2_gained 25 = .ok (.lload_n 3, 1) := by decide +kernel
theorem dX2_gained_26 : decode cX2_gained 26 = .ok (.invokestatic 51, 3) := by decide +kernel
theorem dX2_gained_29 : decode cX2_gained 29 = .ok (.ireturn, 1) := by decide +kernel
theorem dX2_pairUp_0 : decode cX2_pairUp 0 = .ok (.iconst 0, 1) := by decide +kernel
theorem dX2_pairUp_1 : decode cX2_pairUp 1 = .ok (.istore_n 1, 1) := by decide +kernel
theorem dX2_pairUp_2 : decode cX2_pairUp 2 = .ok (.iload_n 1, 1) := by decide +kernel
theorem dX2_pairUp_3 : decode cX2_pairUp 3 = .ok (.iconst 4, 1) := by decide +kernel
theorem dX2_pairUp_4 : decode cX2_pairUp 4 = .ok (.if_icmp .ge 23, 3) := by decide +kernel
theorem dX2_pairUp_7 : decode cX2_pairUp 7 = .ok (.aload_n 0, 1) := by decide +kernel
theorem dX2_pairUp_8 : decode cX2_pairUp 8 = .ok (.getfield 18, 3) := by decide +kernel
theorem dX2_pairUp_11 : decode cX2_pairUp 11 = .ok (.iload_n 1, 1) := by decide +kernel
theorem dX2_pairUp_12 : decode cX2_pairUp 12 = .ok (.lconst 0, 1) := by decide +kernel
theorem dX2_pairUp_13 : decode cX2_pairUp 13 = .ok (.lastore, 1) := by decide +kernel
theorem dX2_pairUp_14 : decode cX2_pairUp 14 = .ok (.aload_n 0, 1) := by decide +kernel
theorem dX2_pairUp_15 : decode cX2_pairUp 15 = .ok (.getfield 22, 3) := by decide +kernel
theorem dX2_pairUp_18 : decode cX2_pairUp 18 = .ok (.iload_n 1, 1) := by decide +kernel
theorem dX2_pairUp_19 : decode cX2_pairUp 19 = .ok (.iconst 0, 1) := by decide +kernel
theorem dX2_pairUp_20 : decode cX2_pairUp 20 = .ok (.iastore, 1) := by decide +kernel
theorem dX2_pairUp_21 : decode cX2_pairUp 21 = .ok (.iinc 1 1, 3) := by decide +kernel
theorem dX2_pairUp_24 : decode cX2_pairUp 24 = .ok (.goto (-22), 3) := by decide +kernel
theorem dX2_pairUp_27 : decode cX2_pairUp 27 = .ok (.iconst 1, 1) := by decide +kernel
theorem dX2_pairUp_28 : decode cX2_pairUp 28 = .ok (.istore_n 1, 1) := by decide +kernel
theorem dX2_pairUp_29 : decode cX2_pairUp 29 = .ok (.iload_n 1, 1) := by decide +kernel
theorem dX2_pairUp_30 : decode cX2_pairUp 30 = .ok (.aload_n 0, 1) := by decide +kernel
theorem dX2_pairUp_31 : decode cX2_pairUp 31 = .ok (.getfield 29, 3) := by decide +kernel
theorem dX2_pairUp_34 : decode cX2_pairUp 34 = .ok (.getfield 55, 3) := by decide +kernel
theorem dX2_pairUp_37 : decode cX2_pairUp 37 = .ok (.if_icmp .ge 76, 3) := by decide +kernel
theorem dX2_pairUp_40 : decode cX2_pairUp 40 = .ok (.aload_n 0, 1) := by decide +kernel
theorem dX2_pairUp_41 : decode cX2_pairUp 41 = .ok (.getfield 29, 3) := by decide +kernel
theorem dX2_pairUp_44 : decode cX2_pairUp 44 = .ok (.getfield 59, 3) := by decide +kernel
theorem dX2_pairUp_47 : decode cX2_pairUp 47 = .ok (.iload_n 1, 1) := by decide +kernel
theorem dX2_pairUp_48 : decode cX2_pairUp 48 = .ok (.iconst 1, 1) := by decide +kernel
theorem dX2_pairUp_49 : decode cX2_pairUp 49 = .ok (.isub, 1) := by decide +kernel
theorem dX2_pairUp_50 : decode cX2_pairUp 50 = .ok (.iaload, 1) := by decide +kernel
theorem dX2_pairUp_51 : decode cX2_pairUp 51 = .ok (.istore_n 2, 1) := by decide +kernel
theorem dX2_pairUp_52 : decode cX2_pairUp 52 = .ok (.aload_n 0, 1) := by decide +kernel
theorem dX2_pairUp_53 : decode cX2_pairUp 53 = .ok (.getfield 29, 3) := by decide +kernel
theorem dX2_pairUp_56 : decode cX2_pairUp 56 = .ok (.getfield 59, 3) := by decide +kernel
theorem dX2_pairUp_59 : decode cX2_pairUp 59 = .ok (.iload_n 1, 1) := by decide +kernel
theorem dX2_pairUp_60 : decode cX2_pairUp 60 = .ok (.iaload, 1) := by decide +kernel
theorem dX2_pairUp_61 : decode cX2_pairUp 61 = .ok (.istore_n 3, 1) := by decide +kernel
theorem dX2_pairUp_62 : decode cX2_pairUp 62 = .ok (.aload_n 0, 1) := by decide +kernel
theorem dX2_pairUp_63 : decode cX2_pairUp 63 = .ok (.iload_n 2, 1) := by decide +kernel
theorem dX2_pairUp_64 : decode cX2_pairUp 64 = .ok (.iload_n 3, 1) := by decide +kernel
theorem dX2_pairUp_65 : decode cX2_pairUp 65 = .ok (.invokevirtual 62, 3) := by decide +kernel
theorem dX2_pairUp_68 : decode cX2_pairUp 68 = .ok (.ifCond .eq 39, 3) := by decide +kernel
theorem dX2_pairUp_71 : decode cX2_pairUp 71 = .ok (.aload_n 0, 1) := by decide +kernel
theorem dX2_pairUp_72 : decode cX2_pairUp 72 = .ok (.iload_n 2, 1) := by decide +kernel
theorem dX2_pairUp_73 : decode cX2_pairUp 73 = .ok (.iload_n 3, 1) := by decide +kernel
theorem dX2_pairUp_74 : decode cX2_pairUp 74 = .ok (.invokevirtual 66, 3) := by decide +kernel
theorem dX2_pairUp_77 : decode cX2_pairUp 77 = .ok (.istore 4, 2) := by decide +kernel
theorem dX2_pairUp_79 : decode cX2_pairUp 79 = .ok (.aload_n 0, 1) := by decide +kernel
theorem dX2_pairUp_80 : decode cX2_pairUp 80 = .ok (.getfield 18, 3) := by decide +kernel
theorem dX2_pairUp_83 : decode cX2_pairUp 83 = .ok (.iload 4, 2) := by decide +kernel
theorem dX2_pairUp_85 : decode cX2_pairUp 85 = .ok (.dup2, 1) := by decide +kernel
theorem dX2_pairUp_86 : decode cX2_pairUp 86 = .ok (.laload, 1) := by decide +kernel
theorem dX2_pairUp_87 : decode cX2_pairUp 87 = .ok (.aload_n 0, 1) := by decide +kernel
theorem dX2_pairUp_88 : decode cX2_pairUp 88 = .ok (.iload_n 2, 1) := by decide +kernel
theorem dX2_pairUp_89 : decode cX2_pairUp 89 = .ok (.iload_n 3, 1) := by decide +kernel
theorem dX2_pairUp_90 : decode cX2_pairUp 90 = .ok (.invokevirtual 70, 3) := by decide +kernel
theorem dX2_pairUp_93 : decode cX2_pairUp 93 = .ok (.i2l, 1) := by decide +kernel
theorem dX2_pairUp_94 : decode cX2_pairUp 94 = .ok (.ladd, 1) := by decide +kernel
theorem dX2_pairUp_95 : decode cX2_pairUp 95 = .ok (.lastore, 1) := by decide +kernel
theorem dX2_pairUp_96 : decode cX2_pairUp 96 = .ok (.aload_n 0, 1) := by decide +kernel
theorem dX2_pairUp_97 : decode cX2_pairUp 97 = .ok (.getfield 22, 3) := by decide +kernel
theorem dX2_pairUp_100 : decode cX2_pairUp 100 = .ok (.iload 4, 2) := by decide +kernel
theorem dX2_pairUp_102 : decode cX2_pairUp 102 = .ok (.dup2, 1) := by decide +kernel
theorem dX2_pairUp_103 : decode cX2_pairUp 103 = .ok (.iaload, 1) := by decide +kernel
theorem dX2_pairUp_104 : decode cX2_pairUp 104 = .ok (.iconst 1, 1) := by decide +kernel
theorem dX2_pairUp_105 : decode cX2_pairUp 105 = .ok (.iadd, 1) := by decide +kernel
theorem dX2_pairUp_106 : decode cX2_pairUp 106 = .ok (.iastore, 1) := by decide +kernel
theorem dX2_pairUp_107 : decode cX2_pairUp 107 = .ok (.iinc 1 1, 3) := by decide +kernel
theorem dX2_pairUp_110 : decode cX2_pairUp 110 = .ok (.goto (-81), 3) := by decide +kernel
theorem dX2_pairUp_113 : decode cX2_pairUp 113 = .ok (.return_, 1) := by decide +kernel
theorem dX2_mean_0 : decode cX2_mean 0 = .ok (.aload_n 0, 1) := by decide +kernel
theorem dX2_mean_1 : decode cX2_mean 1 = .ok (.getfield 22, 3) := by decide +kernel
theorem dX2_mean_4 : decode cX2_mean 4 = .ok (.iload_n 1, 1) := by decide +kernel
theorem dX2_mean_5 : decode cX2_mean 5 = .ok (.iaload, 1) := by decide +kernel
theorem dX2_mean_6 : decode cX2_mean 6 = .ok (.ifCond .ne 8, 3) := by decide +kernel
theorem dX2_mean_9 : decode cX2_mean 9 = .ok (.ldc 73, 2) := by decide +kernel
theorem dX2_mean_11 : decode cX2_mean 11 = .ok (.goto 19, 3) := by decide +kernel
theorem dX2_mean_14 : decode cX2_mean 14 = .ok (.aload_n 0, 1) := by decide +kernel
theorem dX2_mean_15 : decode cX2_mean 15 = .ok (.getfield 18, 3) := by decide +kernel
theorem dX2_mean_18 : decode cX2_mean 18 = .ok (.iload_n 1, 1) := by decide +kernel
theorem dX2_mean_19 : decode cX2_mean 19 = .ok (.laload, 1) := by decide +kernel
theorem dX2_mean_20 : decode cX2_mean 20 = .ok (.aload_n 0, 1) := by decide +kernel
theorem dX2_mean_21 : decode cX2_mean 21 = .ok (.getfield 22, 3) := by decide +kernel
theorem dX2_mean_24 : decode cX2_mean 24 = .ok (.iload_n 1, 1) := by decide +kernel
theorem dX2_mean_25 : decode cX2_mean 25 = .ok (.iaload, 1) := by decide +kernel
theorem dX2_mean_26 : decode cX2_mean 26 = .ok (.i2l, 1) := by decide +kernel
theorem dX2_mean_27 : decode cX2_mean 27 = .ok (.invokestatic 51, 3) := by decide +kernel
theorem dX2_mean_30 : decode cX2_mean 30 = .ok (.ireturn, 1) := by decide +kernel
theorem dX2_spread_0 : decode cX2_spread 0 = .ok (.aload_n 0, 1) := by decide +kernel
theorem dX2_spread_1 : decode cX2_spread 1 = .ok (.iconst 2, 1) := by decide +kernel
theorem dX2_spread_2 : decode cX2_spread 2 = .ok (.invokevirtual 74, 3) := by decide +kernel
theorem dX2_spread_5 : decode cX2_spread 5 = .ok (.i2l, 1) := by decide +kernel
theorem dX2_spread_6 : decode cX2_spread 6 = .ok (.lstore_n 1, 1) := by decide +kernel
theorem dX2_spread_7 : decode cX2_spread 7 = .ok (.lconst 0, 1) := by decide +kernel
theorem dX2_spread_8 : decode cX2_spread 8 = .ok (.lstore_n 3, 1) := by decide +kernel
theorem dX2_spread_9 : decode cX2_spread 9 = .ok (.iconst 1, 1) := by decide +kernel
theorem dX2_spread_10 : decode cX2_spread 10 = .ok (.istore 5, 2) := by decide +kernel
theorem dX2_spread_12 : decode cX2_spread 12 = .ok (.iload 5, 2) := by decide +kernel
theorem dX2_spread_14 : decode cX2_spread 14 = .ok (.aload_n 0, 1) := by decide +kernel
theorem dX2_spread_15 : decode cX2_spread 15 = .ok (.getfield 29, 3) := by decide +kernel
theorem dX2_spread_18 : decode cX2_spread 18 = .ok (.getfield 55, 3) := by decide +kernel
theorem dX2_spread_21 : decode cX2_spread 21 = .ok (.if_icmp .ge 79, 3) := by decide +kernel
theorem dX2_spread_24 : decode cX2_spread 24 = .ok (.aload_n 0, 1) := by decide +kernel
theorem dX2_spread_25 : decode cX2_spread 25 = .ok (.getfield 29, 3) := by decide +kernel
theorem dX2_spread_28 : decode cX2_spread 28 = .ok (.getfield 59, 3) := by decide +kernel
theorem dX2_spread_31 : decode cX2_spread 31 = .ok (.iload 5, 2) := by decide +kernel
theorem dX2_spread_33 : decode cX2_spread 33 = .ok (.iconst 1, 1) := by decide +kernel
theorem dX2_spread_34 : decode cX2_spread 34 = .ok (.isub, 1) := by decide +kernel
theorem dX2_spread_35 : decode cX2_spread 35 = .ok (.iaload, 1) := by decide +kernel
theorem dX2_spread_36 : decode cX2_spread 36 = .ok (.istore 6, 2) := by decide +kernel
theorem dX2_spread_38 : decode cX2_spread 38 = .ok (.aload_n 0, 1) := by decide +kernel
theorem dX2_spread_39 : decode cX2_spread 39 = .ok (.getfield 29, 3) := by decide +kernel
theorem dX2_spread_42 : decode cX2_spread 42 = .ok (.getfield 59, 3) := by decide +kernel
theorem dX2_spread_45 : decode cX2_spread 45 = .ok (.iload 5, 2) := by decide +kernel
theorem dX2_spread_47 : decode cX2_spread 47 = .ok (.iaload, 1) := by decide +kernel
theorem dX2_spread_48 : decode cX2_spread 48 = .ok (.istore 7, 2) := by decide +kernel
theorem dX2_spread_50 : decode cX2_spread 50 = .ok (.aload_n 0, 1) := by decide +kernel
theorem dX2_spread_51 : decode cX2_spread 51 = .ok (.iload 6, 2) := by decide +kernel
theorem dX2_spread_53 : decode cX2_spread 53 = .ok (.iload 7, 2) := by decide +kernel
theorem dX2_spread_55 : decode cX2_spread 55 = .ok (.invokevirtual 62, 3) := by decide +kernel
theorem dX2_spread_58 : decode cX2_spread 58 = .ok (.ifCond .eq 36, 3) := by decide +kernel
theorem dX2_spread_61 : decode cX2_spread 61 = .ok (.aload_n 0, 1) := by decide +kernel
theorem dX2_spread_62 : decode cX2_spread 62 = .ok (.iload 6, 2) := by decide +kernel
theorem dX2_spread_64 : decode cX2_spread 64 = .ok (.iload 7, 2) := by decide +kernel
theorem dX2_spread_66 : decode cX2_spread 66 = .ok (.invokevirtual 66, 3) := by decide +kernel
theorem dX2_spread_69 : decode cX2_spread 69 = .ok (.iconst 2, 1) := by decide +kernel
theorem dX2_spread_70 : decode cX2_spread 70 = .ok (.if_icmp .ne 24, 3) := by decide +kernel
theorem dX2_spread_73 : decode cX2_spread 73 = .ok (.aload_n 0, 1) := by decide +kernel
theorem dX2_spread_74 : decode cX2_spread 74 = .ok (.iload 6, 2) := by decide +kernel
theorem dX2_spread_76 : decode cX2_spread 76 = .ok (.iload 7, 2) := by decide +kernel
theorem dX2_spread_78 : decode cX2_spread 78 = .ok (.invokevirtual 70, 3) := by decide +kernel
theorem dX2_spread_81 : decode cX2_spread 81 = .ok (.i2l, 1) := by decide +kernel
theorem dX2_spread_82 : decode cX2_spread 82 = .ok (.lload_n 1, 1) := by decide +kernel
theorem dX2_spread_83 : decode cX2_spread 83 = .ok (.lsub, 1) := by decide +kernel
theorem dX2_spread_84 : decode cX2_spread 84 = .ok (.lstore 8, 2) := by decide +kernel
theorem dX2_spread_86 : decode cX2_spread 86 = .ok (.lload_n 3, 1) := by decide +kernel
theorem dX2_spread_87 : decode cX2_spread 87 = .ok (.lload 8, 2) := by decide +kernel
theorem dX2_spread_89 : decode cX2_spread 89 = .ok (.lload 8, 2) := by decide +kernel
theorem dX2_spread_91 : decode cX2_spread 91 = .ok (.lmul, 1) := by decide +kernel
theorem dX2_spread_92 : decode cX2_spread 92 = .ok (.ladd, 1) := by decide +kernel
theorem dX2_spread_93 : decode cX2_spread 93 = .ok (.lstore_n 3, 1) := by decide +kernel
theorem dX2_spread_94 : decode cX2_spread 94 = .ok (.iinc 5 1, 3) := by decide +kernel
theorem dX2_spread_97 : decode cX2_spread 97 = .ok (.goto (-85), 3) := by decide +kernel
theorem dX2_spread_100 : decode cX2_spread 100 = .ok (.aload_n 0, 1) := by decide +kernel
theorem dX2_spread_101 : decode cX2_spread 101 = .ok (.getfield 22, 3) := by decide +kernel
theorem dX2_spread_104 : decode cX2_spread 104 = .ok (.iconst 2, 1) := by decide +kernel
theorem dX2_spread_105 : decode cX2_spread 105 = .ok (.iaload, 1) := by decide +kernel
theorem dX2_spread_106 : decode cX2_spread 106 = .ok (.ifCond .ne 7, 3) := by decide +kernel
theorem dX2_spread_109 : decode cX2_spread 109 = .ok (.lconst 0, 1) := by decide +kernel
theorem dX2_spread_110 : decode cX2_spread 110 = .ok (.goto 12, 3) := by decide +kernel
theorem dX2_spread_113 : decode cX2_spread 113 = .ok (.lload_n 3, 1) := by decide +kernel
theorem dX2_spread_114 : decode cX2_spread 114 = .ok (.aload_n 0, 1) := by decide +kernel
theorem dX2_spread_115 : decode cX2_spread 115 = .ok (.getfield 22, 3) := by decide +kernel
theorem dX2_spread_118 : decode cX2_spread 118 = .ok (.iconst 2, 1) := by decide +kernel
theorem dX2_spread_119 : decode cX2_spread 119 = .ok (.iaload, 1) := by decide +kernel
theorem dX2_spread_120 : decode cX2_spread 120 = .ok (.i2l, 1) := by decide +kernel
theorem dX2_spread_121 : decode cX2_spread 121 = .ok (.ldiv, 1) := by decide +kernel
theorem dX2_spread_122 : decode cX2_spread 122 = .ok (.lreturn, 1) := by decide +kernel
theorem dX2_since_0 : decode cX2_since 0 = .ok (.aload_n 0, 1) := by decide +kernel
theorem dX2_since_1 : decode cX2_since 1 = .ok (.iconst 0, 1) := by decide +kernel
theorem dX2_since_2 : decode cX2_since 2 = .ok (.invokevirtual 74, 3) := by decide +kernel
theorem dX2_since_5 : decode cX2_since 5 = .ok (.aload_n 0, 1) := by decide +kernel
theorem dX2_since_6 : decode cX2_since 6 = .ok (.iconst 2, 1) := by decide +kernel
theorem dX2_since_7 : decode cX2_since 7 = .ok (.invokevirtual 74, 3) := by decide +kernel
theorem dX2_since_10 : decode cX2_since 10 = .ok (.invokestatic 77, 3) := by decide +kernel
theorem dX2_since_13 : decode cX2_since 13 = .ok (.ireturn, 1) := by decide +kernel
theorem dX2_inRaces_0 : decode cX2_inRaces 0 = .ok (.lconst 0, 1) := by decide +kernel
theorem dX2_inRaces_1 : decode cX2_inRaces 1 = .ok (.lstore_n 1, 1) := by decide +kernel
theorem dX2_inRaces_2 : decode cX2_inRaces 2 = .ok (.iconst 0, 1) := by decide +kernel
theorem dX2_inRaces_3 : decode cX2_inRaces 3 = .ok (.istore_n 3, 1) := by decide +kernel
theorem dX2_inRaces_4 : decode cX2_inRaces 4 = .ok (.aload_n 0, 1) := by decide +kernel
theorem dX2_inRaces_5 : decode cX2_inRaces 5 = .ok (.getfield 12, 3) := by decide +kernel
theorem dX2_inRaces_8 : decode cX2_inRaces 8 = .ok (.invokevirtual 80, 3) := by decide +kernel
theorem dX2_inRaces_11 : decode cX2_inRaces 11 = .ok (.iconst 0, 1) := by decide +kernel
theorem dX2_inRaces_12 : decode cX2_inRaces 12 = .ok (.istore 4, 2) := by decide +kernel
theorem dX2_inRaces_14 : decode cX2_inRaces 14 = .ok (.iload 4, 2) := by decide +kernel
theorem dX2_inRaces_16 : decode cX2_inRaces 16 = .ok (.aload_n 0, 1) := by decide +kernel
theorem dX2_inRaces_17 : decode cX2_inRaces 17 = .ok (.getfield 29, 3) := by decide +kernel
theorem dX2_inRaces_20 : decode cX2_inRaces 20 = .ok (.getfield 55, 3) := by decide +kernel
theorem dX2_inRaces_23 : decode cX2_inRaces 23 = .ok (.if_icmp .ge 84, 3) := by decide +kernel
theorem dX2_inRaces_26 : decode cX2_inRaces 26 = .ok (.aload_n 0, 1) := by decide +kernel
theorem dX2_inRaces_27 : decode cX2_inRaces 27 = .ok (.getfield 29, 3) := by decide +kernel
theorem dX2_inRaces_30 : decode cX2_inRaces 30 = .ok (.getfield 83, 3) := by decide +kernel
theorem dX2_inRaces_33 : decode cX2_inRaces 33 = .ok (.iload 4, 2) := by decide +kernel
theorem dX2_inRaces_35 : decode cX2_inRaces 35 = .ok (.iaload, 1) := by decide +kernel
theorem dX2_inRaces_36 : decode cX2_inRaces 36 = .ok (.istore 5, 2) := by decide +kernel
theorem dX2_inRaces_38 : decode cX2_inRaces 38 = .ok (.aload_n 0, 1) := by decide +kernel
theorem dX2_inRaces_39 : decode cX2_inRaces 39 = .ok (.iload 5, 2) := by decide +kernel
theorem dX2_inRaces_41 : decode cX2_inRaces 41 = .ok (.invokevirtual 86, 3) := by decide +kernel
theorem dX2_inRaces_44 : decode cX2_inRaces 44 = .ok (.aload_n 0, 1) := by decide +kernel
theorem dX2_inRaces_45 : decode cX2_inRaces 45 = .ok (.iload 4, 2) := by decide +kernel
theorem dX2_inRaces_47 : decode cX2_inRaces 47 = .ok (.invokevirtual 90, 3) := by decide +kernel
theorem dX2_inRaces_50 : decode cX2_inRaces 50 = .ok (.ifCond .eq 51, 3) := by decide +kernel
theorem dX2_inRaces_53 : decode cX2_inRaces 53 = .ok (.aload_n 0, 1) := by decide +kernel
theorem dX2_inRaces_54 : decode cX2_inRaces 54 = .ok (.getfield 12, 3) := by decide +kernel
theorem dX2_inRaces_57 : decode cX2_inRaces 57 = .ok (.invokevirtual 93, 3) := by decide +kernel
theorem dX2_inRaces_60 : decode cX2_inRaces 60 = .ok (.istore 6, 2) := by decide +kernel
theorem dX2_inRaces_62 : decode cX2_inRaces 62 = .ok (.lload_n 1, 1) := by decide +kernel
theorem dX2_inRaces_63 : decode cX2_inRaces 63 = .ok (.iload 6, 2) := by decide +kernel
theorem dX2_inRaces_65 : decode cX2_inRaces 65 = .ok (.ldc 73, 2) := by decide +kernel
theorem dX2_inRaces_67 : decode cX2_inRaces 67 = .ok (.if_icmp .ne 7, 3) := by decide +kernel
theorem dX2_inRaces_70 : decode cX2_inRaces 70 = .ok (.lconst 0, 1) := by decide +kernel
theorem dX2_inRaces_71 : decode cX2_inRaces 71 = .ok (.goto 6, 3) := by decide +kernel
theorem dX2_inRaces_74 : decode cX2_inRaces 74 = .ok (.iload 6, 2) := by decide +kernel
theorem dX2_inRaces_76 : decode cX2_inRaces 76 = .ok (.i2l, 1) := by decide +kernel
theorem dX2_inRaces_77 : decode cX2_inRaces 77 = .ok (.ladd, 1) := by decide +kernel
theorem dX2_inRaces_78 : decode cX2_inRaces 78 = .ok (.lstore_n 1, 1) := by decide +kernel
theorem dX2_inRaces_79 : decode cX2_inRaces 79 = .ok (.iload_n 3, 1) := by decide +kernel
theorem dX2_inRaces_80 : decode cX2_inRaces 80 = .ok (.iload 6, 2) := by decide +kernel
theorem dX2_inRaces_82 : decode cX2_inRaces 82 = .ok (.ldc 73, 2) := by decide +kernel
theorem dX2_inRaces_84 : decode cX2_inRaces 84 = .ok (.if_icmp .ne 7, 3) := by decide +kernel
theorem dX2_inRaces_87 : decode cX2_inRaces 87 = .ok (.iconst 0, 1) := by decide +kernel
theorem dX2_inRaces_88 : decode cX2_inRaces 88 = .ok (.goto 4, 3) := by decide +kernel
theorem dX2_inRaces_91 : decode cX2_inRaces 91 = .ok (.iconst 1, 1) := by decide +kernel
theorem dX2_inRaces_92 : decode cX2_inRaces 92 = .ok (.iadd, 1) := by decide +kernel
theorem dX2_inRaces_93 : decode cX2_inRaces 93 = .ok (.istore_n 3, 1) := by decide +kernel
theorem dX2_inRaces_94 : decode cX2_inRaces 94 = .ok (.aload_n 0, 1) := by decide +kernel
theorem dX2_inRaces_95 : decode cX2_inRaces 95 = .ok (.getfield 12, 3) := by decide +kernel
theorem dX2_inRaces_98 : decode cX2_inRaces 98 = .ok (.invokevirtual 80, 3) := by decide +kernel
theorem dX2_inRaces_101 : decode cX2_inRaces 101 = .ok (.iinc 4 1, 3) := by decide +kernel
theorem dX2_inRaces_104 : decode cX2_inRaces 104 = .ok (.goto (-90), 3) := by decide +kernel
theorem dX2_inRaces_107 : decode cX2_inRaces 107 = .ok (.iload_n 3, 1) := by decide +kernel
theorem dX2_inRaces_108 : decode cX2_inRaces 108 = .ok (.ifCond .ne 8, 3) := by decide +kernel
theorem dX2_inRaces_111 : decode cX2_inRaces 111 = .ok (.ldc 73, 2) := by decide +kernel
theorem dX2_inRaces_113 : decode cX2_inRaces 113 = .ok (.goto 9, 3) := by decide +kernel
theorem dX2_inRaces_116 : decode cX2_inRaces 116 = .ok (.lload_n 1, 1) := by decide +kernel
theorem dX2_inRaces_117 : decode cX2_inRaces 117 = .ok (.iload_n 3, 1) := by decide +kernel
theorem dX2_inRaces_118 : decode cX2_inRaces 118 = .ok (.i2l, 1) := by decide +kernel
theorem dX2_inRaces_119 : decode cX2_inRaces 119 = .ok (.invokestatic 51, 3) := by decide +kernel
theorem dX2_inRaces_122 : decode cX2_inRaces 122 = .ok (.ireturn, 1) := by decide +kernel
theorem dX2_addSeen_0 : decode cX2_addSeen 0 = .ok (.aload_n 0, 1) := by decide +kernel
theorem dX2_addSeen_1 : decode cX2_addSeen 1 = .ok (.getfield 29, 3) := by decide +kernel
theorem dX2_addSeen_4 : decode cX2_addSeen 4 = .ok (.iload_n 1, 1) := by decide +kernel
theorem dX2_addSeen_5 : decode cX2_addSeen 5 = .ok (.invokevirtual 38, 3) := by decide +kernel
theorem dX2_addSeen_8 : decode cX2_addSeen 8 = .ok (.ifCond .eq 26, 3) := by decide +kernel
theorem dX2_addSeen_11 : decode cX2_addSeen 11 = .ok (.aload_n 0, 1) := by decide +kernel
theorem dX2_addSeen_12 : decode cX2_addSeen 12 = .ok (.getfield 12, 3) := by decide +kernel
theorem dX2_addSeen_15 : decode cX2_addSeen 15 = .ok (.aload_n 0, 1) := by decide +kernel
theorem dX2_addSeen_16 : decode cX2_addSeen 16 = .ok (.getfield 29, 3) := by decide +kernel
theorem dX2_addSeen_19 : decode cX2_addSeen 19 = .ok (.iload_n 1, 1) := by decide +kernel
theorem dX2_addSeen_20 : decode cX2_addSeen 20 = .ok (.invokevirtual 45, 3) := by decide +kernel
theorem dX2_addSeen_23 : decode cX2_addSeen 23 = .ok (.aload_n 0, 1) := by decide +kernel
theorem dX2_addSeen_24 : decode cX2_addSeen 24 = .ok (.getfield 29, 3) := by decide +kernel
theorem dX2_addSeen_27 : decode cX2_addSeen 27 = .ok (.iload_n 1, 1) := by decide +kernel
theorem dX2_addSeen_28 : decode cX2_addSeen 28 = .ok (.invokevirtual 42, 3) := by decide +kernel
theorem dX2_addSeen_31 : decode cX2_addSeen 31 = .ok (.invokevirtual 96, 3) := by decide +kernel
theorem dX2_addSeen_34 : decode cX2_addSeen 34 = .ok (.return_, 1) := by decide +kernel
theorem dX2_isLastOfRace_0 : decode cX2_isLastOfRace 0 = .ok (.iload_n 1, 1) := by decide +kernel
theorem dX2_isLastOfRace_1 : decode cX2_isLastOfRace 1 = .ok (.iconst 1, 1) := by decide +kernel
theorem dX2_isLastOfRace_2 : decode cX2_isLastOfRace 2 = .ok (.iadd, 1) := by decide +kernel
theorem dX2_isLastOfRace_3 : decode cX2_isLastOfRace 3 = .ok (.aload_n 0, 1) := by decide +kernel
theorem dX2_isLastOfRace_4 : decode cX2_isLastOfRace 4 = .ok (.getfield 29, 3) := by decide +kernel
theorem dX2_isLastOfRace_7 : decode cX2_isLastOfRace 7 = .ok (.getfield 55, 3) := by decide +kernel
theorem dX2_isLastOfRace_10 : decode cX2_isLastOfRace 10 = .ok (.if_icmp .lt 5, 3) := by decide +kernel
theorem dX2_isLastOfRace_13 : decode cX2_isLastOfRace 13 = .ok (.iconst 1, 1) := by decide +kernel
theorem dX2_isLastOfRace_14 : decode cX2_isLastOfRace 14 = .ok (.ireturn, 1) := by decide +kernel
theorem dX2_isLastOfRace_15 : decode cX2_isLastOfRace 15 = .ok (.aload_n 0, 1) := by decide +kernel
theorem dX2_isLastOfRace_16 : decode cX2_isLastOfRace 16 = .ok (.getfield 29, 3) := by decide +kernel
theorem dX2_isLastOfRace_19 : decode cX2_isLastOfRace 19 = .ok (.getfield 83, 3) := by decide +kernel
theorem dX2_isLastOfRace_22 : decode cX2_isLastOfRace 22 = .ok (.iload_n 1, 1) := by decide +kernel
theorem dX2_isLastOfRace_23 : decode cX2_isLastOfRace 23 = .ok (.iaload, 1) := by decide +kernel
theorem dX2_isLastOfRace_24 : decode cX2_isLastOfRace 24 = .ok (.istore_n 2, 1) := by decide +kernel
theorem dX2_isLastOfRace_25 : decode cX2_isLastOfRace 25 = .ok (.aload_n 0, 1) := by decide +kernel
theorem dX2_isLastOfRace_26 : decode cX2_isLastOfRace 26 = .ok (.getfield 29, 3) := by decide +kernel
theorem dX2_isLastOfRace_29 : decode cX2_isLastOfRace 29 = .ok (.getfield 83, 3) := by decide +kernel
theorem dX2_isLastOfRace_32 : decode cX2_isLastOfRace 32 = .ok (.iload_n 1, 1) := by decide +kernel
theorem dX2_isLastOfRace_33 : decode cX2_isLastOfRace 33 = .ok (.iconst 1, 1) := by decide +kernel
theorem dX2_isLastOfRace_34 : decode cX2_isLastOfRace 34 = .ok (.iadd, 1) := by decide +kernel
theorem dX2_isLastOfRace_35 : decode cX2_isLastOfRace 35 = .ok (.iaload, 1) := by decide +kernel
theorem dX2_isLastOfRace_36 : decode cX2_isLastOfRace 36 = .ok (.istore_n 3, 1) := by decide +kernel
theorem dX2_isLastOfRace_37 : decode cX2_isLastOfRace 37 = .ok (.aload_n 0, 1) := by decide +kernel
theorem dX2_isLastOfRace_38 : decode cX2_isLastOfRace 38 = .ok (.getfield 29, 3) := by decide +kernel
theorem dX2_isLastOfRace_41 : decode cX2_isLastOfRace 41 = .ok (.iload_n 3, 1) := by decide +kernel
theorem dX2_isLastOfRace_42 : decode cX2_isLastOfRace 42 = .ok (.aload_n 0, 1) := by decide +kernel
theorem dX2_isLastOfRace_43 : decode cX2_isLastOfRace 43 = .ok (.getfield 29, 3) := by decide +kernel
theorem dX2_isLastOfRace_46 : decode cX2_isLastOfRace 46 = .ok (.getfield 100, 3) := by decide +kernel
theorem dX2_isLastOfRace_49 : decode cX2_isLastOfRace 49 = .ok (.iload_n 2, 1) := by decide +kernel
theorem dX2_isLastOfRace_50 : decode cX2_isLastOfRace 50 = .ok (.iaload, 1) := by decide +kernel
theorem dX2_isLastOfRace_51 : decode cX2_isLastOfRace 51 = .ok (.aload_n 0, 1) := by decide +kernel
theorem dX2_isLastOfRace_52 : decode cX2_isLastOfRace 52 = .ok (.getfield 29, 3) := by decide +kernel
theorem dX2_isLastOfRace_55 : decode cX2_isLastOfRace 55 = .ok (.getfield 103, 3) := by decide +kernel
theorem dX2_isLastOfRace_58 : decode cX2_isLastOfRace 58 = .ok (.iload_n 2, 1) := by decide +kernel
theorem dX2_isLastOfRace_59 : decode cX2_isLastOfRace 59 = .ok (.iaload, 1) := by decide +kernel
theorem dX2_isLastOfRace_60 : decode cX2_isLastOfRace 60 = .ok (.invokevirtual 106, 3) := by decide +kernel
theorem dX2_isLastOfRace_63 : decode cX2_isLastOfRace 63 = .ok (.ifCond .ne 7, 3) := by decide +kernel
theorem dX2_isLastOfRace_66 : decode cX2_isLastOfRace 66 = .ok (.iconst 1, 1) := by decide +kernel
theorem dX2_isLastOfRace_67 : decode cX2_isLastOfRace 67 = .ok (.goto 4, 3) := by decide +kernel
theorem dX2_isLastOfRace_70 : decode cX2_isLastOfRace 70 = .ok (.iconst 0, 1) := by decide +kernel
theorem dX2_isLastOfRace_71 : decode cX2_isLastOfRace 71 = .ok (.ireturn, 1) := by decide +kernel
theorem dX2_bound_0 : decode cX2_bound 0 = .ok (.ldc 73, 2) := by decide +kernel
theorem dX2_bound_2 : decode cX2_bound 2 = .ok (.aload_n 0, 1) := by decide +kernel
theorem dX2_bound_3 : decode cX2_bound 3 = .ok (.invokevirtual 110, 3) := by decide +kernel
theorem dX2_bound_6 : decode cX2_bound 6 = .ok (.iload_n 1, 1) := by decide +kernel
theorem dX2_bound_7 : decode cX2_bound 7 = .ok (.invokestatic 113, 3) := by decide +kernel
theorem dX2_bound_10 : decode cX2_bound 10 = .ok (.istore_n 2, 1) := by decide +kernel
theorem dX2_bound_11 : decode cX2_bound 11 = .ok (.iload_n 2, 1) := by decide +kernel
theorem dX2_bound_12 : decode cX2_bound 12 = .ok (.aload_n 0, 1) := by decide +kernel
theorem dX2_bound_13 : decode cX2_bound 13 = .ok (.invokevirtual 117, 3) := by decide +kernel
theorem dX2_bound_16 : decode cX2_bound 16 = .ok (.iload_n 1, 1) := by decide +kernel
theorem dX2_bound_17 : decode cX2_bound 17 = .ok (.invokestatic 113, 3) := by decide +kernel
theorem dX2_bound_20 : decode cX2_bound 20 = .ok (.istore_n 2, 1) := by decide +kernel
theorem dX2_bound_21 : decode cX2_bound 21 = .ok (.iload_n 2, 1) := by decide +kernel
theorem dX2_bound_22 : decode cX2_bound 22 = .ok (.iconst 0, 1) := by decide +kernel
theorem dX2_bound_23 : decode cX2_bound 23 = .ok (.aload_n 0, 1) := by decide +kernel
theorem dX2_bound_24 : decode cX2_bound 24 = .ok (.iconst 1, 1) := by decide +kernel
theorem dX2_bound_25 : decode cX2_bound 25 = .ok (.invokevirtual 74, 3) := by decide +kernel
theorem dX2_bound_28 : decode cX2_bound 28 = .ok (.invokestatic 77, 3) := by decide +kernel
theorem dX2_bound_31 : decode cX2_bound 31 = .ok (.iload_n 1, 1) := by decide +kernel
theorem dX2_bound_32 : decode cX2_bound 32 = .ok (.invokestatic 113, 3) := by decide +kernel
theorem dX2_bound_35 : decode cX2_bound 35 = .ok (.ireturn, 1) := by decide +kernel
theorem dX2_further_0 : decode cX2_further 0 = .ok (.iload_n 0, 1) := by decide +kernel
theorem dX2_further_1 : decode cX2_further 1 = .ok (.ldc 73, 2) := by decide +kernel
theorem dX2_further_3 : decode cX2_further 3 = .ok (.if_icmp .eq 9, 3) := by decide +kernel
theorem dX2_further_6 : decode cX2_further 6 = .ok (.iload_n 1, 1) := by decide +kernel
theorem dX2_further_7 : decode cX2_further 7 = .ok (.ldc 73, 2) := by decide +kernel
theorem dX2_further_9 : decode cX2_further 9 = .ok (.if_icmp .ne 15, 3) := by decide +kernel
theorem dX2_further_12 : decode cX2_further 12 = .ok (.iload_n 0, 1) := by decide +kernel
theorem dX2_further_13 : decode cX2_further 13 = .ok (.ldc 73, 2) := by decide +kernel
theorem dX2_further_15 : decode cX2_further 15 = .ok (.if_icmp .ne 7, 3) := by decide +kernel
theorem dX2_further_18 : decode cX2_further 18 = .ok (.iload_n 1, 1) := by decide +kernel
theorem dX2_further_19 : decode cX2_further 19 = .ok (.goto 4, 3) := by decide +kernel
theorem dX2_further_22 : decode cX2_further 22 = .ok (.iload_n 0, 1) := by decide +kernel
theorem dX2_further_23 : decode cX2_further 23 = .ok (.ireturn, 1) := by decide +kernel
theorem dX2_further_24 : decode cX2_further 24 = .ok (.iload_n 2, 1) := by decide +kernel
theorem dX2_further_25 : decode cX2_further 25 = .ok (.ifCond .eq 11, 3) := by decide +kernel
theorem dX2_further_28 : decode cX2_further 28 = .ok (.iload_n 0, 1) := by decide +kernel
theorem dX2_further_29 : decode cX2_further 29 = .ok (.iload_n 1, 1) := by decide +kernel
theorem dX2_further_30 : decode cX2_further 30 = .ok (.invokestatic 120, 3) := by decide +kernel
theorem dX2_further_33 : decode cX2_further 33 = .ok (.goto 8, 3) := by decide +kernel
theorem dX2_further_36 : decode cX2_further 36 = .ok (.iload_n 0, 1) := by decide +kernel
theorem dX2_further_37 : decode cX2_further 37 = .ok (.iload_n 1, 1) := by decide +kernel
theorem dX2_further_38 : decode cX2_further 38 = .ok (.invokestatic 125, 3) := by decide +kernel
theorem dX2_further_41 : decode cX2_further 41 = .ok (.ireturn, 1) := by decide +kernel
theorem dX2_ofRunner_0 : decode cX2_ofRunner 0 = .ok (.aload_n 0, 1) := by decide +kernel
theorem dX2_ofRunner_1 : decode cX2_ofRunner 1 = .ok (.getfield 12, 3) := by decide +kernel
theorem dX2_ofRunner_4 : decode cX2_ofRunner 4 = .ok (.invokevirtual 80, 3) := by decide +kernel
theorem dX2_ofRunner_7 : decode cX2_ofRunner 7 = .ok (.iconst 0, 1) := by decide +kernel
theorem dX2_ofRunner_8 : decode cX2_ofRunner 8 = .ok (.istore_n 2, 1) := by decide +kernel
theorem dX2_ofRunner_9 : decode cX2_ofRunner 9 = .ok (.iload_n 2, 1) := by decide +kernel
theorem dX2_ofRunner_10 : decode cX2_ofRunner 10 = .ok (.aload_n 0, 1) := by decide +kernel
theorem dX2_ofRunner_11 : decode cX2_ofRunner 11 = .ok (.getfield 29, 3) := by decide +kernel
theorem dX2_ofRunner_14 : decode cX2_ofRunner 14 = .ok (.getfield 55, 3) := by decide +kernel
theorem dX2_ofRunner_17 : decode cX2_ofRunner 17 = .ok (.if_icmp .ge 27, 3) := by decide +kernel
theorem dX2_ofRunner_20 : decode cX2_ofRunner 20 = .ok (.aload_n 0, 1) := by decide +kernel
theorem dX2_ofRunner_21 : decode cX2_ofRunner 21 = .ok (.getfield 29, 3) := by decide +kernel
theorem dX2_ofRunner_24 : decode cX2_ofRunner 24 = .ok (.getfield 33, 3) := by decide +kernel
theorem dX2_ofRunner_27 : decode cX2_ofRunner 27 = .ok (.iload_n 2, 1) := by decide +kernel
theorem dX2_ofRunner_28 : decode cX2_ofRunner 28 = .ok (.iaload, 1) := by decide +kernel
theorem dX2_ofRunner_29 : decode cX2_ofRunner 29 = .ok (.iload_n 1, 1) := by decide +kernel
theorem dX2_ofRunner_30 : decode cX2_ofRunner 30 = .ok (.if_icmp .ne 8, 3) := by decide +kernel
theorem dX2_ofRunner_33 : decode cX2_ofRunner 33 = .ok (.aload_n 0, 1) := by decide +kernel
theorem dX2_ofRunner_34 : decode cX2_ofRunner 34 = .ok (.iload_n 2, 1) := by decide +kernel
theorem dX2_ofRunner_35 : decode cX2_ofRunner 35 = .ok (.invokevirtual 86, 3) := by decide +kernel
theorem dX2_ofRunner_38 : decode cX2_ofRunner 38 = .ok (.iinc 2 1, 3) := by decide +kernel
theorem dX2_ofRunner_41 : decode cX2_ofRunner 41 = .ok (.goto (-32), 3) := by decide +kernel
theorem dX2_ofRunner_44 : decode cX2_ofRunner 44 = .ok (.aload_n 0, 1) := by decide +kernel
theorem dX2_ofRunner_45 : decode cX2_ofRunner 45 = .ok (.getfield 12, 3) := by decide +kernel
theorem dX2_ofRunner_48 : decode cX2_ofRunner 48 = .ok (.invokevirtual 93, 3) := by decide +kernel
theorem dX2_ofRunner_51 : decode cX2_ofRunner 51 = .ok (.ireturn, 1) := by decide +kernel
theorem dX2_canBe_0 : decode cX2_canBe 0 = .ok (.iconst 0, 1) := by decide +kernel
theorem dX2_canBe_1 : decode cX2_canBe 1 = .ok (.istore 4, 2) := by decide +kernel
theorem dX2_canBe_3 : decode cX2_canBe 3 = .ok (.aload_n 0, 1) := by decide +kernel
theorem dX2_canBe_4 : decode cX2_canBe 4 = .ok (.getfield 12, 3) := by decide +kernel
theorem dX2_canBe_7 : decode cX2_canBe 7 = .ok (.invokevirtual 80, 3) := by decide +kernel
theorem dX2_canBe_10 : decode cX2_canBe 10 = .ok (.iconst 0, 1) := by decide +kernel
theorem dX2_canBe_11 : decode cX2_canBe 11 = .ok (.istore 5, 2) := by decide +kernel
theorem dX2_canBe_13 : decode cX2_canBe 13 = .ok (.iload 5, 2) := by decide +kernel
theorem dX2_canBe_15 : decode cX2_canBe 15 = .ok (.aload_n 0, 1) := by decide +kernel
theorem dX2_canBe_16 : decode cX2_canBe 16 = .ok (.getfield 29, 3) := by decide +kernel
theorem dX2_canBe_19 : decode cX2_canBe 19 = .ok (.getfield 55, 3) := by decide +kernel
theorem dX2_canBe_22 : decode cX2_canBe 22 = .ok (.if_icmp .ge 72, 3) := by decide +kernel
theorem dX2_canBe_25 : decode cX2_canBe 25 = .ok (.aload_n 0, 1) := by decide +kernel
theorem dX2_canBe_26 : decode cX2_canBe 26 = .ok (.getfield 29, 3) := by decide +kernel
theorem dX2_canBe_29 : decode cX2_canBe 29 = .ok (.iload 5, 2) := by decide +kernel
theorem dX2_canBe_31 : decode cX2_canBe 31 = .ok (.iload_n 1, 1) := by decide +kernel
theorem dX2_canBe_32 : decode cX2_canBe 32 = .ok (.iload_n 2, 1) := by decide +kernel
theorem dX2_canBe_33 : decode cX2_canBe 33 = .ok (.invokevirtual 106, 3) := by decide +kernel
theorem dX2_canBe_36 : decode cX2_canBe 36 = .ok (.ifCond .ne 6, 3) := by decide +kernel
theorem dX2_canBe_39 : decode cX2_canBe 39 = .ok (.goto 49, 3) := by decide +kernel
theorem dX2_canBe_42 : decode cX2_canBe 42 = .ok (.aload_n 0, 1) := by decide +kernel
theorem dX2_canBe_43 : decode cX2_canBe 43 = .ok (.iload 5, 2) := by decide +kernel
theorem dX2_canBe_45 : decode cX2_canBe 45 = .ok (.invokevirtual 86, 3) := by decide +kernel
theorem dX2_canBe_48 : decode cX2_canBe 48 = .ok (.aload_n 0, 1) := by decide +kernel
theorem dX2_canBe_49 : decode cX2_canBe 49 = .ok (.getfield 29, 3) := by decide +kernel
theorem dX2_canBe_52 : decode cX2_canBe 52 = .ok (.iload 5, 2) := by decide +kernel
theorem dX2_canBe_54 : decode cX2_canBe 54 = .ok (.invokevirtual 38, 3) := by decide +kernel
theorem dX2_canBe_57 : decode cX2_canBe 57 = .ok (.ifCond .ne 31, 3) := by decide +kernel
theorem dX2_canBe_60 : decode cX2_canBe 60 = .ok (.iload 4, 2) := by decide +kernel
theorem dX2_canBe_62 : decode cX2_canBe 62 = .ok (.bipush 12, 2) := by decide +kernel
theorem dX2_canBe_64 : decode cX2_canBe 64 = .ok (.if_icmp .lt 6, 3) := by decide +kernel
theorem dX2_canBe_67 : decode cX2_canBe 67 = .ok (.ldc 73, 2) := by decide +kernel
theorem dX2_canBe_69 : decode cX2_canBe 69 = .ok (.ireturn, 1) := by decide +kernel
theorem dX2_canBe_70 : decode cX2_canBe 70 = .ok (.aload_n 0, 1) := by decide +kernel
theorem dX2_canBe_71 : decode cX2_canBe 71 = .ok (.iload 4, 2) := by decide +kernel
theorem dX2_canBe_73 : decode cX2_canBe 73 = .ok (.aload_n 0, 1) := by decide +kernel
theorem dX2_canBe_74 : decode cX2_canBe 74 = .ok (.getfield 29, 3) := by decide +kernel
theorem dX2_canBe_77 : decode cX2_canBe 77 = .ok (.iload 5, 2) := by decide +kernel
theorem dX2_canBe_79 : decode cX2_canBe 79 = .ok (.invokevirtual 45, 3) := by decide +kernel
theorem dX2_canBe_82 : decode cX2_canBe 82 = .ok (.invokevirtual 128, 3) := by decide +kernel
theorem dX2_canBe_85 : decode cX2_canBe 85 = .ok (.iinc 4 1, 3) := by decide +kernel
theorem dX2_canBe_88 : decode cX2_canBe 88 = .ok (.iinc 5 1, 3) := by decide +kernel
theorem dX2_canBe_91 : decode cX2_canBe 91 = .ok (.goto (-78), 3) := by decide +kernel
theorem dX2_canBe_94 : decode cX2_canBe 94 = .ok (.iload 4, 2) := by decide +kernel
theorem dX2_canBe_96 : decode cX2_canBe 96 = .ok (.ifCond .ne 8, 3) := by decide +kernel
theorem dX2_canBe_99 : decode cX2_canBe 99 = .ok (.ldc 73, 2) := by decide +kernel
theorem dX2_canBe_101 : decode cX2_canBe 101 = .ok (.goto 10, 3) := by decide +kernel
theorem dX2_canBe_104 : decode cX2_canBe 104 = .ok (.aload_n 0, 1) := by decide +kernel
theorem dX2_canBe_105 : decode cX2_canBe 105 = .ok (.iload 4, 2) := by decide +kernel
theorem dX2_canBe_107 : decode cX2_canBe 107 = .ok (.iload_n 3, 1) := by decide +kernel
theorem dX2_canBe_108 : decode cX2_canBe 108 = .ok (.invokevirtual 132, 3) := by decide +kernel
theorem dX2_canBe_111 : decode cX2_canBe 111 = .ok (.ireturn, 1) := by decide +kernel
theorem dX2_hide_0 : decode cX2_hide 0 = .ok (.iload_n 1, 1) := by decide +kernel
theorem dX2_hide_1 : decode cX2_hide 1 = .ok (.istore_n 3, 1) := by decide +kernel
theorem dX2_hide_2 : decode cX2_hide 2 = .ok (.iload_n 3, 1) := by decide +kernel
theorem dX2_hide_3 : decode cX2_hide 3 = .ok (.ifCond .le 35, 3) := by decide +kernel
theorem dX2_hide_6 : decode cX2_hide 6 = .ok (.aload_n 0, 1) := by decide +kernel
theorem dX2_hide_7 : decode cX2_hide 7 = .ok (.getfield 26, 3) := by decide +kernel
theorem dX2_hide_10 : decode cX2_hide 10 = .ok (.iload_n 3, 1) := by decide +kernel
theorem dX2_hide_11 : decode cX2_hide 11 = .ok (.iconst 1, 1) := by decide +kernel
theorem dX2_hide_12 : decode cX2_hide 12 = .ok (.isub, 1) := by decide +kernel
theorem dX2_hide_13 : decode cX2_hide 13 = .ok (.iaload, 1) := by decide +kernel
theorem dX2_hide_14 : decode cX2_hide 14 = .ok (.iload_n 2, 1) := by decide +kernel
theorem dX2_hide_15 : decode cX2_hide 15 = .ok (.if_icmp .le 23, 3) := by decide +kernel
theorem dX2_hide_18 : decode cX2_hide 18 = .ok (.aload_n 0, 1) := by decide +kernel
theorem dX2_hide_19 : decode cX2_hide 19 = .ok (.getfield 26, 3) := by decide +kernel
theorem dX2_hide_22 : decode cX2_hide 22 = .ok (.iload_n 3, 1) := by decide +kernel
theorem dX2_hide_23 : decode cX2_hide 23 = .ok (.aload_n 0, 1) := by decide +kernel
theorem dX2_hide_24 : decode cX2_hide 24 = .ok (.getfield 26, 3) := by decide +kernel
theorem dX2_hide_27 : decode cX2_hide 27 = .ok (.iload_n 3, 1) := by decide +kernel
theorem dX2_hide_28 : decode cX2_hide 28 = .ok (.iconst 1, 1) := by decide +kernel
theorem dX2_hide_29 : decode cX2_hide 29 = .ok (.isub, 1) := by decide +kernel
theorem dX2_hide_30 : decode cX2_hide 30 = .ok (.iaload, 1) := by decide +kernel
theorem dX2_hide_31 : decode cX2_hide 31 = .ok (.iastore, 1) := by decide +kernel
theorem dX2_hide_32 : decode cX2_hide 32 = .ok (.iinc 3 (-1), 3) := by decide +kernel
theorem dX2_hide_35 : decode cX2_hide 35 = .ok (.goto (-33), 3) := by decide +kernel
theorem dX2_hide_38 : decode cX2_hide 38 = .ok (.aload_n 0, 1) := by decide +kernel
theorem dX2_hide_39 : decode cX2_hide 39 = .ok (.getfield 26, 3) := by decide +kernel
theorem dX2_hide_42 : decode cX2_hide 42 = .ok (.iload_n 3, 1) := by decide +kernel
theorem dX2_hide_43 : decode cX2_hide 43 = .ok (.iload_n 2, 1) := by decide +kernel
theorem dX2_hide_44 : decode cX2_hide 44 = .ok (.iastore, 1) := by decide +kernel
theorem dX2_hide_45 : decode cX2_hide 45 = .ok (.return_, 1) := by decide +kernel
theorem dX2_furthest_0 : decode cX2_furthest 0 = .ok (.iconst 0, 1) := by decide +kernel
theorem dX2_furthest_1 : decode cX2_furthest 1 = .ok (.istore_n 3, 1) := by decide +kernel
theorem dX2_furthest_2 : decode cX2_furthest 2 = .ok (.iload_n 3, 1) := by decide +kernel
theorem dX2_furthest_3 : decode cX2_furthest 3 = .ok (.iload_n 1, 1) := by decide +kernel
theorem dX2_furthest_4 : decode cX2_furthest 4 = .ok (.if_icmp .ge 23, 3) := by decide +kernel
theorem dX2_furthest_7 : decode cX2_furthest 7 = .ok (.aload_n 0, 1) := by decide +kernel
theorem dX2_furthest_8 : decode cX2_furthest 8 = .ok (.getfield 12, 3) := by decide +kernel
theorem dX2_furthest_11 : decode cX2_furthest 11 = .ok (.aload_n 0, 1) := by decide +kernel
theorem dX2_furthest_12 : decode cX2_furthest 12 = .ok (.getfield 26, 3) := by decide +kernel
theorem dX2_furthest_15 : decode cX2_furthest 15 = .ok (.iload_n 3, 1) := by decide +kernel
theorem dX2_furthest_16 : decode cX2_furthest 16 = .ok (.iaload, 1) := by decide +kernel
theorem dX2_furthest_17 : decode cX2_furthest 17 = .ok (.iconst 0, 1) := by decide +kernel
theorem dX2_furthest_18 : decode cX2_furthest 18 = .ok (.invokevirtual 96, 3) := by decide +kernel
theorem dX2_furthest_21 : decode cX2_furthest 21 = .ok (.iinc 3 1, 3) := by decide +kernel
theorem dX2_furthest_24 : decode cX2_furthest 24 = .ok (.goto (-22), 3) := by decide +kernel
theorem dX2_furthest_27 : decode cX2_furthest 27 = .ok (.aload_n 0, 1) := by decide +kernel
theorem dX2_furthest_28 : decode cX2_furthest 28 = .ok (.getfield 12, 3) := by decide +kernel
theorem dX2_furthest_31 : decode cX2_furthest 31 = .ok (.invokevirtual 93, 3) := by decide +kernel
theorem dX2_furthest_34 : decode cX2_furthest 34 = .ok (.istore_n 3, 1) := by decide +kernel
theorem dX2_furthest_35 : decode cX2_furthest 35 = .ok (.iconst 0, 1) := by decide +kernel
theorem dX2_furthest_36 : decode cX2_furthest 36 = .ok (.istore 4, 2) := by decide +kernel
theorem dX2_furthest_38 : decode cX2_furthest 38 = .ok (.iload 4, 2) := by decide +kernel
theorem dX2_furthest_40 : decode cX2_furthest 40 = .ok (.iload_n 1, 1) := by decide +kernel
theorem dX2_furthest_41 : decode cX2_furthest 41 = .ok (.if_icmp .ge 49, 3) := by decide +kernel
theorem dX2_furthest_44 : decode cX2_furthest 44 = .ok (.aload_n 0, 1) := by decide +kernel
theorem dX2_furthest_45 : decode cX2_furthest 45 = .ok (.getfield 12, 3) := by decide +kernel
theorem dX2_furthest_48 : decode cX2_furthest 48 = .ok (.aload_n 0, 1) := by decide +kernel
theorem dX2_furthest_49 : decode cX2_furthest 49 = .ok (.getfield 26, 3) := by decide +kernel
theorem dX2_furthest_52 : decode cX2_furthest 52 = .ok (.iload_n 2, 1) := by decide +kernel
theorem dX2_furthest_53 : decode cX2_furthest 53 = .ok (.ifCond .eq 8, 3) := by decide +kernel
theorem dX2_furthest_56 : decode cX2_furthest 56 = .ok (.iload 4, 2) := by decide +kernel
theorem dX2_furthest_58 : decode cX2_furthest 58 = .ok (.goto 9, 3) := by decide +kernel
theorem dX2_furthest_61 : decode cX2_furthest 61 = .ok (.iload_n 1, 1) := by decide +kernel
theorem dX2_furthest_62 : decode cX2_furthest 62 = .ok (.iconst 1, 1) := by decide +kernel
theorem dX2_furthest_63 : decode cX2_furthest 63 = .ok (.isub, 1) := by decide +kernel
theorem dX2_furthest_64 : decode cX2_furthest 64 = .ok (.iload 4, 2) := by decide +kernel
theorem dX2_furthest_66 : decode cX2_furthest 66 = .ok (.isub, 1) := by decide +kernel
theorem dX2_furthest_67 : decode cX2_furthest 67 = .ok (.iaload, 1) := by decide +kernel
theorem dX2_furthest_68 : decode cX2_furthest 68 = .ok (.invokevirtual 136, 3) := by decide +kernel
theorem dX2_furthest_71 : decode cX2_furthest 71 = .ok (.iload_n 3, 1) := by decide +kernel
theorem dX2_furthest_72 : decode cX2_furthest 72 = .ok (.aload_n 0, 1) := by decide +kernel
theorem dX2_furthest_73 : decode cX2_furthest 73 = .ok (.getfield 12, 3) := by decide +kernel
theorem dX2_furthest_76 : decode cX2_furthest 76 = .ok (.invokevirtual 93, 3) := by decide +kernel
theorem dX2_furthest_79 : decode cX2_furthest 79 = .ok (.iload_n 2, 1) := by decide +kernel
theorem dX2_furthest_80 : decode cX2_furthest 80 = .ok (.invokestatic 113, 3) := by decide +kernel
theorem dX2_furthest_83 : decode cX2_furthest 83 = .ok (.istore_n 3, 1) := by decide +kernel
theorem dX2_furthest_84 : decode cX2_furthest 84 = .ok (.iinc 4 1, 3) := by decide +kernel
theorem dX2_furthest_87 : decode cX2_furthest 87 = .ok (.goto (-49), 3) := by decide +kernel
theorem dX2_furthest_90 : decode cX2_furthest 90 = .ok (.iload_n 3, 1) := by decide +kernel
theorem dX2_furthest_91 : decode cX2_furthest 91 = .ok (.ireturn, 1) := by decide +kernel
theorem dX3_init_0 : decode cX3_init 0 = .ok (.aload_n 0, 1) := by decide +kernel
theorem dX3_init_1 : decode cX3_init 1 = .ok (.invokespecial 3, 3) := by decide +kernel
theorem dX3_init_4 : decode cX3_init 4 = .ok (.aload_n 0, 1) := by decide +kernel
theorem dX3_init_5 : decode cX3_init 5 = .ok (.bipush 40, 2) := by decide +kernel
theorem dX3_init_7 : decode cX3_init 7 = .ok (.newarray .int, 2) := by decide +kernel
theorem dX3_init_9 : decode cX3_init 9 = .ok (.putfield 9, 3) := by decide +kernel
theorem dX3_init_12 : decode cX3_init 12 = .ok (.aload_n 0, 1) := by decide +kernel
theorem dX3_init_13 : decode cX3_init 13 = .ok (.bipush 40, 2) := by decide +kernel
theorem dX3_init_15 : decode cX3_init 15 = .ok (.newarray .int, 2) := by decide +kernel
theorem dX3_init_17 : decode cX3_init 17 = .ok (.putfield 15, 3) := by decide +kernel
theorem dX3_init_20 : decode cX3_init 20 = .ok (.aload_n 0, 1) := by decide +kernel
theorem dX3_init_21 : decode cX3_init 21 = .ok (.bipush 40, 2) := by decide +kernel
theorem dX3_init_23 : decode cX3_init 23 = .ok (.newarray .int, 2) := by decide +kernel
theorem dX3_init_25 : decode cX3_init 25 = .ok (.putfield 18, 3) := by decide +kernel
theorem dX3_init_28 : decode cX3_init 28 = .ok (.aload_n 0, 1) := by decide +kernel
theorem dX3_init_29 : decode cX3_init 29 = .ok (.bipush 40, 2) := by decide +kernel
theorem dX3_init_31 : decode cX3_init 31 = .ok (.newarray .int, 2) := by decide +kernel
theorem dX3_init_33 : decode cX3_init 33 = .ok (.putfield 21, 3) := by decide +kernel
theorem dX3_init_36 : decode cX3_init 36 = .ok (.aload_n 0, 1) := by decide +kernel
theorem dX3_init_37 : decode cX3_init 37 = .ok (.aload_n 1, 1) := by decide +kernel
theorem dX3_init_38 : decode cX3_init 38 = .ok (.putfield 24, 3) := by decide +kernel
theorem dX3_init_41 : decode cX3_init 41 = .ok (.aload_n 0, 1) := by decide +kernel
theorem dX3_init_42 : decode cX3_init 42 = .ok (.aload_n 2, 1) := by decide +kernel
theorem dX3_init_43 : decode cX3_init 43 = .ok (.putfield 28, 3) := by decide +kernel
theorem dX3_init_46 : decode cX3_init 46 = .ok (.return_, 1) := by decide +kernel
theorem dX3_table_0 : decode cX3_table 0 = .ok (.iload_n 1, 1) := by decide +kernel
theorem dX3_table_1 : decode cX3_table 1 = .ok (.ifCond .ne 13, 3) := by decide +kernel
theorem dX3_table_4 : decode cX3_table 4 = .ok (.aload_n 0, 1) := by decide +kernel
theorem dX3_table_5 : decode cX3_table 5 = .ok (.getfield 24, 3) := by decide +kernel
theorem dX3_table_8 : decode cX3_table 8 = .ok (.getfield 32, 3) := by decide +kernel
theorem dX3_table_11 : decode cX3_table 11 = .ok (.goto 25, 3) := by decide +kernel
theorem dX3_table_14 : decode cX3_table 14 = .ok (.iload_n 1, 1) := by decide +kernel
theorem dX3_table_15 : decode cX3_table 15 = .ok (.iconst 1, 1) := by decide +kernel
theorem dX3_table_16 : decode cX3_table 16 = .ok (.if_icmp .ne 13, 3) := by decide +kernel
theorem dX3_table_19 : decode cX3_table 19 = .ok (.aload_n 0, 1) := by decide +kernel
theorem dX3_table_20 : decode cX3_table 20 = .ok (.getfield 24, 3) := by decide +kernel
theorem dX3_table_23 : decode cX3_table 23 = .ok (.getfield 37, 3) := by decide +kernel
theorem dX3_table_26 : decode cX3_table 26 = .ok (.goto 10, 3) := by decide +kernel
theorem dX3_table_29 : decode cX3_table 29 = .ok (.aload_n 0, 1) := by decide +kernel
theorem dX3_table_30 : decode cX3_table 30 = .ok (.getfield 28, 3) := by decide +kernel
theorem dX3_table_33 : decode cX3_table 33 = .ok (.getfield 40, 3) := by decide +kernel
theorem dX3_table_36 : decode cX3_table 36 = .ok (.areturn, 1) := by decide +kernel
theorem dX3_current_0 : decode cX3_current 0 = .ok (.aload_n 0, 1) := by decide +kernel
theorem dX3_current_1 : decode cX3_current 1 = .ok (.iload_n 2, 1) := by decide +kernel
theorem dX3_current_2 : decode cX3_current 2 = .ok (.invokevirtual 45, 3) := by decide +kernel
theorem dX3_current_5 : decode cX3_current 5 = .ok (.iload_n 1, 1) := by decide +kernel
theorem dX3_current_6 : decode cX3_current 6 = .ok (.iaload, 1) := by decide +kernel
theorem dX3_current_7 : decode cX3_current 7 = .ok (.ireturn, 1) := by decide +kernel
theorem dX3_come_0 : decode cX3_come 0 = .ok (.aload_n 0, 1) := by decide +kernel
theorem dX3_come_1 : decode cX3_come 1 = .ok (.getfield 49, 3) := by decide +kernel
theorem dX3_come_4 : decode cX3_come 4 = .ok (.bipush 40, 2) := by decide +kernel
theorem dX3_come_6 : decode cX3_come 6 = .ok (.if_icmp .lt 7, 3) := by decide +kernel
theorem dX3_come_9 : decode cX3_come 9 = .ok (.aload_n 0, 1) := by decide +kernel
theorem dX3_come_10 : decode cX3_come 10 = .ok (.invokevirtual 53, 3) := by decide +kernel
theorem dX3_come_13 : decode cX3_come 13 = .ok (.aload_n 0, 1) := by decide +kernel
theorem dX3_come_14 : decode cX3_come 14 = .ok (.getfield 9, 3) := by decide +kernel
theorem dX3_come_17 : decode cX3_come 17 = .ok (.aload_n 0, 1) := by decide +kernel
theorem dX3_come_18 : decode cX3_come 18 = .ok (.getfield 49, 3) := by decide +kernel
theorem dX3_come_21 : decode cX3_come 21 = .ok (.iload_n 1, 1) := by decide +kernel
theorem dX3_come_22 : decode cX3_come 22 = .ok (.iastore, 1) := by decide +kernel
theorem dX3_come_23 : decode cX3_come 23 = .ok (.aload_n 0, 1) := by decide +kernel
theorem dX3_come_24 : decode cX3_come 24 = .ok (.getfield 15, 3) := by decide +kernel
theorem dX3_come_27 : decode cX3_come 27 = .ok (.aload_n 0, 1) := by decide +kernel
theorem dX3_come_28 : decode cX3_come 28 = .ok (.getfield 49, 3) := by decide +kernel
theorem dX3_come_31 : decode cX3_come 31 = .ok (.iload_n 2, 1) := by decide +kernel
theorem dX3_come_32 : decode cX3_come 32 = .ok (.iastore, 1) := by decide +kernel
theorem dX3_come_33 : decode cX3_come 33 = .ok (.aload_n 0, 1) := by decide +kernel
theorem dX3_come_34 : decode cX3_come 34 = .ok (.getfield 18, 3) := by decide +kernel
theorem dX3_come_37 : decode cX3_come 37 = .ok (.aload_n 0, 1) := by decide +kernel
theorem dX3_come_38 : decode cX3_come 38 = .ok (.getfield 49, 3) := by decide +kernel
theorem dX3_come_41 : decode cX3_come 41 = .ok (.iload_n 3, 1) := by decide +kernel
theorem dX3_come_42 : decode cX3_come 42 = .ok (.iastore, 1) := by decide +kernel
theorem dX3_come_43 : decode cX3_come 43 = .ok (.aload_n 0, 1) := by decide +kernel
theorem dX3_come_44 : decode cX3_come 44 = .ok (.getfield 21, 3) := by decide +kernel
theorem dX3_come_47 : decode cX3_come 47 = .ok (.aload_n 0, 1) := by decide +kernel
theorem dX3_come_48 : decode cX3_come 48 = .ok (.getfield 49, 3) := by decide +kernel
theorem dX3_come_51 : decode cX3_come 51 = .ok (.iload 4, 2) := by decide +kernel
theorem dX3_come_53 : decode cX3_come 53 = .ok (.iastore, 1) := by decide +kernel
theorem dX3_come_54 : decode cX3_come 54 = .ok (.aload_n 0, 1) := by decide +kernel
theorem dX3_come_55 : decode cX3_come 55 = .ok (.iload_n 2, 1) := by decide +kernel
theorem dX3_come_56 : decode cX3_come 56 = .ok (.invokevirtual 45, 3) := by decide +kernel
theorem dX3_come_59 : decode cX3_come 59 = .ok (.iload_n 1, 1) := by decide +kernel
theorem dX3_come_60 : decode cX3_come 60 = .ok (.iload 4, 2) := by decide +kernel
theorem dX3_come_62 : decode cX3_come 62 = .ok (.iastore, 1) := by decide +kernel
theorem dX3_come_63 : decode cX3_come 63 = .ok (.aload_n 0, 1) := by decide +kernel
theorem dX3_come_64 : decode cX3_come 64 = .ok (.dup, 1) := by decide +kernel
theorem dX3_come_65 : decode cX3_come 65 = .ok (.getfield 49, 3) := by decide +kernel
theorem dX3_come_68 : decode cX3_come 68 = .ok (.iconst 1, 1) := by decide +kernel
theorem dX3_come_69 : decode cX3_come 69 = .ok (.iadd, 1) := by decide +kernel
theorem dX3_come_70 : decode cX3_come 70 = .ok (.putfield 49, 3) := by decide +kernel
theorem dX3_come_73 : decode cX3_come 73 = .ok (.aload_n 0, 1) := by decide +kernel
theorem dX3_come_74 : decode cX3_come 74 = .ok (.aload_n 0, 1) := by decide +kernel
theorem dX3_come_75 : decode cX3_come 75 = .ok (.getfield 49, 3) := by decide +kernel
theorem dX3_come_78 : decode cX3_come 78 = .ok (.putfield 56, 3) := by decide +kernel
theorem dX3_come_81 : decode cX3_come 81 = .ok (.return_, 1) := by decide +kernel
theorem dX3_forgetFirst_0 : decode cX3_forgetFirst 0 = .ok (.aload_n 0, 1) := by decide +kernel
theorem dX3_forgetFirst_1 : decode cX3_forgetFirst 1 = .ok (.bipush 39, 2) := by decide +kernel
theorem dX3_forgetFirst_3 : decode cX3_forgetFirst 3 = .ok (.putfield 49, 3) := by decide +kernel
theorem dX3_forgetFirst_6 : decode cX3_forgetFirst 6 = .ok (.aload_n 0, 1) := by decide +kernel
theorem dX3_forgetFirst_7 : decode cX3_forgetFirst 7 = .ok (.getfield 9, 3) := by decide +kernel
theorem dX3_forgetFirst_10 : decode cX3_forgetFirst 10 = .ok (.iconst 1, 1) := by decide +kernel
theorem dX3_forgetFirst_11 : decode cX3_forgetFirst 11 = .ok (.aload_n 0, 1) := by decide +kernel
theorem dX3_forgetFirst_12 : decode cX3_forgetFirst 12 = .ok (.getfield 9, 3) := by decide +kernel
theorem dX3_forgetFirst_15 : decode cX3_forgetFirst 15 = .ok (.iconst 0, 1) := by decide +kernel
theorem dX3_forgetFirst_16 : decode cX3_forgetFirst 16 = .ok (.aload_n 0, 1) := by decide +kernel
theorem dX3_forgetFirst_17 : decode cX3_forgetFirst 17 = .ok (.getfield 49, 3) := by decide +kernel
theorem dX3_forgetFirst_20 : decode cX3_forgetFirst 20 = .ok (.invokestatic 59, 3) := by decide +kernel
theorem dX3_forgetFirst_23 : decode cX3_forgetFirst 23 = .ok (.aload_n 0, 1) := by decide +kernel
theorem dX3_forgetFirst_24 : decode cX3_forgetFirst 24 = .ok (.getfield 15, 3) := by decide +kernel
theorem dX3_forgetFirst_27 : decode cX3_forgetFirst 27 = .ok (.iconst 1, 1) := by decide +kernel
theorem dX3_forgetFirst_28 : decode cX3_forgetFirst 28 = .ok (.aload_n 0, 1) := by decide +kernel
theorem dX3_forgetFirst_29 : decode cX3_forgetFirst 29 = .ok (.getfield 15, 3) := by decide +kernel
theorem dX3_forgetFirst_32 : decode cX3_forgetFirst 32 = .ok (.iconst 0, 1) := by decide +kernel
theorem dX3_forgetFirst_33 : decode cX3_forgetFirst 33 = .ok (.aload_n 0, 1) := by decide +kernel
theorem dX3_forgetFirst_34 : decode cX3_forgetFirst 34 = .ok (.getfield 49, 3) := by decide +kernel
theorem dX3_forgetFirst_37 : decode cX3_forgetFirst 37 = .ok (.invokestatic 59, 3) := by decide +kernel
theorem dX3_forgetFirst_40 : decode cX3_forgetFirst 40 = .ok (.aload_n 0, 1) := by decide +kernel
theorem dX3_forgetFirst_41 : decode cX3_forgetFirst 41 = .ok (.getfield 18, 3) := by decide +kernel
theorem dX3_forgetFirst_44 : decode cX3_forgetFirst 44 = .ok (.iconst 1, 1) := by decide +kernel
theorem dX3_forgetFirst_45 : decode cX3_forgetFirst 45 = .ok (.aload_n 0, 1) := by decide +kernel
theorem dX3_forgetFirst_46 : decode cX3_forgetFirst 46 = .ok (.getfield 18, 3) := by decide +kernel
theorem dX3_forgetFirst_49 : decode cX3_forgetFirst 49 = .ok (.iconst 0, 1) := by decide +kernel
theorem dX3_forgetFirst_50 : decode cX3_forgetFirst 50 = .ok (.aload_n 0, 1) := by decide +kernel
theorem dX3_forgetFirst_51 : decode cX3_forgetFirst 51 = .ok (.getfield 49, 3) := by decide +kernel
theorem dX3_forgetFirst_54 : decode cX3_forgetFirst 54 = .ok (.invokestatic 59, 3) := by decide +kernel
theorem dX3_forgetFirst_57 : decode cX3_forgetFirst 57 = .ok (.aload_n 0, 1) := by decide +kernel
theorem dX3_forgetFirst_58 : decode cX3_forgetFirst 58 = .ok (.getfield 21, 3) := by decide +kernel
theorem dX3_forgetFirst_61 : decode cX3_forgetFirst 61 = .ok (.iconst 1, 1) := by decide +kernel
theorem dX3_forgetFirst_62 : decode cX3_forgetFirst 62 = .ok (.aload_n 0, 1) := by decide +kernel
theorem dX3_forgetFirst_63 : decode cX3_forgetFirst 63 = .ok (.getfield 21, 3) := by decide +kernel
theorem dX3_forgetFirst_66 : decode cX3_forgetFirst 66 = .ok (.iconst 0, 1) := by decide +kernel
theorem dX3_forgetFirst_67 : decode cX3_forgetFirst 67 = .ok (.aload_n 0, 1) := by decide +kernel
theorem dX3_forgetFirst_68 : decode cX3_forgetFirst 68 = .ok (.getfield 49, 3) := by decide +kernel
theorem dX3_forgetFirst_71 : decode cX3_forgetFirst 71 = .ok (.invokestatic 59, 3) := by decide +kernel
theorem dX3_forgetFirst_74 : decode cX3_forgetFirst 74 = .ok (.return_, 1) := by decide +kernel
theorem dX3_back_0 : decode cX3_back 0 = .ok (.aload_n 0, 1) := by decide +kernel
theorem dX3_back_1 : decode cX3_back 1 = .ok (.getfield 49, 3) := by decide +kernel
theorem dX3_back_4 : decode cX3_back 4 = .ok (.ifCond .gt 6, 3) := by decide +kernel
theorem dX3_back_7 : decode cX3_back 7 = .ok (.bipush (-5), 2) := by decide +kernel
theorem dX3_back_9 : decode cX3_back 9 = .ok (.ireturn, 1) := by decide +kernel
theorem dX3_back_10 : decode cX3_back 10 = .ok (.aload_n 0, 1) := by decide +kernel
theorem dX3_back_11 : decode cX3_back 11 = .ok (.dup, 1) := by decide +kernel
theorem dX3_back_12 : decode cX3_back 12 = .ok (.getfield 49, 3) := by decide +kernel
theorem dX3_back_15 : decode cX3_back 15 = .ok (.iconst 1, 1) := by decide +kernel
theorem dX3_back_16 : decode cX3_back 16 = .ok (.isub, 1) := by decide +kernel
theorem dX3_back_17 : decode cX3_back 17 = .ok (.putfield 49, 3) := by decide +kernel
theorem dX3_back_20 : decode cX3_back 20 = .ok (.aload_n 0, 1) := by decide +kernel
theorem dX3_back_21 : decode cX3_back 21 = .ok (.aload_n 0, 1) := by decide +kernel
theorem dX3_back_22 : decode cX3_back 22 = .ok (.getfield 15, 3) := by decide +kernel
theorem dX3_back_25 : decode cX3_back 25 = .ok (.aload_n 0, 1) := by decide +kernel
theorem dX3_back_26 : decode cX3_back 26 = .ok (.getfield 49, 3) := by decide +kernel
theorem dX3_back_29 : decode cX3_back 29 = .ok (.iaload, 1) := by decide +kernel
theorem dX3_back_30 : decode cX3_back 30 = .ok (.invokevirtual 45, 3) := by decide +kernel
theorem dX3_back_33 : decode cX3_back 33 = .ok (.aload_n 0, 1) := by decide +kernel
theorem dX3_back_34 : decode cX3_back 34 = .ok (.getfield 9, 3) := by decide +kernel
theorem dX3_back_37 : decode cX3_back 37 = .ok (.aload_n 0, 1) := by decide +kernel
theorem dX3_back_38 : decode cX3_back 38 = .ok (.getfield 49, 3) := by decide +kernel
theorem dX3_back_41 : decode cX3_back 41 = .ok (.iaload, 1) := by decide +kernel
theorem dX3_back_42 : decode cX3_back 42 = .ok (.aload_n 0, 1) := by decide +kernel
theorem dX3_back_43 : decode cX3_back 43 = .ok (.getfield 18, 3) := by decide +kernel
theorem dX3_back_46 : decode cX3_back 46 = .ok (.aload_n 0, 1) := by decide +kernel
theorem dX3_back_47 : decode cX3_back 47 = .ok (.getfield 49, 3) := by decide +kernel
theorem dX3_back_50 : decode cX3_back 50 = .ok (.iaload, 1) := by decide +kernel
theorem dX3_back_51 : decode cX3_back 51 = .ok (.iastore, 1) := by decide +kernel
theorem dX3_back_52 : decode cX3_back 52 = .ok (.aload_n 0, 1) := by decide +kernel
theorem dX3_back_53 : decode cX3_back 53 = .ok (.getfield 49, 3) := by decide +kernel
theorem dX3_back_56 : decode cX3_back 56 = .ok (.ireturn, 1) := by decide +kernel
theorem dX3_again_0 : decode cX3_again 0 = .ok (.aload_n 0, 1) := by decide +kernel
theorem dX3_again_1 : decode cX3_again 1 = .ok (.getfield 49, 3) := by decide +kernel
theorem dX3_again_4 : decode cX3_again 4 = .ok (.aload_n 0, 1) := by decide +kernel
theorem dX3_again_5 : decode cX3_again 5 = .ok (.getfield 56, 3) := by decide +kernel
theorem dX3_again_8 : decode cX3_again 8 = .ok (.if_icmp .lt 6, 3) := by decide +kernel
theorem dX3_again_11 : decode cX3_again 11 = .ok (.bipush (-5), 2) := by decide +kernel
theorem dX3_again_13 : decode cX3_again 13 = .ok (.ireturn, 1) := by decide +kernel
theorem dX3_again_14 : decode cX3_again 14 = .ok (.aload_n 0, 1) := by decide +kernel
theorem dX3_again_15 : decode cX3_again 15 = .ok (.aload_n 0, 1) := by decide +kernel
theorem dX3_again_16 : decode cX3_again 16 = .ok (.getfield 15, 3) := by decide +kernel
theorem dX3_again_19 : decode cX3_again 19 = .ok (.aload_n 0, 1) := by decide +kernel
theorem dX3_again_20 : decode cX3_again 20 = .ok (.getfield 49, 3) := by decide +kernel
theorem dX3_again_23 : decode cX3_again 23 = .ok (.iaload, 1) := by decide +kernel
theorem dX3_again_24 : decode cX3_again 24 = .ok (.invokevirtual 45, 3) := by decide +kernel
theorem dX3_again_27 : decode cX3_again 27 = .ok (.aload_n 0, 1) := by decide +kernel
theorem dX3_again_28 : decode cX3_again 28 = .ok (.getfield 9, 3) := by decide +kernel
theorem dX3_again_31 : decode cX3_again 31 = .ok (.aload_n 0, 1) := by decide +kernel
theorem dX3_again_32 : decode cX3_again 32 = .ok (.getfield 49, 3) := by decide +kernel
theorem dX3_again_35 : decode cX3_again 35 = .ok (.iaload, 1) := by decide +kernel
theorem dX3_again_36 : decode cX3_again 36 = .ok (.aload_n 0, 1) := by decide +kernel
theorem dX3_again_37 : decode cX3_again 37 = .ok (.getfield 21, 3) := by decide +kernel
theorem dX3_again_40 : decode cX3_again 40 = .ok (.aload_n 0, 1) := by decide +kernel
theorem dX3_again_41 : decode cX3_again 41 = .ok (.getfield 49, 3) := by decide +kernel
theorem dX3_again_44 : decode cX3_again 44 = .ok (.iaload, 1) := by decide +kernel
theorem dX3_again_45 : decode cX3_again 45 = .ok (.iastore, 1) := by decide +kernel
theorem dX3_again_46 : decode cX3_again 46 = .ok (.aload_n 0, 1) := by decide +kernel
theorem dX3_again_47 : decode cX3_again 47 = .ok (.dup, 1) := by decide +kernel
theorem dX3_again_48 : decode cX3_again 48 = .ok (.getfield 49, 3) := by decide +kernel
theorem dX3_again_51 : decode cX3_again 51 = .ok (.iconst 1, 1) := by decide +kernel
theorem dX3_again_52 : decode cX3_again 52 = .ok (.iadd, 1) := by decide +kernel
theorem dX3_again_53 : decode cX3_again 53 = .ok (.putfield 49, 3) := by decide +kernel
theorem dX3_again_56 : decode cX3_again 56 = .ok (.aload_n 0, 1) := by decide +kernel
theorem dX3_again_57 : decode cX3_again 57 = .ok (.getfield 56, 3) := by decide +kernel
theorem dX3_again_60 : decode cX3_again 60 = .ok (.aload_n 0, 1) := by decide +kernel
theorem dX3_again_61 : decode cX3_again 61 = .ok (.getfield 49, 3) := by decide +kernel
theorem dX3_again_64 : decode cX3_again 64 = .ok (.isub, 1) := by decide +kernel
theorem dX3_again_65 : decode cX3_again 65 = .ok (.ireturn, 1) := by decide +kernel
theorem dX4_init_0 : decode cX4_init 0 = .ok (.aload_n 0, 1) := by decide +kernel
theorem dX4_init_1 : decode cX4_init 1 = .ok (.invokespecial 3, 3) := by decide +kernel
theorem dX4_init_4 : decode cX4_init 4 = .ok (.aload_n 0, 1) := by decide +kernel
theorem dX4_init_5 : decode cX4_init 5 = .ok (.iconst 5, 1) := by decide +kernel
theorem dX4_init_6 : decode cX4_init 6 = .ok (.newarray .int, 2) := by decide +kernel
theorem dX4_init_8 : decode cX4_init 8 = .ok (.putfield 9, 3) := by decide +kernel
theorem dX4_init_11 : decode cX4_init 11 = .ok (.return_, 1) := by decide +kernel
theorem dX4_has_0 : decode cX4_has 0 = .ok (.iload_n 1, 1) := by decide +kernel
theorem dX4_has_1 : decode cX4_has 1 = .ok (.ifCond .lt 15, 3) := by decide +kernel
theorem dX4_has_4 : decode cX4_has 4 = .ok (.iload_n 1, 1) := by decide +kernel
theorem dX4_has_5 : decode cX4_has 5 = .ok (.aload_n 0, 1) := by decide +kernel
theorem dX4_has_6 : decode cX4_has 6 = .ok (.getfield 15, 3) := by decide +kernel
theorem dX4_has_9 : decode cX4_has 9 = .ok (.if_icmp .ge 7, 3) := by decide +kernel
theorem dX4_has_12 : decode cX4_has 12 = .ok (.iconst 1, 1) := by decide +kernel
theorem dX4_has_13 : decode cX4_has 13 = .ok (.goto 4, 3) := by decide +kernel
theorem dX4_has_16 : decode cX4_has 16 = .ok (.iconst 0, 1) := by decide +kernel
theorem dX4_has_17 : decode cX4_has 17 = .ok (.ireturn, 1) := by decide +kernel
theorem dX4_come_0 : decode cX4_come 0 = .ok (.aload_n 0, 1) := by decide +kernel
theorem dX4_come_1 : decode cX4_come 1 = .ok (.getfield 15, 3) := by decide +kernel
theorem dX4_come_4 : decode cX4_come 4 = .ok (.iconst 5, 1) := by decide +kernel
theorem dX4_come_5 : decode cX4_come 5 = .ok (.if_icmp .lt 6, 3) := by decide +kernel
theorem dX4_come_8 : decode cX4_come 8 = .ok (.bipush (-3), 2) := by decide +kernel
theorem dX4_come_10 : decode cX4_come 10 = .ok (.ireturn, 1) := by decide +kernel
theorem dX4_come_11 : decode cX4_come 11 = .ok (.aload_n 0, 1) := by decide +kernel
theorem dX4_come_12 : decode cX4_come 12 = .ok (.getfield 9, 3) := by decide +kernel
theorem dX4_come_15 : decode cX4_come 15 = .ok (.aload_n 0, 1) := by decide +kernel
theorem dX4_come_16 : decode cX4_come 16 = .ok (.getfield 15, 3) := by decide +kernel
theorem dX4_come_19 : decode cX4_come 19 = .ok (.iload_n 1, 1) := by decide +kernel
theorem dX4_come_20 : decode cX4_come 20 = .ok (.iastore, 1) := by decide +kernel
theorem dX4_come_21 : decode cX4_come 21 = .ok (.aload_n 0, 1) := by decide +kernel
theorem dX4_come_22 : decode cX4_come 22 = .ok (.dup, 1) := by decide +kernel
theorem dX4_come_23 : decode cX4_come 23 = .ok (.getfield 15, 3) := by decide +kernel
theorem dX4_come_26 : decode cX4_come 26 = .ok (.dup_x1, 1) := by decide +kernel
theorem dX4_come_27 : decode cX4_come 27 = .ok (.iconst 1, 1) := by decide +kernel
theorem dX4_come_28 : decode cX4_come 28 = .ok (.iadd, 1) := by decide +kernel
theorem dX4_come_29 : decode cX4_come 29 = .ok (.putfield 15, 3) := by decide +kernel
theorem dX4_come_32 : decode cX4_come 32 = .ok (.ireturn, 1) := by decide +kernel
theorem dX5_init_0 : decode cX5_init 0 = .ok (.aload_n 0, 1) := by decide +kernel
theorem dX5_init_1 : decode cX5_init 1 = .ok (.invokespecial 3, 3) := by decide +kernel
theorem dX5_init_4 : decode cX5_init 4 = .ok (.aload_n 0, 1) := by decide +kernel
theorem dX5_init_5 : decode cX5_init 5 = .ok (.bipush 9, 2) := by decide +kernel
theorem dX5_init_7 : decode cX5_init 7 = .ok (.newarray .int, 2) := by decide +kernel
theorem dX5_init_9 : decode cX5_init 9 = .ok (.putfield 9, 3) := by decide +kernel
theorem dX5_init_12 : decode cX5_init 12 = .ok (.aload_n 0, 1) := by decide +kernel
theorem dX5_init_13 : decode cX5_init 13 = .ok (.bipush 120, 2) := by decide +kernel
theorem dX5_init_15 : decode cX5_init 15 = .ok (.newarray .byte, 2) := by decide +kernel
theorem dX5_init_17 : decode cX5_init 17 = .ok (.putfield 15, 3) := by decide +kernel
theorem dX5_init_20 : decode cX5_init 20 = .ok (.aload_n 0, 1) := by decide +kernel
theorem dX5_init_21 : decode cX5_init 21 = .ok (.iconst 4, 1) := by decide +kernel
theorem dX5_init_22 : decode cX5_init 22 = .ok (.bipush 120, 2) := by decide +kernel
theorem dX5_init_24 : decode cX5_init 24 = .ok (.multianewarray 19 2, 4) := by decide +kernel
theorem dX5_init_28 : decode cX5_init 28 = .ok (.putfield 21, 3) := by decide +kernel
theorem dX5_init_31 : decode cX5_init 31 = .ok (.aload_n 0, 1) := by decide +kernel
theorem dX5_init_32 : decode cX5_init 32 = .ok (.iconst 4, 1) := by decide +kernel
theorem dX5_init_33 : decode cX5_init 33 = .ok (.newarray .int, 2) := by decide +kernel
theorem dX5_init_35 : decode cX5_init 35 = .ok (.putfield 24, 3) := by decide +kernel
theorem dX5_init_38 : decode cX5_init 38 = .ok (.aload_n 0, 1) := by decide +kernel
theorem dX5_init_39 : decode cX5_init 39 = .ok (.aload_n 0, 1) := by decide +kernel
theorem dX5_init_40 : decode cX5_init 40 = .ok (.getfield 15, 3) := by decide +kernel
theorem dX5_init_43 : decode cX5_init 43 = .ok (.putfield 27, 3) := by decide +kernel
theorem dX5_init_46 : decode cX5_init 46 = .ok (.return_, 1) := by decide +kernel
theorem dX5_take_0 : decode cX5_take 0 = .ok (.aload_n 0, 1) := by decide +kernel
theorem dX5_take_1 : decode cX5_take 1 = .ok (.getfield 30, 3) := by decide +kernel
theorem dX5_take_4 : decode cX5_take 4 = .ok (.iload_n 1, 1) := by decide +kernel
theorem dX5_take_5 : decode cX5_take 5 = .ok (.iadd, 1) := by decide +kernel
theorem dX5_take_6 : decode cX5_take 6 = .ok (.bipush 120, 2) := by decide +kernel
theorem dX5_take_8 : decode cX5_take 8 = .ok (.if_icmp .le 6, 3) := by decide +kernel
theorem dX5_take_11 : decode cX5_take 11 = .ok (.bipush (-3), 2) := by decide +kernel
theorem dX5_take_13 : decode cX5_take 13 = .ok (.ireturn, 1) := by decide +kernel
theorem dX5_take_14 : decode cX5_take 14 = .ok (.iconst 0, 1) := by decide +kernel
theorem dX5_take_15 : decode cX5_take 15 = .ok (.istore_n 3, 1) := by decide +kernel
theorem dX5_take_16 : decode cX5_take 16 = .ok (.iload_n 3, 1) := by decide +kernel
theorem dX5_take_17 : decode cX5_take 17 = .ok (.iload_n 1, 1) := by decide +kernel
theorem dX5_take_18 : decode cX5_take 18 = .ok (.if_icmp .ge 35, 3) := by decide +kernel
theorem dX5_take_21 : decode cX5_take 21 = .ok (.aload_n 0, 1) := by decide +kernel
theorem dX5_take_22 : decode cX5_take 22 = .ok (.getfield 15, 3) := by decide +kernel
theorem dX5_take_25 : decode cX5_take 25 = .ok (.aload_n 0, 1) := by decide +kernel
theorem dX5_take_26 : decode cX5_take 26 = .ok (.getfield 30, 3) := by decide +kernel
theorem dX5_take_29 : decode cX5_take 29 = .ok (.iload_n 2, 1) := by decide +kernel
theorem dX5_take_30 : decode cX5_take 30 = .ok (.bipush 8, 2) := by decide +kernel
theorem dX5_take_32 : decode cX5_take 32 = .ok (.iload_n 3, 1) := by decide +kernel
theorem dX5_take_33 : decode cX5_take 33 = .ok (.imul, 1) := by decide +kernel
theorem dX5_take_34 : decode cX5_take 34 = .ok (.iushr, 1) := by decide +kernel
theorem dX5_take_35 : decode cX5_take 35 = .ok (.i2b, 1) := by decide +kernel
theorem dX5_take_36 : decode cX5_take 36 = .ok (.bastore, 1) := by decide +kernel
theorem dX5_take_37 : decode cX5_take 37 = .ok (.aload_n 0, 1) := by decide +kernel
theorem dX5_take_38 : decode cX5_take 38 = .ok (.dup, 1) := by decide +kernel
theorem dX5_take_39 : decode cX5_take 39 = .ok (.getfield 30, 3) := by decide +kernel
theorem dX5_take_42 : decode cX5_take 42 = .ok (.iconst 1, 1) := by decide +kernel
theorem dX5_take_43 : decode cX5_take 43 = .ok (.iadd, 1) := by decide +kernel
theorem dX5_take_44 : decode cX5_take 44 = .ok (.putfield 30, 3) := by decide +kernel
theorem dX5_take_47 : decode cX5_take 47 = .ok (.iinc 3 1, 3) := by decide +kernel
theorem dX5_take_50 : decode cX5_take 50 = .ok (.goto (-34), 3) := by decide +kernel
theorem dX5_take_53 : decode cX5_take 53 = .ok (.aload_n 0, 1) := by decide +kernel
theorem dX5_take_54 : decode cX5_take 54 = .ok (.getfield 30, 3) := by decide +kernel
theorem dX5_take_57 : decode cX5_take 57 = .ok (.ireturn, 1) := by decide +kernel
theorem dX5_come_0 : decode cX5_come 0 = .ok (.aload_n 0, 1) := by decide +kernel
theorem dX5_come_1 : decode cX5_come 1 = .ok (.getfield 34, 3) := by decide +kernel
theorem dX5_come_4 : decode cX5_come 4 = .ok (.iconst 4, 1) := by decide +kernel
theorem dX5_come_5 : decode cX5_come 5 = .ok (.if_icmp .lt 6, 3) := by decide +kernel
theorem dX5_come_8 : decode cX5_come 8 = .ok (.bipush (-3), 2) := by decide +kernel
theorem dX5_come_10 : decode cX5_come 10 = .ok (.ireturn, 1) := by decide +kernel
theorem dX5_come_11 : decode cX5_come 11 = .ok (.aload_n 0, 1) := by decide +kernel
theorem dX5_come_12 : decode cX5_come 12 = .ok (.getfield 30, 3) := by decide +kernel
theorem dX5_come_15 : decode cX5_come 15 = .ok (.istore_n 1, 1) := by decide +kernel
theorem dX5_come_16 : decode cX5_come 16 = .ok (.aload_n 0, 1) := by decide +kernel
theorem dX5_come_17 : decode cX5_come 17 = .ok (.iconst 0, 1) := by decide +kernel
theorem dX5_come_18 : decode cX5_come 18 = .ok (.putfield 30, 3) := by decide +kernel
theorem dX5_come_21 : decode cX5_come 21 = .ok (.aload_n 0, 1) := by decide +kernel
theorem dX5_come_22 : decode cX5_come 22 = .ok (.aload_n 0, 1) := by decide +kernel
theorem dX5_come_23 : decode cX5_come 23 = .ok (.getfield 15, 3) := by decide +kernel
theorem dX5_come_26 : decode cX5_come 26 = .ok (.iload_n 1, 1) := by decide +kernel
theorem dX5_come_27 : decode cX5_come 27 = .ok (.invokevirtual 37, 3) := by decide +kernel
theorem dX5_come_30 : decode cX5_come 30 = .ok (.pop, 1) := by decide +kernel
theorem dX5_come_31 : decode cX5_come 31 = .ok (.aload_n 0, 1) := by decide +kernel
theorem dX5_come_32 : decode cX5_come 32 = .ok (.getfield 41, 3) := by decide +kernel
theorem dX5_come_35 : decode cX5_come 35 = .ok (.iconst (-1), 1) := by decide +kernel
theorem dX5_come_36 : decode cX5_come 36 = .ok (.if_icmp .eq 11, 3) := by decide +kernel
theorem dX5_come_39 : decode cX5_come 39 = .ok (.bipush (-100), 2) := by decide +kernel
theorem dX5_come_41 : decode cX5_come 41 = .ok (.aload_n 0, 1) := by decide +kernel
theorem dX5_come_42 : decode cX5_come 42 = .ok (.getfield 41, 3) := by decide +kernel
theorem dX5_come_45 : decode cX5_come 45 = .ok (.isub, 1) := by decide +kernel
theorem dX5_come_46 : decode cX5_come 46 = .ok (.ireturn, 1) := by decide +kernel
theorem dX5_come_47 : decode cX5_come 47 = .ok (.aload_n 0, 1) := by decide +kernel
theorem dX5_come_48 : decode cX5_come 48 = .ok (.getfield 15, 3) := by decide +kernel
theorem dX5_come_51 : decode cX5_come 51 = .ok (.iconst 0, 1) := by decide +kernel
theorem dX5_come_52 : decode cX5_come 52 = .ok (.aload_n 0, 1) := by decide +kernel
theorem dX5_come_53 : decode cX5_come 53 = .ok (.getfield 21, 3) := by decide +kernel
theorem dX5_come_56 : decode cX5_come 56 = .ok (.aload_n 0, 1) := by decide +kernel
theorem dX5_come_57 : decode cX5_come 57 = .ok (.getfield 34, 3) := by decide +kernel
theorem dX5_come_60 : decode cX5_come 60 = .ok (.aaload, 1) := by decide +kernel
theorem dX5_come_61 : decode cX5_come 61 = .ok (.iconst 0, 1) := by decide +kernel
theorem dX5_come_62 : decode cX5_come 62 = .ok (.iload_n 1, 1) := by decide +kernel
theorem dX5_come_63 : decode cX5_come 63 = .ok (.invokestatic 44, 3) := by decide +kernel
theorem dX5_come_66 : decode cX5_come 66 = .ok (.aload_n 0, 1) := by decide +kernel
theorem dX5_come_67 : decode cX5_come 67 = .ok (.getfield 24, 3) := by decide +kernel
theorem dX5_come_70 : decode cX5_come 70 = .ok (.aload_n 0, 1) := by decide +kernel
theorem dX5_come_71 : decode cX5_come 71 = .ok (.getfield 34, 3) := by decide +kernel
theorem dX5_come_74 : decode cX5_come 74 = .ok (.iload_n 1, 1) := by decide +kernel
theorem dX5_come_75 : decode cX5_come 75 = .ok (.iastore, 1) := by decide +kernel
theorem dX5_come_76 : decode cX5_come 76 = .ok (.aload_n 0, 1) := by decide +kernel
theorem dX5_come_77 : decode cX5_come 77 = .ok (.dup, 1) := by decide +kernel
theorem dX5_come_78 : decode cX5_come 78 = .ok (.getfield 34, 3) := by decide +kernel
theorem dX5_come_81 : decode cX5_come 81 = .ok (.dup_x1, 1) := by decide +kernel
theorem dX5_come_82 : decode cX5_come 82 = .ok (.iconst 1, 1) := by decide +kernel
theorem dX5_come_83 : decode cX5_come 83 = .ok (.iadd, 1) := by decide +kernel
theorem dX5_come_84 : decode cX5_come 84 = .ok (.putfield 34, 3) := by decide +kernel
theorem dX5_come_87 : decode cX5_come 87 = .ok (.ireturn, 1) := by decide +kernel
theorem dX5_says_0 : decode cX5_says 0 = .ok (.aload_n 0, 1) := by decide +kernel
theorem dX5_says_1 : decode cX5_says 1 = .ok (.aload_n 0, 1) := by decide +kernel
theorem dX5_says_2 : decode cX5_says 2 = .ok (.getfield 21, 3) := by decide +kernel
theorem dX5_says_5 : decode cX5_says 5 = .ok (.iload_n 1, 1) := by decide +kernel
theorem dX5_says_6 : decode cX5_says 6 = .ok (.aaload, 1) := by decide +kernel
theorem dX5_says_7 : decode cX5_says 7 = .ok (.aload_n 0, 1) := by decide +kernel
theorem dX5_says_8 : decode cX5_says 8 = .ok (.getfield 24, 3) := by decide +kernel
theorem dX5_says_11 : decode cX5_says 11 = .ok (.iload_n 1, 1) := by decide +kernel
theorem dX5_says_12 : decode cX5_says 12 = .ok (.iaload, 1) := by decide +kernel
theorem dX5_says_13 : decode cX5_says 13 = .ok (.invokevirtual 37, 3) := by decide +kernel
theorem dX5_says_16 : decode cX5_says 16 = .ok (.ireturn, 1) := by decide +kernel
theorem dX5_read_0 : decode cX5_read 0 = .ok (.aload_n 0, 1) := by decide +kernel
theorem dX5_read_1 : decode cX5_read 1 = .ok (.aload_n 1, 1) := by decide +kernel
theorem dX5_read_2 : decode cX5_read 2 = .ok (.putfield 27, 3) := by decide +kernel
theorem dX5_read_5 : decode cX5_read 5 = .ok (.aload_n 0, 1) := by decide +kernel
theorem dX5_read_6 : decode cX5_read 6 = .ok (.iload_n 2, 1) := by decide +kernel
theorem dX5_read_7 : decode cX5_read 7 = .ok (.putfield 50, 3) := by decide +kernel
theorem dX5_read_10 : decode cX5_read 10 = .ok (.aload_n 0, 1) := by decide +kernel
theorem dX5_read_11 : decode cX5_read 11 = .ok (.iconst 0, 1) := by decide +kernel
theorem dX5_read_12 : decode cX5_read 12 = .ok (.putfield 53, 3) := by decide +kernel
theorem dX5_read_15 : decode cX5_read 15 = .ok (.aload_n 0, 1) := by decide +kernel
theorem dX5_read_16 : decode cX5_read 16 = .ok (.iconst (-1), 1) := by decide +kernel
theorem dX5_read_17 : decode cX5_read 17 = .ok (.putfield 41, 3) := by decide +kernel
theorem dX5_read_20 : decode cX5_read 20 = .ok (.iconst 0, 1) := by decide +kernel
theorem dX5_read_21 : decode cX5_read 21 = .ok (.istore_n 3, 1) := by decide +kernel
theorem dX5_read_22 : decode cX5_read 22 = .ok (.iconst 0, 1) := by decide +kernel
theorem dX5_read_23 : decode cX5_read 23 = .ok (.istore 4, 2) := by decide +kernel
theorem dX5_read_25 : decode cX5_read 25 = .ok (.iconst 1, 1) := by decide +kernel
theorem dX5_read_26 : decode cX5_read 26 = .ok (.istore 5, 2) := by decide +kernel
theorem dX5_read_28 : decode cX5_read 28 = .ok (.iconst 0, 1) := by decide +kernel
theorem dX5_read_29 : decode cX5_read 29 = .ok (.istore 6, 2) := by decide +kernel
theorem dX5_read_31 : decode cX5_read 31 = .ok (.iload 6, 2) := by decide +kernel
theorem dX5_read_33 : decode cX5_read 33 = .ok (.bipush 120, 2) := by decide +kernel
theorem dX5_read_35 : decode cX5_read 35 = .ok (.if_icmp .gt 75, 3) := by decide +kernel
theorem dX5_read_38 : decode cX5_read 38 = .ok (.iload 5, 2) := by decide +kernel
theorem dX5_read_40 : decode cX5_read 40 = .ok (.ifCond .eq 70, 3) := by decide +kernel
theorem dX5_read_43 : decode cX5_read 43 = .ok (.aload_n 0, 1) := by decide +kernel
theorem dX5_read_44 : decode cX5_read 44 = .ok (.iconst 0, 1) := by decide +kernel
theorem dX5_read_45 : decode cX5_read 45 = .ok (.invokevirtual 56, 3) := by decide +kernel
theorem dX5_read_48 : decode cX5_read 48 = .ok (.istore 7, 2) := by decide +kernel
theorem dX5_read_50 : decode cX5_read 50 = .ok (.aload_n 0, 1) := by decide +kernel
theorem dX5_read_51 : decode cX5_read 51 = .ok (.bipush 63, 2) := by decide +kernel
theorem dX5_read_53 : decode cX5_read 53 = .ok (.invokevirtual 60, 3) := by decide +kernel
theorem dX5_read_56 : decode cX5_read 56 = .ok (.istore 8, 2) := by decide +kernel
theorem dX5_read_58 : decode cX5_read 58 = .ok (.iload 8, 2) := by decide +kernel
theorem dX5_read_60 : decode cX5_read 60 = .ok (.ifCond .eq 11, 3) := by decide +kernel
theorem dX5_read_63 : decode cX5_read 63 = .ok (.aload_n 0, 1) := by decide +kernel
theorem dX5_read_64 : decode cX5_read 64 = .ok (.iconst 0, 1) := by decide +kernel
theorem dX5_read_65 : decode cX5_read 65 = .ok (.invokevirtual 56, 3) := by decide +kernel
theorem dX5_read_68 : decode cX5_read 68 = .ok (.goto 5, 3) := by decide +kernel
theorem dX5_read_71 : decode cX5_read 71 = .ok (.iload 7, 2) := by decide +kernel
theorem dX5_read_73 : decode cX5_read 73 = .ok (.istore 9, 2) := by decide +kernel
theorem dX5_read_75 : decode cX5_read 75 = .ok (.iload 4, 2) := by decide +kernel
theorem dX5_read_77 : decode cX5_read 77 = .ok (.ifCond .ne 19, 3) := by decide +kernel
theorem dX5_read_80 : decode cX5_read 80 = .ok (.iload 8, 2) := by decide +kernel
theorem dX5_read_82 : decode cX5_read 82 = .ok (.ifCond .eq 8, 3) := by decide +kernel
theorem dX5_read_85 : decode cX5_read 85 = .ok (.iload 7, 2) := by decide +kernel
theorem dX5_read_87 : decode cX5_read 87 = .ok (.ifCond .eq 9, 3) := by decide +kernel
theorem dX5_read_90 : decode cX5_read 90 = .ok (.iconst 1, 1) := by decide +kernel
theorem dX5_read_91 : decode cX5_read 91 = .ok (.istore 4, 2) := by decide +kernel
theorem dX5_read_93 : decode cX5_read 93 = .ok (.iload 9, 2) := by decide +kernel
theorem dX5_read_95 : decode cX5_read 95 = .ok (.istore_n 3, 1) := by decide +kernel
theorem dX5_read_96 : decode cX5_read 96 = .ok (.aload_n 0, 1) := by decide +kernel
theorem dX5_read_97 : decode cX5_read 97 = .ok (.bipush 59, 2) := by decide +kernel
theorem dX5_read_99 : decode cX5_read 99 = .ok (.invokevirtual 60, 3) := by decide +kernel
theorem dX5_read_102 : decode cX5_read 102 = .ok (.istore 5, 2) := by decide +kernel
theorem dX5_read_104 : decode cX5_read 104 = .ok (.iinc 6 1, 3) := by decide +kernel
theorem dX5_read_107 : decode cX5_read 107 = .ok (.goto (-76), 3) := by decide +kernel
theorem dX5_read_110 : decode cX5_read 110 = .ok (.aload_n 0, 1) := by decide +kernel
theorem dX5_read_111 : decode cX5_read 111 = .ok (.getfield 53, 3) := by decide +kernel
theorem dX5_read_114 : decode cX5_read 114 = .ok (.aload_n 0, 1) := by decide +kernel
theorem dX5_read_115 : decode cX5_read 115 = .ok (.getfield 50, 3) := by decide +kernel
theorem dX5_read_118 : decode cX5_read 118 = .ok (.if_icmp .ge 7, 3) := by decide +kernel
theorem dX5_read_121 : decode cX5_read 121 = .ok (.aload_n 0, 1) := by decide +kernel
theorem dX5_read_122 : decode cX5_read 122 = .ok (.invokevirtual 64, 3) := by decide +kernel
theorem dX5_read_125 : decode cX5_read 125 = .ok (.iload_n 3, 1) := by decide +kernel
theorem dX5_read_126 : decode cX5_read 126 = .ok (.ireturn, 1) := by decide +kernel
theorem dX5_next_0 : decode cX5_next 0 = .ok (.aload_n 0, 1) := by decide +kernel
theorem dX5_next_1 : decode cX5_next 1 = .ok (.getfield 41, 3) := by decide +kernel
theorem dX5_next_4 : decode cX5_next 4 = .ok (.iconst (-1), 1) := by decide +kernel
theorem dX5_next_5 : decode cX5_next 5 = .ok (.if_icmp .ne 14, 3) := by decide +kernel
theorem dX5_next_8 : decode cX5_next 8 = .ok (.aload_n 0, 1) := by decide +kernel
theorem dX5_next_9 : decode cX5_next 9 = .ok (.getfield 53, 3) := by decide +kernel
theorem dX5_next_12 : decode cX5_next 12 = .ok (.aload_n 0, 1) := by decide +kernel
theorem dX5_next_13 : decode cX5_next 13 = .ok (.getfield 50, 3) := by decide +kernel
theorem dX5_next_16 : decode cX5_next 16 = .ok (.if_icmp .lt 7, 3) := by decide +kernel
theorem dX5_next_19 : decode cX5_next 19 = .ok (.iconst (-1), 1) := by decide +kernel
theorem dX5_next_20 : decode cX5_next 20 = .ok (.goto 16, 3) := by decide +kernel
theorem dX5_next_23 : decode cX5_next 23 = .ok (.aload_n 0, 1) := by decide +kernel
theorem dX5_next_24 : decode cX5_next 24 = .ok (.getfield 27, 3) := by decide +kernel
theorem dX5_next_27 : decode cX5_next 27 = .ok (.aload_n 0, 1) := by decide +kernel
theorem dX5_next_28 : decode cX5_next 28 = .ok (.getfield 53, 3) := by decide +kernel
theorem dX5_next_31 : decode cX5_next 31 = .ok (.baload, 1) := by decide +kernel
theorem dX5_next_32 : decode cX5_next 32 = .ok (.sipush 255, 3) := by decide +kernel
theorem dX5_next_35 : decode cX5_next 35 = .ok (.iand, 1) := by decide +kernel
theorem dX5_next_36 : decode cX5_next 36 = .ok (.ireturn, 1) := by decide +kernel
theorem dX5_passes_0 : decode cX5_passes 0 = .ok (.aload_n 0, 1) := by decide +kernel
theorem dX5_passes_1 : decode cX5_passes 1 = .ok (.invokevirtual 67, 3) := by decide +kernel
theorem dX5_passes_4 : decode cX5_passes 4 = .ok (.iload_n 1, 1) := by decide +kernel
theorem dX5_passes_5 : decode cX5_passes 5 = .ok (.if_icmp .eq 5, 3) := by decide +kernel
theorem dX5_passes_8 : decode cX5_passes 8 = .ok (.iconst 0, 1) := by decide +kernel
theorem dX5_passes_9 : decode cX5_passes 9 = .ok (.ireturn, 1) := by decide +kernel
theorem dX5_passes_10 : decode cX5_passes 10 = .ok (.aload_n 0, 1) := by decide +kernel
theorem dX5_passes_11 : decode cX5_passes 11 = .ok (.dup, 1) := by decide +kernel
theorem dX5_passes_12 : decode cX5_passes 12 = .ok (.getfield 53, 3) := by decide +kernel
theorem dX5_passes_15 : decode cX5_passes 15 = .ok (.iconst 1, 1) := by decide +kernel
theorem dX5_passes_16 : decode cX5_passes 16 = .ok (.iadd, 1) := by decide +kernel
theorem dX5_passes_17 : decode cX5_passes 17 = .ok (.putfield 53, 3) := by decide +kernel
theorem dX5_passes_20 : decode cX5_passes 20 = .ok (.iconst 1, 1) := by decide +kernel
theorem dX5_passes_21 : decode cX5_passes 21 = .ok (.ireturn, 1) := by decide +kernel
theorem dX5_fail_0 : decode cX5_fail 0 = .ok (.aload_n 0, 1) := by decide +kernel
theorem dX5_fail_1 : decode cX5_fail 1 = .ok (.getfield 41, 3) := by decide +kernel
theorem dX5_fail_4 : decode cX5_fail 4 = .ok (.iconst (-1), 1) := by decide +kernel
theorem dX5_fail_5 : decode cX5_fail 5 = .ok (.if_icmp .ne 11, 3) := by decide +kernel
theorem dX5_fail_8 : decode cX5_fail 8 = .ok (.aload_n 0, 1) := by decide +kernel
theorem dX5_fail_9 : decode cX5_fail 9 = .ok (.aload_n 0, 1) := by decide +kernel
theorem dX5_fail_10 : decode cX5_fail 10 = .ok (.getfield 53, 3) := by decide +kernel
theorem dX5_fail_13 : decode cX5_fail 13 = .ok (.putfield 41, 3) := by decide +kernel
theorem dX5_fail_16 : decode cX5_fail 16 = .ok (.return_, 1) := by decide +kernel
theorem dX5_either_0 : decode cX5_either 0 = .ok (.aload_n 0, 1) := by decide +kernel
theorem dX5_either_1 : decode cX5_either 1 = .ok (.iload_n 1, 1) := by decide +kernel
theorem dX5_either_2 : decode cX5_either 2 = .ok (.invokevirtual 71, 3) := by decide +kernel
theorem dX5_either_5 : decode cX5_either 5 = .ok (.istore_n 2, 1) := by decide +kernel
theorem dX5_either_6 : decode cX5_either 6 = .ok (.iconst 0, 1) := by decide +kernel
theorem dX5_either_7 : decode cX5_either 7 = .ok (.istore_n 3, 1) := by decide +kernel
theorem dX5_either_8 : decode cX5_either 8 = .ok (.iload_n 3, 1) := by decide +kernel
theorem dX5_either_9 : decode cX5_either 9 = .ok (.bipush 120, 2) := by decide +kernel
theorem dX5_either_11 : decode cX5_either 11 = .ok (.if_icmp .ge 40, 3) := by decide +kernel
theorem dX5_either_14 : decode cX5_either 14 = .ok (.aload_n 0, 1) := by decide +kernel
theorem dX5_either_15 : decode cX5_either 15 = .ok (.bipush 124, 2) := by decide +kernel
theorem dX5_either_17 : decode cX5_either 17 = .ok (.invokevirtual 60, 3) := by decide +kernel
theorem dX5_either_20 : decode cX5_either 20 = .ok (.ifCond .eq 31, 3) := by decide +kernel
theorem dX5_either_23 : decode cX5_either 23 = .ok (.aload_n 0, 1) := by decide +kernel
theorem dX5_either_24 : decode cX5_either 24 = .ok (.iload_n 1, 1) := by decide +kernel
theorem dX5_either_25 : decode cX5_either 25 = .ok (.invokevirtual 71, 3) := by decide +kernel
theorem dX5_either_28 : decode cX5_either 28 = .ok (.istore 4, 2) := by decide +kernel
theorem dX5_either_30 : decode cX5_either 30 = .ok (.iload_n 2, 1) := by decide +kernel
theorem dX5_either_31 : decode cX5_either 31 = .ok (.ifCond .ne 8, 3) := by decide +kernel
theorem dX5_either_34 : decode cX5_either 34 = .ok (.iload 4, 2) := by decide +kernel
theorem dX5_either_36 : decode cX5_either 36 = .ok (.ifCond .eq 7, 3) := by decide +kernel
theorem dX5_either_39 : decode cX5_either 39 = .ok (.iconst 1, 1) := by decide +kernel
theorem dX5_either_40 : decode cX5_either 40 = .ok (.goto 4, 3) := by decide +kernel
theorem dX5_either_43 : decode cX5_either 43 = .ok (.iconst 0, 1) := by decide +kernel
theorem dX5_either_44 : decode cX5_either 44 = .ok (.istore_n 2, 1) := by decide +kernel
theorem dX5_either_45 : decode cX5_either 45 = .ok (.iinc 3 1, 3) := by decide +kernel
theorem dX5_either_48 : decode cX5_either 48 = .ok (.goto (-40), 3) := by decide +kernel
theorem dX5_either_51 : decode cX5_either 51 = .ok (.iload_n 2, 1) := by decide +kernel
theorem dX5_either_52 : decode cX5_either 52 = .ok (.ireturn, 1) := by decide +kernel
theorem dX5_both_0 : decode cX5_both 0 = .ok (.aload_n 0, 1) := by decide +kernel
theorem dX5_both_1 : decode cX5_both 1 = .ok (.iload_n 1, 1) := by decide +kernel
theorem dX5_both_2 : decode cX5_both 2 = .ok (.invokevirtual 74, 3) := by decide +kernel
theorem dX5_both_5 : decode cX5_both 5 = .ok (.istore_n 2, 1) := by decide +kernel
theorem dX5_both_6 : decode cX5_both 6 = .ok (.iconst 0, 1) := by decide +kernel
theorem dX5_both_7 : decode cX5_both 7 = .ok (.istore_n 3, 1) := by decide +kernel
theorem dX5_both_8 : decode cX5_both 8 = .ok (.iload_n 3, 1) := by decide +kernel
theorem dX5_both_9 : decode cX5_both 9 = .ok (.bipush 120, 2) := by decide +kernel
theorem dX5_both_11 : decode cX5_both 11 = .ok (.if_icmp .ge 40, 3) := by decide +kernel
theorem dX5_both_14 : decode cX5_both 14 = .ok (.aload_n 0, 1) := by decide +kernel
theorem dX5_both_15 : decode cX5_both 15 = .ok (.bipush 38, 2) := by decide +kernel
theorem dX5_both_17 : decode cX5_both 17 = .ok (.invokevirtual 60, 3) := by decide +kernel
theorem dX5_both_20 : decode cX5_both 20 = .ok (.ifCond .eq 31, 3) := by decide +kernel
theorem dX5_both_23 : decode cX5_both 23 = .ok (.aload_n 0, 1) := by decide +kernel
theorem dX5_both_24 : decode cX5_both 24 = .ok (.iload_n 1, 1) := by decide +kernel
theorem dX5_both_25 : decode cX5_both 25 = .ok (.invokevirtual 74, 3) := by decide +kernel
theorem dX5_both_28 : decode cX5_both 28 = .ok (.istore 4, 2) := by decide +kernel
theorem dX5_both_30 : decode cX5_both 30 = .ok (.iload_n 2, 1) := by decide +kernel
theorem dX5_both_31 : decode cX5_both 31 = .ok (.ifCond .eq 12, 3) := by decide +kernel
theorem dX5_both_34 : decode cX5_both 34 = .ok (.iload 4, 2) := by decide +kernel
theorem dX5_both_36 : decode cX5_both 36 = .ok (.ifCond .eq 7, 3) := by decide +kernel
theorem dX5_both_39 : decode cX5_both 39 = .ok (.iconst 1, 1) := by decide +kernel
theorem dX5_both_40 : decode cX5_both 40 = .ok (.goto 4, 3) := by decide +kernel
theorem dX5_both_43 : decode cX5_both 43 = .ok (.iconst 0, 1) := by decide +kernel
theorem dX5_both_44 : decode cX5_both 44 = .ok (.istore_n 2, 1) := by decide +kernel
theorem dX5_both_45 : decode cX5_both 45 = .ok (.iinc 3 1, 3) := by decide +kernel
theorem dX5_both_48 : decode cX5_both 48 = .ok (.goto (-40), 3) := by decide +kernel
theorem dX5_both_51 : decode cX5_both 51 = .ok (.iload_n 2, 1) := by decide +kernel
theorem dX5_both_52 : decode cX5_both 52 = .ok (.ireturn, 1) := by decide +kernel
theorem dX5_compared_0 : decode cX5_compared 0 = .ok (.aload_n 0, 1) := by decide +kernel
theorem dX5_compared_1 : decode cX5_compared 1 = .ok (.iload_n 1, 1) := by decide +kernel
theorem dX5_compared_2 : decode cX5_compared 2 = .ok (.invokevirtual 77, 3) := by decide +kernel
theorem dX5_compared_5 : decode cX5_compared 5 = .ok (.istore_n 2, 1) := by decide +kernel
theorem dX5_compared_6 : decode cX5_compared 6 = .ok (.aload_n 0, 1) := by decide +kernel
theorem dX5_compared_7 : decode cX5_compared 7 = .ok (.bipush 60, 2) := by decide +kernel
theorem dX5_compared_9 : decode cX5_compared 9 = .ok (.invokevirtual 60, 3) := by decide +kernel
theorem dX5_compared_12 : decode cX5_compared 12 = .ok (.ifCond .eq 18, 3) := by decide +kernel
theorem dX5_compared_15 : decode cX5_compared 15 = .ok (.iload_n 2, 1) := by decide +kernel
theorem dX5_compared_16 : decode cX5_compared 16 = .ok (.aload_n 0, 1) := by decide +kernel
theorem dX5_compared_17 : decode cX5_compared 17 = .ok (.iload_n 1, 1) := by decide +kernel
theorem dX5_compared_18 : decode cX5_compared 18 = .ok (.invokevirtual 77, 3) := by decide +kernel
theorem dX5_compared_21 : decode cX5_compared 21 = .ok (.if_icmp .ge 7, 3) := by decide +kernel
theorem dX5_compared_24 : decode cX5_compared 24 = .ok (.iconst 1, 1) := by decide +kernel
theorem dX5_compared_25 : decode cX5_compared 25 = .ok (.goto 4, 3) := by decide +kernel
theorem dX5_compared_28 : decode cX5_compared 28 = .ok (.iconst 0, 1) := by decide +kernel
theorem dX5_compared_29 : decode cX5_compared 29 = .ok (.ireturn, 1) := by decide +kernel
theorem dX5_compared_30 : decode cX5_compared 30 = .ok (.aload_n 0, 1) := by decide +kernel
theorem dX5_compared_31 : decode cX5_compared 31 = .ok (.bipush 61, 2) := by decide +kernel
theorem dX5_compared_33 : decode cX5_compared 33 = .ok (.invokevirtual 60, 3) := by decide +kernel
theorem dX5_compared_36 : decode cX5_compared 36 = .ok (.ifCond .eq 18, 3) := by decide +kernel
theorem dX5_compared_39 : decode cX5_compared 39 = .ok (.iload_n 2, 1) := by decide +kernel
theorem dX5_compared_40 : decode cX5_compared 40 = .ok (.aload_n 0, 1) := by decide +kernel
theorem dX5_compared_41 : decode cX5_compared 41 = .ok (.iload_n 1, 1) := by decide +kernel
theorem dX5_compared_42 : decode cX5_compared 42 = .ok (.invokevirtual 77, 3) := by decide +kernel
theorem dX5_compared_45 : decode cX5_compared 45 = .ok (.if_icmp .ne 7, 3) := by decide +kernel
theorem dX5_compared_48 : decode cX5_compared 48 = .ok (.iconst 1, 1) := by decide +kernel
theorem dX5_compared_49 : decode cX5_compared 49 = .ok (.goto 4, 3) := by decide +kernel
theorem dX5_compared_52 : decode cX5_compared 52 = .ok (.iconst 0, 1) := by decide +kernel
theorem dX5_compared_53 : decode cX5_compared 53 = .ok (.ireturn, 1) := by decide +kernel
theorem dX5_compared_54 : decode cX5_compared 54 = .ok (.aload_n 0, 1) := by decide +kernel
theorem dX5_compared_55 : decode cX5_compared 55 = .ok (.bipush 62, 2) := by decide +kernel
theorem dX5_compared_57 : decode cX5_compared 57 = .ok (.invokevirtual 60, 3) := by decide +kernel
theorem dX5_compared_60 : decode cX5_compared 60 = .ok (.ifCond .eq 18, 3) := by decide +kernel
theorem dX5_compared_63 : decode cX5_compared 63 = .ok (.iload_n 2, 1) := by decide +kernel
theorem dX5_compared_64 : decode cX5_compared 64 = .ok (.aload_n 0, 1) := by decide +kernel
theorem dX5_compared_65 : decode cX5_compared 65 = .ok (.iload_n 1, 1) := by decide +kernel
theorem dX5_compared_66 : decode cX5_compared 66 = .ok (.invokevirtual 77, 3) := by decide +kernel
theorem dX5_compared_69 : decode cX5_compared 69 = .ok (.if_icmp .le 7, 3) := by decide +kernel
theorem dX5_compared_72 : decode cX5_compared 72 = .ok (.iconst 1, 1) := by decide +kernel
theorem dX5_compared_73 : decode cX5_compared 73 = .ok (.goto 4, 3) := by decide +kernel
theorem dX5_compared_76 : decode cX5_compared 76 = .ok (.iconst 0, 1) := by decide +kernel
theorem dX5_compared_77 : decode cX5_compared 77 = .ok (.ireturn, 1) := by decide +kernel
theorem dX5_compared_78 : decode cX5_compared 78 = .ok (.iload_n 2, 1) := by decide +kernel
theorem dX5_compared_79 : decode cX5_compared 79 = .ok (.ireturn, 1) := by decide +kernel
theorem dX5_sum_0 : decode cX5_sum 0 = .ok (.aload_n 0, 1) := by decide +kernel
theorem dX5_sum_1 : decode cX5_sum 1 = .ok (.iload_n 1, 1) := by decide +kernel
theorem dX5_sum_2 : decode cX5_sum 2 = .ok (.invokevirtual 80, 3) := by decide +kernel
theorem dX5_sum_5 : decode cX5_sum 5 = .ok (.istore_n 2, 1) := by decide +kernel
theorem dX5_sum_6 : decode cX5_sum 6 = .ok (.iconst 0, 1) := by decide +kernel
theorem dX5_sum_7 : decode cX5_sum 7 = .ok (.istore_n 3, 1) := by decide +kernel
theorem dX5_sum_8 : decode cX5_sum 8 = .ok (.iload_n 3, 1) := by decide +kernel
theorem dX5_sum_9 : decode cX5_sum 9 = .ok (.bipush 120, 2) := by decide +kernel
theorem dX5_sum_11 : decode cX5_sum 11 = .ok (.if_icmp .ge 46, 3) := by decide +kernel
theorem dX5_sum_14 : decode cX5_sum 14 = .ok (.aload_n 0, 1) := by decide +kernel
theorem dX5_sum_15 : decode cX5_sum 15 = .ok (.bipush 43, 2) := by decide +kernel
theorem dX5_sum_17 : decode cX5_sum 17 = .ok (.invokevirtual 60, 3) := by decide +kernel
theorem dX5_sum_20 : decode cX5_sum 20 = .ok (.ifCond .eq 14, 3) := by decide +kernel
theorem dX5_sum_23 : decode cX5_sum 23 = .ok (.iload_n 2, 1) := by decide +kernel
theorem dX5_sum_24 : decode cX5_sum 24 = .ok (.aload_n 0, 1) := by decide +kernel
theorem dX5_sum_25 : decode cX5_sum 25 = .ok (.iload_n 1, 1) := by decide +kernel
theorem dX5_sum_26 : decode cX5_sum 26 = .ok (.invokevirtual 80, 3) := by decide +kernel
theorem dX5_sum_29 : decode cX5_sum 29 = .ok (.iadd, 1) := by decide +kernel
theorem dX5_sum_30 : decode cX5_sum 30 = .ok (.istore_n 2, 1) := by decide +kernel
theorem dX5_sum_31 : decode cX5_sum 31 = .ok (.goto 20, 3) := by decide +kernel
theorem dX5_sum_34 : decode cX5_sum 34 = .ok (.aload_n 0, 1) := by decide +kernel
theorem dX5_sum_35 : decode cX5_sum 35 = .ok (.bipush 45, 2) := by decide +kernel
theorem dX5_sum_37 : decode cX5_sum 37 = .ok (.invokevirtual 60, 3) := by decide +kernel
theorem dX5_sum_40 : decode cX5_sum 40 = .ok (.ifCond .eq 17, 3) := by decide +kernel
theorem dX5_sum_43 : decode cX5_sum 43 = .ok (.iload_n 2, 1) := by decide +kernel
theorem dX5_sum_44 : decode cX5_sum 44 = .ok (.aload_n 0, 1) := by decide +kernel
theorem dX5_sum_45 : decode cX5_sum 45 = .ok (.iload_n 1, 1) := by decide +kernel
theorem dX5_sum_46 : decode cX5_sum 46 = .ok (.invokevirtual 80, 3) := by decide +kernel
theorem dX5_sum_49 : decode cX5_sum 49 = .ok (.isub, 1) := by decide +kernel
theorem dX5_sum_50 : decode cX5_sum 50 = .ok (.istore_n 2, 1) := by decide +kernel
theorem dX5_sum_51 : decode cX5_sum 51 = .ok (.iinc 3 1, 3) := by decide +kernel
theorem dX5_sum_54 : decode cX5_sum 54 = .ok (.goto (-46), 3) := by decide +kernel
theorem dX5_sum_57 : decode cX5_sum 57 = .ok (.iload_n 2, 1) := by decide +kernel
theorem dX5_sum_58 : decode cX5_sum 58 = .ok (.ireturn, 1) := by decide +kernel
theorem dX5_product_0 : decode cX5_product 0 = .ok (.aload_n 0, 1) := by decide +kernel
theorem dX5_product_1 : decode cX5_product 1 = .ok (.iload_n 1, 1) := by decide +kernel
theorem dX5_product_2 : decode cX5_product 2 = .ok (.invokevirtual 83, 3) := by decide +kernel
theorem dX5_product_5 : decode cX5_product 5 = .ok (.istore_n 2, 1) := by decide +kernel
theorem dX5_product_6 : decode cX5_product 6 = .ok (.iconst 0, 1) := by decide +kernel
theorem dX5_product_7 : decode cX5_product 7 = .ok (.istore_n 3, 1) := by decide +kernel
theorem dX5_product_8 : decode cX5_product 8 = .ok (.iload_n 3, 1) := by decide +kernel
theorem dX5_product_9 : decode cX5_product 9 = .ok (.bipush 120, 2) := by decide +kernel
theorem dX5_product_11 : decode cX5_product 11 = .ok (.if_icmp .ge 92, 3) := by decide +kernel
theorem dX5_product_14 : decode cX5_product 14 = .ok (.aload_n 0, 1) := by decide +kernel
theorem dX5_product_15 : decode cX5_product 15 = .ok (.bipush 42, 2) := by decide +kernel
theorem dX5_product_17 : decode cX5_product 17 = .ok (.invokevirtual 60, 3) := by decide +kernel
theorem dX5_product_20 : decode cX5_product 20 = .ok (.ifCond .eq 14, 3) := by decide +kernel
theorem dX5_product_23 : decode cX5_product 23 = .ok (.iload_n 2, 1) := by decide +kernel
theorem dX5_product_24 : decode cX5_product 24 = .ok (.aload_n 0, 1) := by decide +kernel
theorem dX5_product_25 : decode cX5_product 25 = .ok (.iload_n 1, 1) := by decide +kernel
theorem dX5_product_26 : decode cX5_product 26 = .ok (.invokevirtual 83, 3) := by decide +kernel
theorem dX5_product_29 : decode cX5_product 29 = .ok (.imul, 1) := by decide +kernel
theorem dX5_product_30 : decode cX5_product 30 = .ok (.istore_n 2, 1) := by decide +kernel
theorem dX5_product_31 : decode cX5_product 31 = .ok (.goto 66, 3) := by decide +kernel
theorem dX5_product_34 : decode cX5_product 34 = .ok (.aload_n 0, 1) := by decide +kernel
theorem dX5_product_35 : decode cX5_product 35 = .ok (.bipush 47, 2) := by decide +kernel
theorem dX5_product_37 : decode cX5_product 37 = .ok (.invokevirtual 60, 3) := by decide +kernel
theorem dX5_product_40 : decode cX5_product 40 = .ok (.ifCond .eq 27, 3) := by decide +kernel
theorem dX5_product_43 : decode cX5_product 43 = .ok (.aload_n 0, 1) := by decide +kernel
theorem dX5_product_44 : decode cX5_product 44 = .ok (.iload_n 1, 1) := by decide +kernel
theorem dX5_product_45 : decode cX5_product 45 = .ok (.invokevirtual 83, 3) := by decide +kernel
theorem dX5_product_48 : decode cX5_product 48 = .ok (.istore 4, 2) := by decide +kernel
theorem dX5_product_50 : decode cX5_product 50 = .ok (.iload 4, 2) := by decide +kernel
theorem dX5_product_52 : decode cX5_product 52 = .ok (.ifCond .ne 7, 3) := by decide +kernel
theorem dX5_product_55 : decode cX5_product 55 = .ok (.iconst 0, 1) := by decide +kernel
theorem dX5_product_56 : decode cX5_product 56 = .ok (.goto 7, 3) := by decide +kernel
theorem dX5_product_59 : decode cX5_product 59 = .ok (.iload_n 2, 1) := by decide +kernel
theorem dX5_product_60 : decode cX5_product 60 = .ok (.iload 4, 2) := by decide +kernel
theorem dX5_product_62 : decode cX5_product 62 = .ok (.idiv, 1) := by decide +kernel
theorem dX5_product_63 : decode cX5_product 63 = .ok (.istore_n 2, 1) := by decide +kernel
theorem dX5_product_64 : decode cX5_product 64 = .ok (.goto 33, 3) := by decide +kernel
theorem dX5_product_67 : decode cX5_product 67 = .ok (.aload_n 0, 1) := by decide +kernel
theorem dX5_product_68 : decode cX5_product 68 = .ok (.bipush 37, 2) := by decide +kernel
theorem dX5_product_70 : decode cX5_product 70 = .ok (.invokevirtual 60, 3) := by decide +kernel
theorem dX5_product_73 : decode cX5_product 73 = .ok (.ifCond .eq 30, 3) := by decide +kernel
theorem dX5_product_76 : decode cX5_product 76 = .ok (.aload_n 0, 1) := by decide +kernel
theorem dX5_product_77 : decode cX5_product 77 = .ok (.iload_n 1, 1) := by decide +kernel
theorem dX5_product_78 : decode cX5_product 78 = .ok (.invokevirtual 83, 3) := by decide +kernel
theorem dX5_product_81 : decode cX5_product 81 = .ok (.istore 4, 2) := by decide +kernel
theorem dX5_product_83 : decode cX5_product 83 = .ok (.iload 4, 2) := by decide +kernel
theorem dX5_product_85 : decode cX5_product 85 = .ok (.ifCond .ne 7, 3) := by decide +kernel
theorem dX5_product_88 : decode cX5_product 88 = .ok (.iconst 0, 1) := by decide +kernel
theorem dX5_product_89 : decode cX5_product 89 = .ok (.goto 7, 3) := by decide +kernel
theorem dX5_product_92 : decode cX5_product 92 = .ok (.iload_n 2, 1) := by decide +kernel
theorem dX5_product_93 : decode cX5_product 93 = .ok (.iload 4, 2) := by decide +kernel
theorem dX5_product_95 : decode cX5_product 95 = .ok (.irem, 1) := by decide +kernel
theorem dX5_product_96 : decode cX5_product 96 = .ok (.istore_n 2, 1) := by decide +kernel
theorem dX5_product_97 : decode cX5_product 97 = .ok (.iinc 3 1, 3) := by decide +kernel
theorem dX5_product_100 : decode cX5_product 100 = .ok (.goto (-92), 3) := by decide +kernel
theorem dX5_product_103 : decode cX5_product 103 = .ok (.iload_n 2, 1) := by decide +kernel
theorem dX5_product_104 : decode cX5_product 104 = .ok (.ireturn, 1) := by decide +kernel
theorem dX5_single_0 : decode cX5_single 0 = .ok (.aload_n 0, 1) := by decide +kernel
theorem dX5_single_1 : decode cX5_single 1 = .ok (.invokevirtual 67, 3) := by decide +kernel
theorem dX5_single_4 : decode cX5_single 4 = .ok (.istore_n 2, 1) := by decide +kernel
theorem dX5_single_5 : decode cX5_single 5 = .ok (.iload_n 2, 1) := by decide +kernel
theorem dX5_single_6 : decode cX5_single 6 = .ok (.invokestatic 86, 3) := by decide +kernel
theorem dX5_single_9 : decode cX5_single 9 = .ok (.ifCond .eq 8, 3) := by decide +kernel
theorem dX5_single_12 : decode cX5_single 12 = .ok (.aload_n 0, 1) := by decide +kernel
theorem dX5_single_13 : decode cX5_single 13 = .ok (.invokevirtual 89, 3) := by decide +kernel
theorem dX5_single_16 : decode cX5_single 16 = .ok (.ireturn, 1) := by decide +kernel
theorem dX5_single_17 : decode cX5_single 17 = .ok (.iload_n 2, 1) := by decide +kernel
theorem dX5_single_18 : decode cX5_single 18 = .ok (.iconst (-1), 1) := by decide +kernel
theorem dX5_single_19 : decode cX5_single 19 = .ok (.if_icmp .ne 7, 3) := by decide +kernel
theorem dX5_single_22 : decode cX5_single 22 = .ok (.iconst (-1), 1) := by decide +kernel
theorem dX5_single_23 : decode cX5_single 23 = .ok (.goto 10, 3) := by decide +kernel
theorem dX5_single_26 : decode cX5_single 26 = .ok (.ldc 92, 2) := by decide +kernel
theorem dX5_single_28 : decode cX5_single 28 = .ok (.iload_n 2, 1) := by decide +kernel
theorem dX5_single_29 : decode cX5_single 29 = .ok (.i2c, 1) := by decide +kernel
theorem dX5_single_30 : decode cX5_single 30 = .ok (.invokevirtual 94, 3) := by decide +kernel
theorem dX5_single_33 : decode cX5_single 33 = .ok (.istore_n 3, 1) := by decide +kernel
theorem dX5_single_34 : decode cX5_single 34 = .ok (.iload_n 3, 1) := by decide +kernel
theorem dX5_single_35 : decode cX5_single 35 = .ok (.ifCond .lt 29, 3) := by decide +kernel
theorem dX5_single_38 : decode cX5_single 38 = .ok (.iload_n 3, 1) := by decide +kernel
theorem dX5_single_39 : decode cX5_single 39 = .ok (.aload_n 0, 1) := by decide +kernel
theorem dX5_single_40 : decode cX5_single 40 = .ok (.getfield 9, 3) := by decide +kernel
theorem dX5_single_43 : decode cX5_single 43 = .ok (.arraylength, 1) := by decide +kernel
theorem dX5_single_44 : decode cX5_single 44 = .ok (.if_icmp .ge 20, 3) := by decide +kernel
theorem dX5_single_47 : decode cX5_single 47 = .ok (.aload_n 0, 1) := by decide +kernel
theorem dX5_single_48 : decode cX5_single 48 = .ok (.dup, 1) := by decide +kernel
theorem dX5_single_49 : decode cX5_single 49 = .ok (.getfield 53, 3) := by decide +kernel
theorem dX5_single_52 : decode cX5_single 52 = .ok (.iconst 1, 1) := by decide +kernel
theorem dX5_single_53 : decode cX5_single 53 = .ok (.iadd, 1) := by decide +kernel
theorem dX5_single_54 : decode cX5_single 54 = .ok (.putfield 53, 3) := by decide +kernel
theorem dX5_single_57 : decode cX5_single 57 = .ok (.aload_n 0, 1) := by decide +kernel
theorem dX5_single_58 : decode cX5_single 58 = .ok (.getfield 9, 3) := by decide +kernel
theorem dX5_single_61 : decode cX5_single 61 = .ok (.iload_n 3, 1) := by decide +kernel
theorem dX5_single_62 : decode cX5_single 62 = .ok (.iaload, 1) := by decide +kernel
theorem dX5_single_63 : decode cX5_single 63 = .ok (.ireturn, 1) := by decide +kernel
theorem dX5_single_64 : decode cX5_single 64 = .ok (.iload_n 1, 1) := by decide +kernel
theorem dX5_single_65 : decode cX5_single 65 = .ok (.bipush 6, 2) := by decide +kernel
theorem dX5_single_67 : decode cX5_single 67 = .ok (.if_icmp .ge 37, 3) := by decide +kernel
theorem dX5_single_70 : decode cX5_single 70 = .ok (.aload_n 0, 1) := by decide +kernel
theorem dX5_single_71 : decode cX5_single 71 = .ok (.bipush 40, 2) := by decide +kernel
theorem dX5_single_73 : decode cX5_single 73 = .ok (.invokevirtual 60, 3) := by decide +kernel
theorem dX5_single_76 : decode cX5_single 76 = .ok (.ifCond .eq 28, 3) := by decide +kernel
theorem dX5_single_79 : decode cX5_single 79 = .ok (.aload_n 0, 1) := by decide +kernel
theorem dX5_single_80 : decode cX5_single 80 = .ok (.iload_n 1, 1) := by decide +kernel
theorem dX5_single_81 : decode cX5_single 81 = .ok (.iconst 1, 1) := by decide +kernel
theorem dX5_single_82 : decode cX5_single 82 = .ok (.iadd, 1) := by decide +kernel
theorem dX5_single_83 : decode cX5_single 83 = .ok (.invokevirtual 56, 3) := by decide +kernel
theorem dX5_single_86 : decode cX5_single 86 = .ok (.istore 4, 2) := by decide +kernel
theorem dX5_single_88 : decode cX5_single 88 = .ok (.aload_n 0, 1) := by decide +kernel
theorem dX5_single_89 : decode cX5_single 89 = .ok (.bipush 41, 2) := by decide +kernel
theorem dX5_single_91 : decode cX5_single 91 = .ok (.invokevirtual 60, 3) := by decide +kernel
theorem dX5_single_94 : decode cX5_single 94 = .ok (.ifCond .ne 7, 3) := by decide +kernel
theorem dX5_single_97 : decode cX5_single 97 = .ok (.aload_n 0, 1) := by decide +kernel
theorem dX5_single_98 : decode cX5_single 98 = .ok (.invokevirtual 64, 3) := by decide +kernel
theorem dX5_single_101 : decode cX5_single 101 = .ok (.iload 4, 2) := by decide +kernel
theorem dX5_single_103 : decode cX5_single 103 = .ok (.ireturn, 1) := by decide +kernel
theorem dX5_single_104 : decode cX5_single 104 = .ok (.iload_n 1, 1) := by decide +kernel
theorem dX5_single_105 : decode cX5_single 105 = .ok (.bipush 6, 2) := by decide +kernel
theorem dX5_single_107 : decode cX5_single 107 = .ok (.if_icmp .ge 28, 3) := by decide +kernel
theorem dX5_single_110 : decode cX5_single 110 = .ok (.aload_n 0, 1) := by decide +kernel
theorem dX5_single_111 : decode cX5_single 111 = .ok (.bipush 33, 2) := by decide +kernel
theorem dX5_single_113 : decode cX5_single 113 = .ok (.invokevirtual 60, 3) := by decide +kernel
theorem dX5_single_116 : decode cX5_single 116 = .ok (.ifCond .eq 19, 3) := by decide +kernel
theorem dX5_single_119 : decode cX5_single 119 = .ok (.aload_n 0, 1) := by decide +kernel
theorem dX5_single_120 : decode cX5_single 120 = .ok (.iload_n 1, 1) := by decide +kernel
theorem dX5_single_121 : decode cX5_single 121 = .ok (.iconst 1, 1) := by decide +kernel
theorem dX5_single_122 : decode cX5_single 122 = .ok (.iadd, 1) := by decide +kernel
theorem dX5_single_123 : decode cX5_single 123 = .ok (.invokevirtual 83, 3) := by decide +kernel
theorem dX5_single_126 : decode cX5_single 126 = .ok (.ifCond .ne 7, 3) := by decide +kernel
theorem dX5_single_129 : decode cX5_single 129 = .ok (.iconst 1, 1) := by decide +kernel
theorem dX5_single_130 : decode cX5_single 130 = .ok (.goto 4, 3) := by decide +kernel
theorem dX5_single_133 : decode cX5_single 133 = .ok (.iconst 0, 1) := by decide +kernel
theorem dX5_single_134 : decode cX5_single 134 = .ok (.ireturn, 1) := by decide +kernel
theorem dX5_single_135 : decode cX5_single 135 = .ok (.iload_n 1, 1) := by decide +kernel
theorem dX5_single_136 : decode cX5_single 136 = .ok (.bipush 6, 2) := by decide +kernel
theorem dX5_single_138 : decode cX5_single 138 = .ok (.if_icmp .ge 21, 3) := by decide +kernel
theorem dX5_single_141 : decode cX5_single 141 = .ok (.aload_n 0, 1) := by decide +kernel
theorem dX5_single_142 : decode cX5_single 142 = .ok (.bipush 45, 2) := by decide +kernel
theorem dX5_single_144 : decode cX5_single 144 = .ok (.invokevirtual 60, 3) := by decide +kernel
theorem dX5_single_147 : decode cX5_single 147 = .ok (.ifCond .eq 12, 3) := by decide +kernel
theorem dX5_single_150 : decode cX5_single 150 = .ok (.aload_n 0, 1) := by decide +kernel
theorem dX5_single_151 : decode cX5_single 151 = .ok (.iload_n 1, 1) := by decide +kernel
theorem dX5_single_152 : decode cX5_single 152 = .ok (.iconst 1, 1) := by decide +kernel
theorem dX5_single_153 : decode cX5_single 153 = .ok (.iadd, 1) := by decide +kernel
theorem dX5_single_154 : decode cX5_single 154 = .ok (.invokevirtual 83, 3) := by decide +kernel
theorem dX5_single_157 : decode cX5_single 157 = .ok (.ineg, 1) := by decide +kernel
theorem dX5_single_158 : decode cX5_single 158 = .ok (.ireturn, 1) := by decide +kernel
theorem dX5_single_159 : decode cX5_single 159 = .ok (.aload_n 0, 1) := by decide +kernel
theorem dX5_single_160 : decode cX5_single 160 = .ok (.invokevirtual 64, 3) := by decide +kernel
theorem dX5_single_163 : decode cX5_single 163 = .ok (.iconst 0, 1) := by decide +kernel
theorem dX5_single_164 : decode cX5_single 164 = .ok (.ireturn, 1) := by decide +kernel
theorem dX5_isDigit_0 : decode cX5_isDigit 0 = .ok (.iload_n 0, 1) := by decide +kernel
theorem dX5_isDigit_1 : decode cX5_isDigit 1 = .ok (.bipush 48, 2) := by decide +kernel
theorem dX5_isDigit_3 : decode cX5_isDigit 3 = .ok (.if_icmp .lt 13, 3) := by decide +kernel
theorem dX5_isDigit_6 : decode cX5_isDigit 6 = .ok (.iload_n 0, 1) := by decide +kernel
theorem dX5_isDigit_7 : decode cX5_isDigit 7 = .ok (.bipush 57, 2) := by decide +kernel
theorem dX5_isDigit_9 : decode cX5_isDigit 9 = .ok (.if_icmp .gt 7, 3) := by decide +kernel
theorem dX5_isDigit_12 : decode cX5_isDigit 12 = .ok (.iconst 1, 1) := by decide +kernel
theorem dX5_isDigit_13 : decode cX5_isDigit 13 = .ok (.goto 4, 3) := by decide +kernel
theorem dX5_isDigit_16 : decode cX5_isDigit 16 = .ok (.iconst 0, 1) := by decide +kernel
theorem dX5_isDigit_17 : decode cX5_isDigit 17 = .ok (.ireturn, 1) := by decide +kernel
theorem dX5_number_0 : decode cX5_number 0 = .ok (.iconst 0, 1) := by decide +kernel
theorem dX5_number_1 : decode cX5_number 1 = .ok (.istore_n 1, 1) := by decide +kernel
theorem dX5_number_2 : decode cX5_number 2 = .ok (.iconst 0, 1) := by decide +kernel
theorem dX5_number_3 : decode cX5_number 3 = .ok (.istore_n 2, 1) := by decide +kernel
theorem dX5_number_4 : decode cX5_number 4 = .ok (.iload_n 2, 1) := by decide +kernel
theorem dX5_number_5 : decode cX5_number 5 = .ok (.iconst 4, 1) := by decide +kernel
theorem dX5_number_6 : decode cX5_number 6 = .ok (.if_icmp .ge 42, 3) := by decide +kernel
theorem dX5_number_9 : decode cX5_number 9 = .ok (.aload_n 0, 1) := by decide +kernel
theorem dX5_number_10 : decode cX5_number 10 = .ok (.invokevirtual 67, 3) := by decide +kernel
theorem dX5_number_13 : decode cX5_number 13 = .ok (.invokestatic 86, 3) := by decide +kernel
theorem dX5_number_16 : decode cX5_number 16 = .ok (.ifCond .eq 32, 3) := by decide +kernel
theorem dX5_number_19 : decode cX5_number 19 = .ok (.bipush 10, 2) := by decide +kernel
theorem dX5_number_21 : decode cX5_number 21 = .ok (.iload_n 1, 1) := by decide +kernel
theorem dX5_number_22 : decode cX5_number 22 = .ok (.imul, 1) := by decide +kernel
theorem dX5_number_23 : decode cX5_number 23 = .ok (.aload_n 0, 1) := by decide +kernel
theorem dX5_number_24 : decode cX5_number 24 = .ok (.invokevirtual 67, 3) := by decide +kernel
theorem dX5_number_27 : decode cX5_number 27 = .ok (.iadd, 1) := by decide +kernel
theorem dX5_number_28 : decode cX5_number 28 = .ok (.bipush 48, 2) := by decide +kernel
theorem dX5_number_30 : decode cX5_number 30 = .ok (.isub, 1) := by decide +kernel
theorem dX5_number_31 : decode cX5_number 31 = .ok (.istore_n 1, 1) := by decide +kernel
theorem dX5_number_32 : decode cX5_number 32 = .ok (.aload_n 0, 1) := by decide +kernel
theorem dX5_number_33 : decode cX5_number 33 = .ok (.dup, 1) := by decide +kernel
theorem dX5_number_34 : decode cX5_number 34 = .ok (.getfield 53, 3) := by decide +kernel
theorem dX5_number_37 : decode cX5_number 37 = .ok (.iconst 1, 1) := by decide +kernel
theorem dX5_number_38 : decode cX5_number 38 = .ok (.iadd, 1) := by decide +kernel
theorem dX5_number_39 : decode cX5_number 39 = .ok (.putfield 53, 3) := by decide +kernel
theorem dX5_number_42 : decode cX5_number 42 = .ok (.iinc 2 1, 3) := by decide +kernel
theorem dX5_number_45 : decode cX5_number 45 = .ok (.goto (-41), 3) := by decide +kernel
theorem dX5_number_48 : decode cX5_number 48 = .ok (.iload_n 1, 1) := by decide +kernel
theorem dX5_number_49 : decode cX5_number 49 = .ok (.ireturn, 1) := by decide +kernel
theorem dX6_init_0 : decode cX6_init 0 = .ok (.aload_n 0, 1) := by decide +kernel
theorem dX6_init_1 : decode cX6_init 1 = .ok (.invokespecial 3, 3) := by decide +kernel
theorem dX6_init_4 : decode cX6_init 4 = .ok (.aload_n 0, 1) := by decide +kernel
theorem dX6_init_5 : decode cX6_init 5 = .ok (.bipush 20, 2) := by decide +kernel
theorem dX6_init_7 : decode cX6_init 7 = .ok (.newarray .int, 2) := by decide +kernel
theorem dX6_init_9 : decode cX6_init 9 = .ok (.putfield 9, 3) := by decide +kernel
theorem dX6_init_12 : decode cX6_init 12 = .ok (.aload_n 0, 1) := by decide +kernel
theorem dX6_init_13 : decode cX6_init 13 = .ok (.bipush 20, 2) := by decide +kernel
theorem dX6_init_15 : decode cX6_init 15 = .ok (.newarray .int, 2) := by decide +kernel
theorem dX6_init_17 : decode cX6_init 17 = .ok (.putfield 15, 3) := by decide +kernel
theorem dX6_init_20 : decode cX6_init 20 = .ok (.aload_n 0, 1) := by decide +kernel
theorem dX6_init_21 : decode cX6_init 21 = .ok (.bipush 20, 2) := by decide +kernel
theorem dX6_init_23 : decode cX6_init 23 = .ok (.newarray .int, 2) := by decide +kernel
theorem dX6_init_25 : decode cX6_init 25 = .ok (.putfield 18, 3) := by decide +kernel
theorem dX6_init_28 : decode cX6_init 28 = .ok (.aload_n 0, 1) := by decide +kernel
theorem dX6_init_29 : decode cX6_init 29 = .ok (.bipush 20, 2) := by decide +kernel
theorem dX6_init_31 : decode cX6_init 31 = .ok (.newarray .int, 2) := by decide +kernel
theorem dX6_init_33 : decode cX6_init 33 = .ok (.putfield 21, 3) := by decide +kernel
theorem dX6_init_36 : decode cX6_init 36 = .ok (.return_, 1) := by decide +kernel
theorem dX6_has_0 : decode cX6_has 0 = .ok (.iload_n 1, 1) := by decide +kernel
theorem dX6_has_1 : decode cX6_has 1 = .ok (.ifCond .lt 15, 3) := by decide +kernel
theorem dX6_has_4 : decode cX6_has 4 = .ok (.iload_n 1, 1) := by decide +kernel
theorem dX6_has_5 : decode cX6_has 5 = .ok (.aload_n 0, 1) := by decide +kernel
theorem dX6_has_6 : decode cX6_has 6 = .ok (.getfield 24, 3) := by decide +kernel
theorem dX6_has_9 : decode cX6_has 9 = .ok (.if_icmp .ge 7, 3) := by decide +kernel
theorem dX6_has_12 : decode cX6_has 12 = .ok (.iconst 1, 1) := by decide +kernel
theorem dX6_has_13 : decode cX6_has 13 = .ok (.goto 4, 3) := by decide +kernel
theorem dX6_has_16 : decode cX6_has 16 = .ok (.iconst 0, 1) := by decide +kernel
theorem dX6_has_17 : decode cX6_has 17 = .ok (.ireturn, 1) := by decide +kernel
theorem dX6_come_0 : decode cX6_come 0 = .ok (.aload_n 0, 1) := by decide +kernel
theorem dX6_come_1 : decode cX6_come 1 = .ok (.getfield 24, 3) := by decide +kernel
theorem dX6_come_4 : decode cX6_come 4 = .ok (.bipush 20, 2) := by decide +kernel
theorem dX6_come_6 : decode cX6_come 6 = .ok (.if_icmp .lt 6, 3) := by decide +kernel
theorem dX6_come_9 : decode cX6_come 9 = .ok (.bipush (-3), 2) := by decide +kernel
theorem dX6_come_11 : decode cX6_come 11 = .ok (.ireturn, 1) := by decide +kernel
theorem dX6_come_12 : decode cX6_come 12 = .ok (.aload_n 0, 1) := by decide +kernel
theorem dX6_come_13 : decode cX6_come 13 = .ok (.getfield 9, 3) := by decide +kernel
theorem dX6_come_16 : decode cX6_come 16 = .ok (.aload_n 0, 1) := by decide +kernel
theorem dX6_come_17 : decode cX6_come 17 = .ok (.getfield 24, 3) := by decide +kernel
theorem dX6_come_20 : decode cX6_come 20 = .ok (.iload_n 1, 1) := by decide +kernel
theorem dX6_come_21 : decode cX6_come 21 = .ok (.iastore, 1) := by decide +kernel
theorem dX6_come_22 : decode cX6_come 22 = .ok (.aload_n 0, 1) := by decide +kernel
theorem dX6_come_23 : decode cX6_come 23 = .ok (.getfield 15, 3) := by decide +kernel
theorem dX6_come_26 : decode cX6_come 26 = .ok (.aload_n 0, 1) := by decide +kernel
theorem dX6_come_27 : decode cX6_come 27 = .ok (.getfield 24, 3) := by decide +kernel
theorem dX6_come_30 : decode cX6_come 30 = .ok (.iload_n 2, 1) := by decide +kernel
theorem dX6_come_31 : decode cX6_come 31 = .ok (.iastore, 1) := by decide +kernel
theorem dX6_come_32 : decode cX6_come 32 = .ok (.aload_n 0, 1) := by decide +kernel
theorem dX6_come_33 : decode cX6_come 33 = .ok (.getfield 18, 3) := by decide +kernel
theorem dX6_come_36 : decode cX6_come 36 = .ok (.aload_n 0, 1) := by decide +kernel
theorem dX6_come_37 : decode cX6_come 37 = .ok (.getfield 24, 3) := by decide +kernel
theorem dX6_come_40 : decode cX6_come 40 = .ok (.iload_n 3, 1) := by decide +kernel
theorem dX6_come_41 : decode cX6_come 41 = .ok (.iastore, 1) := by decide +kernel
theorem dX6_come_42 : decode cX6_come 42 = .ok (.aload_n 0, 1) := by decide +kernel
theorem dX6_come_43 : decode cX6_come 43 = .ok (.getfield 21, 3) := by decide +kernel
theorem dX6_come_46 : decode cX6_come 46 = .ok (.aload_n 0, 1) := by decide +kernel
theorem dX6_come_47 : decode cX6_come 47 = .ok (.getfield 24, 3) := by decide +kernel
theorem dX6_come_50 : decode cX6_come 50 = .ok (.iload 4, 2) := by decide +kernel
theorem dX6_come_52 : decode cX6_come 52 = .ok (.iastore, 1) := by decide +kernel
theorem dX6_come_53 : decode cX6_come 53 = .ok (.aload_n 0, 1) := by decide +kernel
theorem dX6_come_54 : decode cX6_come 54 = .ok (.dup, 1) := by decide +kernel
theorem dX6_come_55 : decode cX6_come 55 = .ok (.getfield 24, 3) := by decide +kernel
theorem dX6_come_58 : decode cX6_come 58 = .ok (.dup_x1, 1) := by decide +kernel
theorem dX6_come_59 : decode cX6_come 59 = .ok (.iconst 1, 1) := by decide +kernel
theorem dX6_come_60 : decode cX6_come 60 = .ok (.iadd, 1) := by decide +kernel
theorem dX6_come_61 : decode cX6_come 61 = .ok (.putfield 24, 3) := by decide +kernel
theorem dX6_come_64 : decode cX6_come 64 = .ok (.ireturn, 1) := by decide +kernel
theorem dX6_formThen_0 : decode cX6_formThen 0 = .ok (.sipush 600, 3) := by decide +kernel
theorem dX6_formThen_3 : decode cX6_formThen 3 = .ok (.aload_n 0, 1) := by decide +kernel
theorem dX6_formThen_4 : decode cX6_formThen 4 = .ok (.getfield 9, 3) := by decide +kernel
theorem dX6_formThen_7 : decode cX6_formThen 7 = .ok (.iload_n 1, 1) := by decide +kernel
theorem dX6_formThen_8 : decode cX6_formThen 8 = .ok (.iaload, 1) := by decide +kernel
theorem dX6_formThen_9 : decode cX6_formThen 9 = .ok (.aload_n 0, 1) := by decide +kernel
theorem dX6_formThen_10 : decode cX6_formThen 10 = .ok (.getfield 15, 3) := by decide +kernel
theorem dX6_formThen_13 : decode cX6_formThen 13 = .ok (.iload_n 1, 1) := by decide +kernel
theorem dX6_formThen_14 : decode cX6_formThen 14 = .ok (.iaload, 1) := by decide +kernel
theorem dX6_formThen_15 : decode cX6_formThen 15 = .ok (.iload_n 2, 1) := by decide +kernel
theorem dX6_formThen_16 : decode cX6_formThen 16 = .ok (.imul, 1) := by decide +kernel
theorem dX6_formThen_17 : decode cX6_formThen 17 = .ok (.iadd, 1) := by decide +kernel
theorem dX6_formThen_18 : decode cX6_formThen 18 = .ok (.invokestatic 28, 3) := by decide +kernel
theorem dX6_formThen_21 : decode cX6_formThen 21 = .ok (.ireturn, 1) := by decide +kernel
theorem dX6_ahead_0 : decode cX6_ahead 0 = .ok (.iconst 0, 1) := by decide +kernel
theorem dX6_ahead_1 : decode cX6_ahead 1 = .ok (.istore_n 3, 1) := by decide +kernel
theorem dX6_ahead_2 : decode cX6_ahead 2 = .ok (.aload_n 0, 1) := by decide +kernel
theorem dX6_ahead_3 : decode cX6_ahead 3 = .ok (.iload_n 1, 1) := by decide +kernel
theorem dX6_ahead_4 : decode cX6_ahead 4 = .ok (.iload_n 2, 1) := by decide +kernel
theorem dX6_ahead_5 : decode cX6_ahead 5 = .ok (.invokevirtual 34, 3) := by decide +kernel
theorem dX6_ahead_8 : decode cX6_ahead 8 = .ok (.istore 4, 2) := by decide +kernel
theorem dX6_ahead_10 : decode cX6_ahead 10 = .ok (.iconst 0, 1) := by decide +kernel
theorem dX6_ahead_11 : decode cX6_ahead 11 = .ok (.istore 5, 2) := by decide +kernel
theorem dX6_ahead_13 : decode cX6_ahead 13 = .ok (.iload 5, 2) := by decide +kernel
theorem dX6_ahead_15 : decode cX6_ahead 15 = .ok (.aload_n 0, 1) := by decide +kernel
theorem dX6_ahead_16 : decode cX6_ahead 16 = .ok (.getfield 24, 3) := by decide +kernel
theorem dX6_ahead_19 : decode cX6_ahead 19 = .ok (.if_icmp .ge 24, 3) := by decide +kernel
theorem dX6_ahead_22 : decode cX6_ahead 22 = .ok (.aload_n 0, 1) := by decide +kernel
theorem dX6_ahead_23 : decode cX6_ahead 23 = .ok (.iload 5, 2) := by decide +kernel
theorem dX6_ahead_25 : decode cX6_ahead 25 = .ok (.iload_n 2, 1) := by decide +kernel
theorem dX6_ahead_26 : decode cX6_ahead 26 = .ok (.invokevirtual 34, 3) := by decide +kernel
theorem dX6_ahead_29 : decode cX6_ahead 29 = .ok (.iload 4, 2) := by decide +kernel
theorem dX6_ahead_31 : decode cX6_ahead 31 = .ok (.if_icmp .ge 6, 3) := by decide +kernel
theorem dX6_ahead_34 : decode cX6_ahead 34 = .ok (.iinc 3 1, 3) := by decide +kernel
theorem dX6_ahead_37 : decode cX6_ahead 37 = .ok (.iinc 5 1, 3) := by decide +kernel
theorem dX6_ahead_40 : decode cX6_ahead 40 = .ok (.goto (-27), 3) := by decide +kernel
theorem dX6_ahead_43 : decode cX6_ahead 43 = .ok (.iload_n 3, 1) := by decide +kernel
theorem dX6_ahead_44 : decode cX6_ahead 44 = .ok (.ireturn, 1) := by decide +kernel
theorem dX7_init_0 : decode cX7_init 0 = .ok (.aload_n 0, 1) := by decide +kernel
theorem dX7_init_1 : decode cX7_init 1 = .ok (.invokespecial 3, 3) := by decide +kernel
theorem dX7_init_4 : decode cX7_init 4 = .ok (.aload_n 0, 1) := by decide +kernel
theorem dX7_init_5 : decode cX7_init 5 = .ok (.bipush 120, 2) := by decide +kernel
theorem dX7_init_7 : decode cX7_init 7 = .ok (.newarray .int, 2) := by decide +kernel
theorem dX7_init_9 : decode cX7_init 9 = .ok (.putfield 9, 3) := by decide +kernel
theorem dX7_init_12 : decode cX7_init 12 = .ok (.aload_n 0, 1) := by decide +kernel
theorem dX7_init_13 : decode cX7_init 13 = .ok (.bipush 120, 2) := by decide +kernel
theorem dX7_init_15 : decode cX7_init 15 = .ok (.newarray .int, 2) := by decide +kernel
theorem dX7_init_17 : decode cX7_init 17 = .ok (.putfield 15, 3) := by decide +kernel
theorem dX7_init_20 : decode cX7_init 20 = .ok (.aload_n 0, 1) := by decide +kernel
theorem dX7_init_21 : decode cX7_init 21 = .ok (.bipush 120, 2) := by decide +kernel
theorem dX7_init_23 : decode cX7_init 23 = .ok (.newarray .int, 2) := by decide +kernel
theorem dX7_init_25 : decode cX7_init 25 = .ok (.putfield 18, 3) := by decide +kernel
theorem dX7_init_28 : decode cX7_init 28 = .ok (.aload_n 0, 1) := by decide +kernel
theorem dX7_init_29 : decode cX7_init 29 = .ok (.bipush 120, 2) := by decide +kernel
theorem dX7_init_31 : decode cX7_init 31 = .ok (.newarray .int, 2) := by decide +kernel
theorem dX7_init_33 : decode cX7_init 33 = .ok (.putfield 21, 3) := by decide +kernel
theorem dX7_init_36 : decode cX7_init 36 = .ok (.aload_n 0, 1) := by decide +kernel
theorem dX7_init_37 : decode cX7_init 37 = .ok (.bipush 120, 2) := by decide +kernel
theorem dX7_init_39 : decode cX7_init 39 = .ok (.newarray .int, 2) := by decide +kernel
theorem dX7_init_41 : decode cX7_init 41 = .ok (.putfield 24, 3) := by decide +kernel
theorem dX7_init_44 : decode cX7_init 44 = .ok (.aload_n 0, 1) := by decide +kernel
theorem dX7_init_45 : decode cX7_init 45 = .ok (.bipush 120, 2) := by decide +kernel
theorem dX7_init_47 : decode cX7_init 47 = .ok (.newarray .int, 2) := by decide +kernel
theorem dX7_init_49 : decode cX7_init 49 = .ok (.putfield 27, 3) := by decide +kernel
theorem dX7_init_52 : decode cX7_init 52 = .ok (.aload_n 0, 1) := by decide +kernel
theorem dX7_init_53 : decode cX7_init 53 = .ok (.bipush 120, 2) := by decide +kernel
theorem dX7_init_55 : decode cX7_init 55 = .ok (.newarray .int, 2) := by decide +kernel
theorem dX7_init_57 : decode cX7_init 57 = .ok (.putfield 30, 3) := by decide +kernel
theorem dX7_init_60 : decode cX7_init 60 = .ok (.aload_n 0, 1) := by decide +kernel
theorem dX7_init_61 : decode cX7_init 61 = .ok (.bipush 120, 2) := by decide +kernel
theorem dX7_init_63 : decode cX7_init 63 = .ok (.newarray .int, 2) := by decide +kernel
theorem dX7_init_65 : decode cX7_init 65 = .ok (.putfield 33, 3) := by decide +kernel
theorem dX7_init_68 : decode cX7_init 68 = .ok (.aload_n 0, 1) := by decide +kernel
theorem dX7_init_69 : decode cX7_init 69 = .ok (.aload_n 1, 1) := by decide +kernel
theorem dX7_init_70 : decode cX7_init 70 = .ok (.putfield 36, 3) := by decide +kernel
theorem dX7_init_73 : decode cX7_init 73 = .ok (.aload_n 0, 1) := by decide +kernel
theorem dX7_init_74 : decode cX7_init 74 = .ok (.aload_n 2, 1) := by decide +kernel
theorem dX7_init_75 : decode cX7_init 75 = .ok (.putfield 40, 3) := by decide +kernel
theorem dX7_init_78 : decode cX7_init 78 = .ok (.return_, 1) := by decide +kernel
theorem dX7_has_0 : decode cX7_has 0 = .ok (.iload_n 1, 1) := by decide +kernel
theorem dX7_has_1 : decode cX7_has 1 = .ok (.ifCond .lt 15, 3) := by decide +kernel
theorem dX7_has_4 : decode cX7_has 4 = .ok (.iload_n 1, 1) := by decide +kernel
theorem dX7_has_5 : decode cX7_has 5 = .ok (.aload_n 0, 1) := by decide +kernel
theorem dX7_has_6 : decode cX7_has 6 = .ok (.getfield 44, 3) := by decide +kernel
theorem dX7_has_9 : decode cX7_has 9 = .ok (.if_icmp .ge 7, 3) := by decide +kernel
theorem dX7_has_12 : decode cX7_has 12 = .ok (.iconst 1, 1) := by decide +kernel
theorem dX7_has_13 : decode cX7_has 13 = .ok (.goto 4, 3) := by decide +kernel
theorem dX7_has_16 : decode cX7_has 16 = .ok (.iconst 0, 1) := by decide +kernel
theorem dX7_has_17 : decode cX7_has 17 = .ok (.ireturn, 1) := by decide +kernel
theorem dX7_come_0 : decode cX7_come 0 = .ok (.aload_n 0, 1) := by decide +kernel
theorem dX7_come_1 : decode cX7_come 1 = .ok (.getfield 44, 3) := by decide +kernel
theorem dX7_come_4 : decode cX7_come 4 = .ok (.bipush 120, 2) := by decide +kernel
theorem dX7_come_6 : decode cX7_come 6 = .ok (.if_icmp .lt 6, 3) := by decide +kernel
theorem dX7_come_9 : decode cX7_come 9 = .ok (.bipush (-3), 2) := by decide +kernel
theorem dX7_come_11 : decode cX7_come 11 = .ok (.ireturn, 1) := by decide +kernel
theorem dX7_come_12 : decode cX7_come 12 = .ok (.aload_n 0, 1) := by decide +kernel
theorem dX7_come_13 : decode cX7_come 13 = .ok (.getfield 44, 3) := by decide +kernel
theorem dX7_come_16 : decode cX7_come 16 = .ok (.istore 6, 2) := by decide +kernel
theorem dX7_come_18 : decode cX7_come 18 = .ok (.aload_n 0, 1) := by decide +kernel
theorem dX7_come_19 : decode cX7_come 19 = .ok (.getfield 9, 3) := by decide +kernel
theorem dX7_come_22 : decode cX7_come 22 = .ok (.iload 6, 2) := by decide +kernel
theorem dX7_come_24 : decode cX7_come 24 = .ok (.iload_n 1, 1) := by decide +kernel
theorem dX7_come_25 : decode cX7_come 25 = .ok (.iastore, 1) := by decide +kernel
theorem dX7_come_26 : decode cX7_come 26 = .ok (.aload_n 0, 1) := by decide +kernel
theorem dX7_come_27 : decode cX7_come 27 = .ok (.getfield 15, 3) := by decide +kernel
theorem dX7_come_30 : decode cX7_come 30 = .ok (.iload 6, 2) := by decide +kernel
theorem dX7_come_32 : decode cX7_come 32 = .ok (.iload_n 2, 1) := by decide +kernel
theorem dX7_come_33 : decode cX7_come 33 = .ok (.iastore, 1) := by decide +kernel
theorem dX7_come_34 : decode cX7_come 34 = .ok (.aload_n 0, 1) := by decide +kernel
theorem dX7_come_35 : decode cX7_come 35 = .ok (.getfield 18, 3) := by decide +kernel
theorem dX7_come_38 : decode cX7_come 38 = .ok (.iload 6, 2) := by decide +kernel
theorem dX7_come_40 : decode cX7_come 40 = .ok (.iload_n 3, 1) := by decide +kernel
theorem dX7_come_41 : decode cX7_come 41 = .ok (.iastore, 1) := by decide +kernel
theorem dX7_come_42 : decode cX7_come 42 = .ok (.aload_n 0, 1) := by decide +kernel
theorem dX7_come_43 : decode cX7_come 43 = .ok (.getfield 21, 3) := by decide +kernel
theorem dX7_come_46 : decode cX7_come 46 = .ok (.iload 6, 2) := by decide +kernel
theorem dX7_come_48 : decode cX7_come 48 = .ok (.iload 4, 2) := by decide +kernel
theorem dX7_come_50 : decode cX7_come 50 = .ok (.iastore, 1) := by decide +kernel
theorem dX7_come_51 : decode cX7_come 51 = .ok (.aload_n 0, 1) := by decide +kernel
theorem dX7_come_52 : decode cX7_come 52 = .ok (.getfield 24, 3) := by decide +kernel
theorem dX7_come_55 : decode cX7_come 55 = .ok (.iload 6, 2) := by decide +kernel
theorem dX7_come_57 : decode cX7_come 57 = .ok (.iload 5, 2) := by decide +kernel
theorem dX7_come_59 : decode cX7_come 59 = .ok (.iastore, 1) := by decide +kernel
theorem dX7_come_60 : decode cX7_come 60 = .ok (.aload_n 0, 1) := by decide +kernel
theorem dX7_come_61 : decode cX7_come 61 = .ok (.aload_n 0, 1) := by decide +kernel
theorem dX7_come_62 : decode cX7_come 62 = .ok (.getfield 27, 3) := by decide +kernel
theorem dX7_come_65 : decode cX7_come 65 = .ok (.aload_n 0, 1) := by decide +kernel
theorem dX7_come_66 : decode cX7_come 66 = .ok (.getfield 9, 3) := by decide +kernel
theorem dX7_come_69 : decode cX7_come 69 = .ok (.iload 6, 2) := by decide +kernel
theorem dX7_come_71 : decode cX7_come 71 = .ok (.invokevirtual 48, 3) := by decide +kernel
theorem dX7_come_74 : decode cX7_come 74 = .ok (.aload_n 0, 1) := by decide +kernel
theorem dX7_come_75 : decode cX7_come 75 = .ok (.aload_n 0, 1) := by decide +kernel
theorem dX7_come_76 : decode cX7_come 76 = .ok (.getfield 30, 3) := by decide +kernel
theorem dX7_come_79 : decode cX7_come 79 = .ok (.aload_n 0, 1) := by decide +kernel
theorem dX7_come_80 : decode cX7_come 80 = .ok (.getfield 15, 3) := by decide +kernel
theorem dX7_come_83 : decode cX7_come 83 = .ok (.iload 6, 2) := by decide +kernel
theorem dX7_come_85 : decode cX7_come 85 = .ok (.invokevirtual 48, 3) := by decide +kernel
theorem dX7_come_88 : decode cX7_come 88 = .ok (.aload_n 0, 1) := by decide +kernel
theorem dX7_come_89 : decode cX7_come 89 = .ok (.dup, 1) := by decide +kernel
theorem dX7_come_90 : decode cX7_come 90 = .ok (.getfield 44, 3) := by decide +kernel
theorem dX7_come_93 : decode cX7_come 93 = .ok (.iconst 1, 1) := by decide +kernel
theorem dX7_come_94 : decode cX7_come 94 = .ok (.iadd, 1) := by decide +kernel
theorem dX7_come_95 : decode cX7_come 95 = .ok (.putfield 44, 3) := by decide +kernel
theorem dX7_come_98 : decode cX7_come 98 = .ok (.iload 6, 2) := by decide +kernel
theorem dX7_come_100 : decode cX7_come 100 = .ok (.ireturn, 1) := by decide +kernel
theorem dX7_enter_0 : decode cX7_enter 0 = .ok (.iload_n 3, 1) := by decide +kernel
theorem dX7_enter_1 : decode cX7_enter 1 = .ok (.istore 4, 2) := by decide +kernel
theorem dX7_enter_3 : decode cX7_enter 3 = .ok (.iload 4, 2) := by decide +kernel
theorem dX7_enter_5 : decode cX7_enter 5 = .ok (.ifCond .le 34, 3) := by decide +kernel
theorem dX7_enter_8 : decode cX7_enter 8 = .ok (.aload_n 0, 1) := by decide +kernel
theorem dX7_enter_9 : decode cX7_enter 9 = .ok (.aload_n 1, 1) := by decide +kernel
theorem dX7_enter_10 : decode cX7_enter 10 = .ok (.iload 4, 2) := by decide +kernel
theorem dX7_enter_12 : decode cX7_enter 12 = .ok (.iconst 1, 1) := by decide +kernel
theorem dX7_enter_13 : decode cX7_enter 13 = .ok (.isub, 1) := by decide +kernel
theorem dX7_enter_14 : decode cX7_enter 14 = .ok (.iaload, 1) := by decide +kernel
theorem dX7_enter_15 : decode cX7_enter 15 = .ok (.iload_n 3, 1) := by decide +kernel
theorem dX7_enter_16 : decode cX7_enter 16 = .ok (.aload_n 2, 1) := by decide +kernel
theorem dX7_enter_17 : decode cX7_enter 17 = .ok (.invokevirtual 52, 3) := by decide +kernel
theorem dX7_enter_20 : decode cX7_enter 20 = .ok (.ifCond .eq 19, 3) := by decide +kernel
theorem dX7_enter_23 : decode cX7_enter 23 = .ok (.aload_n 1, 1) := by decide +kernel
theorem dX7_enter_24 : decode cX7_enter 24 = .ok (.iload 4, 2) := by decide +kernel
theorem dX7_enter_26 : decode cX7_enter 26 = .ok (.aload_n 1, 1) := by decide +kernel
theorem dX7_enter_27 : decode cX7_enter 27 = .ok (.iload 4, 2) := by decide +kernel
theorem dX7_enter_29 : decode cX7_enter 29 = .ok (.iconst 1, 1) := by decide +kernel
theorem dX7_enter_30 : decode cX7_enter 30 = .ok (.isub, 1) := by decide +kernel
theorem dX7_enter_31 : decode cX7_enter 31 = .ok (.iaload, 1) := by decide +kernel
theorem dX7_enter_32 : decode cX7_enter 32 = .ok (.iastore, 1) := by decide +kernel
theorem dX7_enter_33 : decode cX7_enter 33 = .ok (.iinc 4 (-1), 3) := by decide +kernel
theorem dX7_enter_36 : decode cX7_enter 36 = .ok (.goto (-33), 3) := by decide +kernel
theorem dX7_enter_39 : decode cX7_enter 39 = .ok (.aload_n 1, 1) := by decide +kernel
theorem dX7_enter_40 : decode cX7_enter 40 = .ok (.iload 4, 2) := by decide +kernel
theorem dX7_enter_42 : decode cX7_enter 42 = .ok (.iload_n 3, 1) := by decide +kernel
theorem dX7_enter_43 : decode cX7_enter 43 = .ok (.iastore, 1) := by decide +kernel
theorem dX7_enter_44 : decode cX7_enter 44 = .ok (.return_, 1) := by decide +kernel
theorem dX7_isBehind_0 : decode cX7_isBehind 0 = .ok (.aload_n 3, 1) := by decide +kernel
theorem dX7_isBehind_1 : decode cX7_isBehind 1 = .ok (.iload_n 1, 1) := by decide +kernel
theorem dX7_isBehind_2 : decode cX7_isBehind 2 = .ok (.iaload, 1) := by decide +kernel
theorem dX7_isBehind_3 : decode cX7_isBehind 3 = .ok (.aload_n 3, 1) := by decide +kernel
theorem dX7_isBehind_4 : decode cX7_isBehind 4 = .ok (.iload_n 2, 1) := by decide +kernel
theorem dX7_isBehind_5 : decode cX7_isBehind 5 = .ok (.iaload, 1) := by decide +kernel
theorem dX7_isBehind_6 : decode cX7_isBehind 6 = .ok (.if_icmp .eq 18, 3) := by decide +kernel
theorem dX7_isBehind_9 : decode cX7_isBehind 9 = .ok (.aload_n 3, 1) := by decide +kernel
theorem dX7_isBehind_10 : decode cX7_isBehind 10 = .ok (.iload_n 1, 1) := by decide +kernel
theorem dX7_isBehind_11 : decode cX7_isBehind 11 = .ok (.iaload, 1) := by decide +kernel
theorem dX7_isBehind_12 : decode cX7_isBehind 12 = .ok (.aload_n 3, 1) := by decide +kernel
theorem dX7_isBehind_13 : decode cX7_isBehind 13 = .ok (.iload_n 2, 1) := by decide +kernel
theorem dX7_isBehind_14 : decode cX7_isBehind 14 = .ok (.iaload, 1) := by decide +kernel
theorem dX7_isBehind_15 : decode cX7_isBehind 15 = .ok (.if_icmp .le 7, 3) := by decide +kernel
theorem dX7_isBehind_18 : decode cX7_isBehind 18 = .ok (.iconst 1, 1) := by decide +kernel
theorem dX7_isBehind_19 : decode cX7_isBehind 19 = .ok (.goto 4, 3) := by decide +kernel
theorem dX7_isBehind_22 : decode cX7_isBehind 22 = .ok (.iconst 0, 1) := by decide +kernel
theorem dX7_isBehind_23 : decode cX7_isBehind 23 = .ok (.ireturn, 1) := by decide +kernel
theorem dX7_isBehind_24 : decode cX7_isBehind 24 = .ok (.aload_n 0, 1) := by decide +kernel
theorem dX7_isBehind_25 : decode cX7_isBehind 25 = .ok (.getfield 18, 3) := by decide +kernel
theorem dX7_isBehind_28 : decode cX7_isBehind 28 = .ok (.iload_n 1, 1) := by decide +kernel
theorem dX7_isBehind_29 : decode cX7_isBehind 29 = .ok (.iaload, 1) := by decide +kernel
theorem dX7_isBehind_30 : decode cX7_isBehind 30 = .ok (.aload_n 0, 1) := by decide +kernel
theorem dX7_isBehind_31 : decode cX7_isBehind 31 = .ok (.getfield 18, 3) := by decide +kernel
theorem dX7_isBehind_34 : decode cX7_isBehind 34 = .ok (.iload_n 2, 1) := by decide +kernel
theorem dX7_isBehind_35 : decode cX7_isBehind 35 = .ok (.iaload, 1) := by decide +kernel
theorem dX7_isBehind_36 : decode cX7_isBehind 36 = .ok (.if_icmp .le 7, 3) := by decide +kernel
theorem dX7_isBehind_39 : decode cX7_isBehind 39 = .ok (.iconst 1, 1) := by decide +kernel
theorem dX7_isBehind_40 : decode cX7_isBehind 40 = .ok (.goto 4, 3) := by decide +kernel
theorem dX7_isBehind_43 : decode cX7_isBehind 43 = .ok (.iconst 0, 1) := by decide +kernel
theorem dX7_isBehind_44 : decode cX7_isBehind 44 = .ok (.ireturn, 1) := by decide +kernel
theorem dX7_isSeen_0 : decode cX7_isSeen 0 = .ok (.aload_n 0, 1) := by decide +kernel
theorem dX7_isSeen_1 : decode cX7_isSeen 1 = .ok (.getfield 36, 3) := by decide +kernel
theorem dX7_isSeen_4 : decode cX7_isSeen 4 = .ok (.aload_n 0, 1) := by decide +kernel
theorem dX7_isSeen_5 : decode cX7_isSeen 5 = .ok (.getfield 24, 3) := by decide +kernel
theorem dX7_isSeen_8 : decode cX7_isSeen 8 = .ok (.iload_n 1, 1) := by decide +kernel
theorem dX7_isSeen_9 : decode cX7_isSeen 9 = .ok (.iaload, 1) := by decide +kernel
theorem dX7_isSeen_10 : decode cX7_isSeen 10 = .ok (.invokevirtual 56, 3) := by decide +kernel
theorem dX7_isSeen_13 : decode cX7_isSeen 13 = .ok (.ireturn, 1) := by decide +kernel
theorem dX7_isNew_0 : decode cX7_isNew 0 = .ok (.aload_n 0, 1) := by decide +kernel
theorem dX7_isNew_1 : decode cX7_isNew 1 = .ok (.iload_n 1, 1) := by decide +kernel
theorem dX7_isNew_2 : decode cX7_isNew 2 = .ok (.invokevirtual 62, 3) := by decide +kernel
theorem dX7_isNew_5 : decode cX7_isNew 5 = .ok (.ifCond .eq 24, 3) := by decide +kernel
theorem dX7_isNew_8 : decode cX7_isNew 8 = .ok (.aload_n 0, 1) := by decide +kernel
theorem dX7_isNew_9 : decode cX7_isNew 9 = .ok (.getfield 36, 3) := by decide +kernel
theorem dX7_isNew_12 : decode cX7_isNew 12 = .ok (.getfield 65, 3) := by decide +kernel
theorem dX7_isNew_15 : decode cX7_isNew 15 = .ok (.aload_n 0, 1) := by decide +kernel
theorem dX7_isNew_16 : decode cX7_isNew 16 = .ok (.getfield 24, 3) := by decide +kernel
theorem dX7_isNew_19 : decode cX7_isNew 19 = .ok (.iload_n 1, 1) := by decide +kernel
theorem dX7_isNew_20 : decode cX7_isNew 20 = .ok (.iaload, 1) := by decide +kernel
theorem dX7_isNew_21 : decode cX7_isNew 21 = .ok (.iaload, 1) := by decide +kernel
theorem dX7_isNew_22 : decode cX7_isNew 22 = .ok (.ifCond .le 7, 3) := by decide +kernel
theorem dX7_isNew_25 : decode cX7_isNew 25 = .ok (.iconst 1, 1) := by decide +kernel
theorem dX7_isNew_26 : decode cX7_isNew 26 = .ok (.goto 4, 3) := by decide +kernel
theorem dX7_isNew_29 : decode cX7_isNew 29 = .ok (.iconst 0, 1) := by decide +kernel
theorem dX7_isNew_30 : decode cX7_isNew 30 = .ok (.ireturn, 1) := by decide +kernel
theorem dX7_isOfRace_0 : decode cX7_isOfRace 0 = .ok (.aload_n 0, 1) := by decide +kernel
theorem dX7_isOfRace_1 : decode cX7_isOfRace 1 = .ok (.getfield 15, 3) := by decide +kernel
theorem dX7_isOfRace_4 : decode cX7_isOfRace 4 = .ok (.iload_n 1, 1) := by decide +kernel
theorem dX7_isOfRace_5 : decode cX7_isOfRace 5 = .ok (.iaload, 1) := by decide +kernel
theorem dX7_isOfRace_6 : decode cX7_isOfRace 6 = .ok (.iload_n 2, 1) := by decide +kernel
theorem dX7_isOfRace_7 : decode cX7_isOfRace 7 = .ok (.if_icmp .ne 17, 3) := by decide +kernel
theorem dX7_isOfRace_10 : decode cX7_isOfRace 10 = .ok (.aload_n 0, 1) := by decide +kernel
theorem dX7_isOfRace_11 : decode cX7_isOfRace 11 = .ok (.getfield 18, 3) := by decide +kernel
theorem dX7_isOfRace_14 : decode cX7_isOfRace 14 = .ok (.iload_n 1, 1) := by decide +kernel
theorem dX7_isOfRace_15 : decode cX7_isOfRace 15 = .ok (.iaload, 1) := by decide +kernel
theorem dX7_isOfRace_16 : decode cX7_isOfRace 16 = .ok (.iload_n 3, 1) := by decide +kernel
theorem dX7_isOfRace_17 : decode cX7_isOfRace 17 = .ok (.if_icmp .ne 7, 3) := by decide +kernel
theorem dX7_isOfRace_20 : decode cX7_isOfRace 20 = .ok (.iconst 1, 1) := by decide +kernel
theorem dX7_isOfRace_21 : decode cX7_isOfRace 21 = .ok (.goto 4, 3) := by decide +kernel
theorem dX7_isOfRace_24 : decode cX7_isOfRace 24 = .ok (.iconst 0, 1) := by decide +kernel
theorem dX7_isOfRace_25 : decode cX7_isOfRace 25 = .ok (.ireturn, 1) := by decide +kernel
theorem dX7_level_0 : decode cX7_level 0 = .ok (.aload_n 0, 1) := by decide +kernel
theorem dX7_level_1 : decode cX7_level 1 = .ok (.getfield 21, 3) := by decide +kernel
theorem dX7_level_4 : decode cX7_level 4 = .ok (.iload_n 1, 1) := by decide +kernel
theorem dX7_level_5 : decode cX7_level 5 = .ok (.iaload, 1) := by decide +kernel
theorem dX7_level_6 : decode cX7_level 6 = .ok (.i2l, 1) := by decide +kernel
theorem dX7_level_7 : decode cX7_level 7 = .ok (.ldc2_w 68, 3) := by decide +kernel
theorem dX7_level_10 : decode cX7_level 10 = .ok (.lmul, 1) := by decide +kernel
theorem dX7_level_11 : decode cX7_level 11 = .ok (.aload_n 0, 1) := by decide +kernel
theorem dX7_level_12 : decode cX7_level 12 = .ok (.getfield 40, 3) := by decide +kernel
theorem dX7_level_15 : decode cX7_level 15 = .ok (.getfield 70, 3) := by decide +kernel
theorem dX7_level_18 : decode cX7_level 18 = .ok (.aload_n 0, 1) := by decide +kernel
theorem dX7_level_19 : decode cX7_level 19 = .ok (.getfield 15, 3) := by decide +kernel
theorem dX7_level_22 : decode cX7_level 22 = .ok (.iload_n 1, 1) := by decide +kernel
theorem dX7_level_23 : decode cX7_level 23 = .ok (.iaload, 1) := by decide +kernel
theorem dX7_level_24 : decode cX7_level 24 = .ok (.iaload, 1) := by decide +kernel
theorem dX7_level_25 : decode cX7_level 25 = .ok (.i2l, 1) := by decide +kernel
theorem dX7_level_26 : decode cX7_level 26 = .ok (.invokestatic 75, 3) := by decide +kernel
theorem dX7_level_29 : decode cX7_level 29 = .ok (.ireturn, 1) := by decide +kernel
theorem dX7_oldMinutes_0 : decode cX7_oldMinutes 0 = .ok (.aload_n 0, 1) := by decide +kernel
theorem dX7_oldMinutes_1 : decode cX7_oldMinutes 1 = .ok (.iload_n 1, 1) := by decide +kernel
theorem dX7_oldMinutes_2 : decode cX7_oldMinutes 2 = .ok (.invokevirtual 62, 3) := by decide +kernel
theorem dX7_oldMinutes_5 : decode cX7_oldMinutes 5 = .ok (.ifCond .eq 20, 3) := by decide +kernel
theorem dX7_oldMinutes_8 : decode cX7_oldMinutes 8 = .ok (.aload_n 0, 1) := by decide +kernel
theorem dX7_oldMinutes_9 : decode cX7_oldMinutes 9 = .ok (.getfield 36, 3) := by decide +kernel
theorem dX7_oldMinutes_12 : decode cX7_oldMinutes 12 = .ok (.getfield 65, 3) := by decide +kernel
theorem dX7_oldMinutes_15 : decode cX7_oldMinutes 15 = .ok (.aload_n 0, 1) := by decide +kernel
theorem dX7_oldMinutes_16 : decode cX7_oldMinutes 16 = .ok (.getfield 24, 3) := by decide +kernel
theorem dX7_oldMinutes_19 : decode cX7_oldMinutes 19 = .ok (.iload_n 1, 1) := by decide +kernel
theorem dX7_oldMinutes_20 : decode cX7_oldMinutes 20 = .ok (.iaload, 1) := by decide +kernel
theorem dX7_oldMinutes_21 : decode cX7_oldMinutes 21 = .ok (.iaload, 1) := by decide +kernel
theorem dX7_oldMinutes_22 : decode cX7_oldMinutes 22 = .ok (.goto 4, 3) := by decide +kernel
theorem dX7_oldMinutes_25 : decode cX7_oldMinutes 25 = .ok (.iconst 0, 1) := by decide +kernel
theorem dX7_oldMinutes_26 : decode cX7_oldMinutes 26 = .ok (.istore_n 2, 1) := by decide +kernel
theorem dX7_oldMinutes_27 : decode cX7_oldMinutes 27 = .ok (.aload_n 0, 1) := by decide +kernel
theorem dX7_oldMinutes_28 : decode cX7_oldMinutes 28 = .ok (.getfield 21, 3) := by decide +kernel
theorem dX7_oldMinutes_31 : decode cX7_oldMinutes 31 = .ok (.iload_n 1, 1) := by decide +kernel
theorem dX7_oldMinutes_32 : decode cX7_oldMinutes 32 = .ok (.iaload, 1) := by decide +kernel
theorem dX7_oldMinutes_33 : decode cX7_oldMinutes 33 = .ok (.i2l, 1) := by decide +kernel
theorem dX7_oldMinutes_34 : decode cX7_oldMinutes 34 = .ok (.ldc2_w 68, 3) := by decide +kernel
theorem dX7_oldMinutes_37 : decode cX7_oldMinutes 37 = .ok (.lmul, 1) := by decide +kernel
theorem dX7_oldMinutes_38 : decode cX7_oldMinutes 38 = .ok (.sipush 1000, 3) := by decide +kernel
theorem dX7_oldMinutes_41 : decode cX7_oldMinutes 41 = .ok (.iload_n 2, 1) := by decide +kernel
theorem dX7_oldMinutes_42 : decode cX7_oldMinutes 42 = .ok (.isub, 1) := by decide +kernel
theorem dX7_oldMinutes_43 : decode cX7_oldMinutes 43 = .ok (.i2l, 1) := by decide +kernel
theorem dX7_oldMinutes_44 : decode cX7_oldMinutes 44 = .ok (.invokestatic 75, 3) := by decide +kernel
theorem dX7_oldMinutes_47 : decode cX7_oldMinutes 47 = .ok (.ireturn, 1) := by decide +kernel
theorem dX7_whichInShoe_0 : decode cX7_whichInShoe 0 = .ok (.aload_n 0, 1) := by decide +kernel
theorem dX7_whichInShoe_1 : decode cX7_whichInShoe 1 = .ok (.iload_n 1, 1) := by decide +kernel
theorem dX7_whichInShoe_2 : decode cX7_whichInShoe 2 = .ok (.invokevirtual 62, 3) := by decide +kernel
theorem dX7_whichInShoe_5 : decode cX7_whichInShoe 5 = .ok (.ifCond .ne 5, 3) := by decide +kernel
theorem dX7_whichInShoe_8 : decode cX7_whichInShoe 8 = .ok (.iconst (-1), 1) := by decide +kernel
theorem dX7_whichInShoe_9 : decode cX7_whichInShoe 9 = .ok (.ireturn, 1) := by decide +kernel
theorem dX7_whichInShoe_10 : decode cX7_whichInShoe 10 = .ok (.iconst 0, 1) := by decide +kernel
theorem dX7_whichInShoe_11 : decode cX7_whichInShoe 11 = .ok (.istore_n 2, 1) := by decide +kernel
theorem dX7_whichInShoe_12 : decode cX7_whichInShoe 12 = .ok (.iconst 0, 1) := by decide +kernel
theorem dX7_whichInShoe_13 : decode cX7_whichInShoe 13 = .ok (.istore_n 3, 1) := by decide +kernel
theorem dX7_whichInShoe_14 : decode cX7_whichInShoe 14 = .ok (.iload_n 3, 1) := by decide +kernel
theorem dX7_whichInShoe_15 : decode cX7_whichInShoe 15 = .ok (.aload_n 0, 1) := by decide +kernel
theorem dX7_whichInShoe_16 : decode cX7_whichInShoe 16 = .ok (.getfield 44, 3) := by decide +kernel
theorem dX7_whichInShoe_19 : decode cX7_whichInShoe 19 = .ok (.if_icmp .ge 62, 3) := by decide +kernel
theorem dX7_whichInShoe_22 : decode cX7_whichInShoe 22 = .ok (.aload_n 0, 1) := by decide +kernel
theorem dX7_whichInShoe_23 : decode cX7_whichInShoe 23 = .ok (.getfield 27, 3) := by decide +kernel
theorem dX7_whichInShoe_26 : decode cX7_whichInShoe 26 = .ok (.iload_n 3, 1) := by decide +kernel
theorem dX7_whichInShoe_27 : decode cX7_whichInShoe 27 = .ok (.iaload, 1) := by decide +kernel
theorem dX7_whichInShoe_28 : decode cX7_whichInShoe 28 = .ok (.iload_n 1, 1) := by decide +kernel
theorem dX7_whichInShoe_29 : decode cX7_whichInShoe 29 = .ok (.if_icmp .eq 52, 3) := by decide +kernel
theorem dX7_whichInShoe_32 : decode cX7_whichInShoe 32 = .ok (.aload_n 0, 1) := by decide +kernel
theorem dX7_whichInShoe_33 : decode cX7_whichInShoe 33 = .ok (.getfield 27, 3) := by decide +kernel
theorem dX7_whichInShoe_36 : decode cX7_whichInShoe 36 = .ok (.iload_n 3, 1) := by decide +kernel
theorem dX7_whichInShoe_37 : decode cX7_whichInShoe 37 = .ok (.iaload, 1) := by decide +kernel
theorem dX7_whichInShoe_38 : decode cX7_whichInShoe 38 = .ok (.istore 4, 2) := by decide +kernel
theorem dX7_whichInShoe_40 : decode cX7_whichInShoe 40 = .ok (.aload_n 0, 1) := by decide +kernel
theorem dX7_whichInShoe_41 : decode cX7_whichInShoe 41 = .ok (.getfield 9, 3) := by decide +kernel
theorem dX7_whichInShoe_44 : decode cX7_whichInShoe 44 = .ok (.iload 4, 2) := by decide +kernel
theorem dX7_whichInShoe_46 : decode cX7_whichInShoe 46 = .ok (.iaload, 1) := by decide +kernel
theorem dX7_whichInShoe_47 : decode cX7_whichInShoe 47 = .ok (.aload_n 0, 1) := by decide +kernel
theorem dX7_whichInShoe_48 : decode cX7_whichInShoe 48 = .ok (.getfield 9, 3) := by decide +kernel
theorem dX7_whichInShoe_51 : decode cX7_whichInShoe 51 = .ok (.iload_n 1, 1) := by decide +kernel
theorem dX7_whichInShoe_52 : decode cX7_whichInShoe 52 = .ok (.iaload, 1) := by decide +kernel
theorem dX7_whichInShoe_53 : decode cX7_whichInShoe 53 = .ok (.if_icmp .ne 22, 3) := by decide +kernel
theorem dX7_whichInShoe_56 : decode cX7_whichInShoe 56 = .ok (.aload_n 0, 1) := by decide +kernel
theorem dX7_whichInShoe_57 : decode cX7_whichInShoe 57 = .ok (.getfield 24, 3) := by decide +kernel
theorem dX7_whichInShoe_60 : decode cX7_whichInShoe 60 = .ok (.iload 4, 2) := by decide +kernel
theorem dX7_whichInShoe_62 : decode cX7_whichInShoe 62 = .ok (.iaload, 1) := by decide +kernel
theorem dX7_whichInShoe_63 : decode cX7_whichInShoe 63 = .ok (.aload_n 0, 1) := by decide +kernel
theorem dX7_whichInShoe_64 : decode cX7_whichInShoe 64 = .ok (.getfield 24, 3) := by decide +kernel
theorem dX7_whichInShoe_67 : decode cX7_whichInShoe 67 = .ok (.iload_n 1, 1) := by decide +kernel
theorem dX7_whichInShoe_68 : decode cX7_whichInShoe 68 = .ok (.iaload, 1) := by decide +kernel
theorem dX7_whichInShoe_69 : decode cX7_whichInShoe 69 = .ok (.if_icmp .ne 6, 3) := by decide +kernel
theorem dX7_whichInShoe_72 : decode cX7_whichInShoe 72 = .ok (.iinc 2 1, 3) := by decide +kernel
theorem dX7_whichInShoe_75 : decode cX7_whichInShoe 75 = .ok (.iinc 3 1, 3) := by decide +kernel
theorem dX7_whichInShoe_78 : decode cX7_whichInShoe 78 = .ok (.goto (-64), 3) := by decide +kernel
theorem dX7_whichInShoe_81 : decode cX7_whichInShoe 81 = .ok (.iload_n 2, 1) := by decide +kernel
theorem dX7_whichInShoe_82 : decode cX7_whichInShoe 82 = .ok (.ireturn, 1) := by decide +kernel
theorem dX7_falls_0 : decode cX7_falls 0 = .ok (.aload_n 0, 1) := by decide +kernel
theorem dX7_falls_1 : decode cX7_falls 1 = .ok (.iload_n 1, 1) := by decide +kernel
theorem dX7_falls_2 : decode cX7_falls 2 = .ok (.invokevirtual 62, 3) := by decide +kernel
theorem dX7_falls_5 : decode cX7_falls 5 = .ok (.ifCond .eq 25, 3) := by decide +kernel
theorem dX7_falls_8 : decode cX7_falls 8 = .ok (.aload_n 0, 1) := by decide +kernel
theorem dX7_falls_9 : decode cX7_falls 9 = .ok (.getfield 36, 3) := by decide +kernel
theorem dX7_falls_12 : decode cX7_falls 12 = .ok (.getfield 79, 3) := by decide +kernel
theorem dX7_falls_15 : decode cX7_falls 15 = .ok (.aload_n 0, 1) := by decide +kernel
theorem dX7_falls_16 : decode cX7_falls 16 = .ok (.getfield 24, 3) := by decide +kernel
theorem dX7_falls_19 : decode cX7_falls 19 = .ok (.iload_n 1, 1) := by decide +kernel
theorem dX7_falls_20 : decode cX7_falls 20 = .ok (.iaload, 1) := by decide +kernel
theorem dX7_falls_21 : decode cX7_falls 21 = .ok (.iaload, 1) := by decide +kernel
theorem dX7_falls_22 : decode cX7_falls 22 = .ok (.iload_n 2, 1) := by decide +kernel
theorem dX7_falls_23 : decode cX7_falls 23 = .ok (.if_icmp .le 7, 3) := by decide +kernel
theorem dX7_falls_26 : decode cX7_falls 26 = .ok (.iconst 1, 1) := by decide +kernel
theorem dX7_falls_27 : decode cX7_falls 27 = .ok (.goto 4, 3) := by decide +kernel
theorem dX7_falls_30 : decode cX7_falls 30 = .ok (.iconst 0, 1) := by decide +kernel
theorem dX7_falls_31 : decode cX7_falls 31 = .ok (.ireturn, 1) := by decide +kernel
theorem dX7_fallenBy_0 : decode cX7_fallenBy 0 = .ok (.iconst 0, 1) := by decide +kernel
theorem dX7_fallenBy_1 : decode cX7_fallenBy 1 = .ok (.istore_n 2, 1) := by decide +kernel
theorem dX7_fallenBy_2 : decode cX7_fallenBy 2 = .ok (.iconst 0, 1) := by decide +kernel
theorem dX7_fallenBy_3 : decode cX7_fallenBy 3 = .ok (.istore_n 3, 1) := by decide +kernel
theorem dX7_fallenBy_4 : decode cX7_fallenBy 4 = .ok (.iload_n 3, 1) := by decide +kernel
theorem dX7_fallenBy_5 : decode cX7_fallenBy 5 = .ok (.aload_n 0, 1) := by decide +kernel
theorem dX7_fallenBy_6 : decode cX7_fallenBy 6 = .ok (.getfield 44, 3) := by decide +kernel
theorem dX7_fallenBy_9 : decode cX7_fallenBy 9 = .ok (.if_icmp .ge 21, 3) := by decide +kernel
theorem dX7_fallenBy_12 : decode cX7_fallenBy 12 = .ok (.aload_n 0, 1) := by decide +kernel
theorem dX7_fallenBy_13 : decode cX7_fallenBy 13 = .ok (.iload_n 3, 1) := by decide +kernel
theorem dX7_fallenBy_14 : decode cX7_fallenBy 14 = .ok (.iload_n 1, 1) := by decide +kernel
theorem dX7_fallenBy_15 : decode cX7_fallenBy 15 = .ok (.invokevirtual 82, 3) := by decide +kernel
theorem dX7_fallenBy_18 : decode cX7_fallenBy 18 = .ok (.ifCond .eq 6, 3) := by decide +kernel
theorem dX7_fallenBy_21 : decode cX7_fallenBy 21 = .ok (.iinc 2 1, 3) := by decide +kernel
theorem dX7_fallenBy_24 : decode cX7_fallenBy 24 = .ok (.iinc 3 1, 3) := by decide +kernel
theorem dX7_fallenBy_27 : decode cX7_fallenBy 27 = .ok (.goto (-23), 3) := by decide +kernel
theorem dX7_fallenBy_30 : decode cX7_fallenBy 30 = .ok (.iload_n 2, 1) := by decide +kernel
theorem dX7_fallenBy_31 : decode cX7_fallenBy 31 = .ok (.ireturn, 1) := by decide +kernel
theorem dX7_recordOf_0 : decode cX7_recordOf 0 = .ok (.aload_n 0, 1) := by decide +kernel
theorem dX7_recordOf_1 : decode cX7_recordOf 1 = .ok (.iload_n 1, 1) := by decide +kernel
theorem dX7_recordOf_2 : decode cX7_recordOf 2 = .ok (.iload_n 2, 1) := by decide +kernel
theorem dX7_recordOf_3 : decode cX7_recordOf 3 = .ok (.invokevirtual 86, 3) := by decide +kernel
theorem dX7_recordOf_6 : decode cX7_recordOf 6 = .ok (.istore 4, 2) := by decide +kernel
theorem dX7_recordOf_8 : decode cX7_recordOf 8 = .ok (.sipush 30000, 3) := by decide +kernel
theorem dX7_recordOf_11 : decode cX7_recordOf 11 = .ok (.istore 5, 2) := by decide +kernel
theorem dX7_recordOf_13 : decode cX7_recordOf 13 = .ok (.iconst 0, 1) := by decide +kernel
theorem dX7_recordOf_14 : decode cX7_recordOf 14 = .ok (.istore 6, 2) := by decide +kernel
theorem dX7_recordOf_16 : decode cX7_recordOf 16 = .ok (.iconst 0, 1) := by decide +kernel
theorem dX7_recordOf_17 : decode cX7_recordOf 17 = .ok (.istore 7, 2) := by decide +kernel
theorem dX7_recordOf_19 : decode cX7_recordOf 19 = .ok (.iload 7, 2) := by decide +kernel
theorem dX7_recordOf_21 : decode cX7_recordOf 21 = .ok (.iload 4, 2) := by decide +kernel
theorem dX7_recordOf_23 : decode cX7_recordOf 23 = .ok (.if_icmp .ge 51, 3) := by decide +kernel
theorem dX7_recordOf_26 : decode cX7_recordOf 26 = .ok (.aload_n 0, 1) := by decide +kernel
theorem dX7_recordOf_27 : decode cX7_recordOf 27 = .ok (.getfield 33, 3) := by decide +kernel
theorem dX7_recordOf_30 : decode cX7_recordOf 30 = .ok (.iload 7, 2) := by decide +kernel
theorem dX7_recordOf_32 : decode cX7_recordOf 32 = .ok (.iaload, 1) := by decide +kernel
theorem dX7_recordOf_33 : decode cX7_recordOf 33 = .ok (.istore 8, 2) := by decide +kernel
theorem dX7_recordOf_35 : decode cX7_recordOf 35 = .ok (.aload_n 0, 1) := by decide +kernel
theorem dX7_recordOf_36 : decode cX7_recordOf 36 = .ok (.getfield 21, 3) := by decide +kernel
theorem dX7_recordOf_39 : decode cX7_recordOf 39 = .ok (.iload 8, 2) := by decide +kernel
theorem dX7_recordOf_41 : decode cX7_recordOf 41 = .ok (.iaload, 1) := by decide +kernel
theorem dX7_recordOf_42 : decode cX7_recordOf 42 = .ok (.iload 5, 2) := by decide +kernel
theorem dX7_recordOf_44 : decode cX7_recordOf 44 = .ok (.if_icmp .ge 24, 3) := by decide +kernel
theorem dX7_recordOf_47 : decode cX7_recordOf 47 = .ok (.iload 6, 2) := by decide +kernel
theorem dX7_recordOf_49 : decode cX7_recordOf 49 = .ok (.iload_n 3, 1) := by decide +kernel
theorem dX7_recordOf_50 : decode cX7_recordOf 50 = .ok (.if_icmp .ne 6, 3) := by decide +kernel
theorem dX7_recordOf_53 : decode cX7_recordOf 53 = .ok (.iload 8, 2) := by decide +kernel
theorem dX7_recordOf_55 : decode cX7_recordOf 55 = .ok (.ireturn, 1) := by decide +kernel
theorem dX7_recordOf_56 : decode cX7_recordOf 56 = .ok (.aload_n 0, 1) := by decide +kernel
theorem dX7_recordOf_57 : decode cX7_recordOf 57 = .ok (.getfield 21, 3) := by decide +kernel
theorem dX7_recordOf_60 : decode cX7_recordOf 60 = .ok (.iload 8, 2) := by decide +kernel
theorem dX7_recordOf_62 : decode cX7_recordOf 62 = .ok (.iaload, 1) := by decide +kernel
theorem dX7_recordOf_63 : decode cX7_recordOf 63 = .ok (.istore 5, 2) := by decide +kernel
theorem dX7_recordOf_65 : decode cX7_recordOf 65 = .ok (.iinc 6 1, 3) := by decide +kernel
theorem dX7_recordOf_68 : decode cX7_recordOf 68 = .ok (.iinc 7 1, 3) := by decide +kernel
theorem dX7_recordOf_71 : decode cX7_recordOf 71 = .ok (.goto (-52), 3) := by decide +kernel
theorem dX7_recordOf_74 : decode cX7_recordOf 74 = .ok (.iload_n 3, 1) := by decide +kernel
theorem dX7_recordOf_75 : decode cX7_recordOf 75 = .ok (.iconst (-1), 1) := by decide +kernel
theorem dX7_recordOf_76 : decode cX7_recordOf 76 = .ok (.if_icmp .ne 8, 3) := by decide +kernel
theorem dX7_recordOf_79 : decode cX7_recordOf 79 = .ok (.iload 6, 2) := by decide +kernel
theorem dX7_recordOf_81 : decode cX7_recordOf 81 = .ok (.goto 4, 3) := by decide +kernel
theorem dX7_recordOf_84 : decode cX7_recordOf 84 = .ok (.iconst (-1), 1) := by decide +kernel
theorem dX7_recordOf_85 : decode cX7_recordOf 85 = .ok (.ireturn, 1) := by decide +kernel
theorem dX7_lineUp_0 : decode cX7_lineUp 0 = .ok (.iconst 0, 1) := by decide +kernel
theorem dX7_lineUp_1 : decode cX7_lineUp 1 = .ok (.istore_n 3, 1) := by decide +kernel
theorem dX7_lineUp_2 : decode cX7_lineUp 2 = .ok (.iconst 0, 1) := by decide +kernel
theorem dX7_lineUp_3 : decode cX7_lineUp 3 = .ok (.istore 4, 2) := by decide +kernel
theorem dX7_lineUp_5 : decode cX7_lineUp 5 = .ok (.iload 4, 2) := by decide +kernel
theorem dX7_lineUp_7 : decode cX7_lineUp 7 = .ok (.aload_n 0, 1) := by decide +kernel
theorem dX7_lineUp_8 : decode cX7_lineUp 8 = .ok (.getfield 44, 3) := by decide +kernel
theorem dX7_lineUp_11 : decode cX7_lineUp 11 = .ok (.if_icmp .ge 99, 3) := by decide +kernel
theorem dX7_lineUp_14 : decode cX7_lineUp 14 = .ok (.aload_n 0, 1) := by decide +kernel
theorem dX7_lineUp_15 : decode cX7_lineUp 15 = .ok (.getfield 30, 3) := by decide +kernel
theorem dX7_lineUp_18 : decode cX7_lineUp 18 = .ok (.iload 4, 2) := by decide +kernel
theorem dX7_lineUp_20 : decode cX7_lineUp 20 = .ok (.iaload, 1) := by decide +kernel
theorem dX7_lineUp_21 : decode cX7_lineUp 21 = .ok (.istore 5, 2) := by decide +kernel
theorem dX7_lineUp_23 : decode cX7_lineUp 23 = .ok (.aload_n 0, 1) := by decide +kernel
theorem dX7_lineUp_24 : decode cX7_lineUp 24 = .ok (.getfield 15, 3) := by decide +kernel
theorem dX7_lineUp_27 : decode cX7_lineUp 27 = .ok (.iload 5, 2) := by decide +kernel
theorem dX7_lineUp_29 : decode cX7_lineUp 29 = .ok (.iaload, 1) := by decide +kernel
theorem dX7_lineUp_30 : decode cX7_lineUp 30 = .ok (.iload_n 1, 1) := by decide +kernel
theorem dX7_lineUp_31 : decode cX7_lineUp 31 = .ok (.if_icmp .ne 73, 3) := by decide +kernel
theorem dX7_lineUp_34 : decode cX7_lineUp 34 = .ok (.aload_n 0, 1) := by decide +kernel
theorem dX7_lineUp_35 : decode cX7_lineUp 35 = .ok (.iload 5, 2) := by decide +kernel
theorem dX7_lineUp_37 : decode cX7_lineUp 37 = .ok (.iload_n 2, 1) := by decide +kernel
theorem dX7_lineUp_38 : decode cX7_lineUp 38 = .ok (.invokevirtual 82, 3) := by decide +kernel
theorem dX7_lineUp_41 : decode cX7_lineUp 41 = .ok (.ifCond .ne 63, 3) := by decide +kernel
theorem dX7_lineUp_44 : decode cX7_lineUp 44 = .ok (.iload_n 3, 1) := by decide +kernel
theorem dX7_lineUp_45 : decode cX7_lineUp 45 = .ok (.istore 6, 2) := by decide +kernel
theorem dX7_lineUp_47 : decode cX7_lineUp 47 = .ok (.iload 6, 2) := by decide +kernel
theorem dX7_lineUp_49 : decode cX7_lineUp 49 = .ok (.ifCond .le 43, 3) := by decide +kernel
theorem dX7_lineUp_52 : decode cX7_lineUp 52 = .ok (.aload_n 0, 1) := by decide +kernel
theorem dX7_lineUp_53 : decode cX7_lineUp 53 = .ok (.aload_n 0, 1) := by decide +kernel
theorem dX7_lineUp_54 : decode cX7_lineUp 54 = .ok (.getfield 33, 3) := by decide +kernel
theorem dX7_lineUp_57 : decode cX7_lineUp 57 = .ok (.iload 6, 2) := by decide +kernel
theorem dX7_lineUp_59 : decode cX7_lineUp 59 = .ok (.iconst 1, 1) := by decide +kernel
theorem dX7_lineUp_60 : decode cX7_lineUp 60 = .ok (.isub, 1) := by decide +kernel
theorem dX7_lineUp_61 : decode cX7_lineUp 61 = .ok (.iaload, 1) := by decide +kernel
theorem dX7_lineUp_62 : decode cX7_lineUp 62 = .ok (.iload 5, 2) := by decide +kernel
theorem dX7_lineUp_64 : decode cX7_lineUp 64 = .ok (.invokevirtual 90, 3) := by decide +kernel
theorem dX7_lineUp_67 : decode cX7_lineUp 67 = .ok (.ifCond .eq 25, 3) := by decide +kernel
theorem dX7_lineUp_70 : decode cX7_lineUp 70 = .ok (.aload_n 0, 1) := by decide +kernel
theorem dX7_lineUp_71 : decode cX7_lineUp 71 = .ok (.getfield 33, 3) := by decide +kernel
theorem dX7_lineUp_74 : decode cX7_lineUp 74 = .ok (.iload 6, 2) := by decide +kernel
theorem dX7_lineUp_76 : decode cX7_lineUp 76 = .ok (.aload_n 0, 1) := by decide +kernel
theorem dX7_lineUp_77 : decode cX7_lineUp 77 = .ok (.getfield 33, 3) := by decide +kernel
theorem dX7_lineUp_80 : decode cX7_lineUp 80 = .ok (.iload 6, 2) := by decide +kernel
theorem dX7_lineUp_82 : decode cX7_lineUp 82 = .ok (.iconst 1, 1) := by decide +kernel
theorem dX7_lineUp_83 : decode cX7_lineUp 83 = .ok (.isub, 1) := by decide +kernel
theorem dX7_lineUp_84 : decode cX7_lineUp 84 = .ok (.iaload, 1) := by decide +kernel
theorem dX7_lineUp_85 : decode cX7_lineUp 85 = .ok (.iastore, 1) := by decide +kernel
theorem dX7_lineUp_86 : decode cX7_lineUp 86 = .ok (.iinc 6 (-1), 3) := by decide +kernel
theorem dX7_lineUp_89 : decode cX7_lineUp 89 = .ok (.goto (-42), 3) := by decide +kernel
theorem dX7_lineUp_92 : decode cX7_lineUp 92 = .ok (.aload_n 0, 1) := by decide +kernel
theorem dX7_lineUp_93 : decode cX7_lineUp 93 = .ok (.getfield 33, 3) := by decide +kernel
theorem dX7_lineUp_96 : decode cX7_lineUp 96 = .ok (.iload 6, 2) := by decide +kernel
theorem dX7_lineUp_98 : decode cX7_lineUp 98 = .ok (.iload 5, 2) := by decide +kernel
theorem dX7_lineUp_100 : decode cX7_lineUp 100 = .ok (.iastore, 1) := by decide +kernel
theorem dX7_lineUp_101 : decode cX7_lineUp 101 = .ok (.iinc 3 1, 3) := by decide +kernel
theorem dX7_lineUp_104 : decode cX7_lineUp 104 = .ok (.iinc 4 1, 3) := by decide +kernel
theorem dX7_lineUp_107 : decode cX7_lineUp 107 = .ok (.goto (-102), 3) := by decide +kernel
theorem dX7_lineUp_110 : decode cX7_lineUp 110 = .ok (.iload_n 3, 1) := by decide +kernel
theorem dX7_lineUp_111 : decode cX7_lineUp 111 = .ok (.ireturn, 1) := by decide +kernel
theorem dX7_isSlower_0 : decode cX7_isSlower 0 = .ok (.aload_n 0, 1) := by decide +kernel
theorem dX7_isSlower_1 : decode cX7_isSlower 1 = .ok (.getfield 18, 3) := by decide +kernel
theorem dX7_isSlower_4 : decode cX7_isSlower 4 = .ok (.iload_n 1, 1) := by decide +kernel
theorem dX7_isSlower_5 : decode cX7_isSlower 5 = .ok (.iaload, 1) := by decide +kernel
theorem dX7_isSlower_6 : decode cX7_isSlower 6 = .ok (.aload_n 0, 1) := by decide +kernel
theorem dX7_isSlower_7 : decode cX7_isSlower 7 = .ok (.getfield 18, 3) := by decide +kernel
theorem dX7_isSlower_10 : decode cX7_isSlower 10 = .ok (.iload_n 2, 1) := by decide +kernel
theorem dX7_isSlower_11 : decode cX7_isSlower 11 = .ok (.iaload, 1) := by decide +kernel
theorem dX7_isSlower_12 : decode cX7_isSlower 12 = .ok (.if_icmp .ne 22, 3) := by decide +kernel
theorem dX7_isSlower_15 : decode cX7_isSlower 15 = .ok (.aload_n 0, 1) := by decide +kernel
theorem dX7_isSlower_16 : decode cX7_isSlower 16 = .ok (.getfield 21, 3) := by decide +kernel
theorem dX7_isSlower_19 : decode cX7_isSlower 19 = .ok (.iload_n 1, 1) := by decide +kernel
theorem dX7_isSlower_20 : decode cX7_isSlower 20 = .ok (.iaload, 1) := by decide +kernel
theorem dX7_isSlower_21 : decode cX7_isSlower 21 = .ok (.aload_n 0, 1) := by decide +kernel
theorem dX7_isSlower_22 : decode cX7_isSlower 22 = .ok (.getfield 21, 3) := by decide +kernel
theorem dX7_isSlower_25 : decode cX7_isSlower 25 = .ok (.iload_n 2, 1) := by decide +kernel
theorem dX7_isSlower_26 : decode cX7_isSlower 26 = .ok (.iaload, 1) := by decide +kernel
theorem dX7_isSlower_27 : decode cX7_isSlower 27 = .ok (.if_icmp .le 7, 3) := by decide +kernel
theorem dX7_isSlower_30 : decode cX7_isSlower 30 = .ok (.iconst 1, 1) := by decide +kernel
theorem dX7_isSlower_31 : decode cX7_isSlower 31 = .ok (.goto 4, 3) := by decide +kernel
theorem dX7_isSlower_34 : decode cX7_isSlower 34 = .ok (.iconst 0, 1) := by decide +kernel
theorem dX7_isSlower_35 : decode cX7_isSlower 35 = .ok (.ireturn, 1) := by decide +kernel
theorem dX7_bestOf_0 : decode cX7_bestOf 0 = .ok (.bipush (-2), 2) := by decide +kernel
theorem dX7_bestOf_2 : decode cX7_bestOf 2 = .ok (.istore_n 2, 1) := by decide +kernel
theorem dX7_bestOf_3 : decode cX7_bestOf 3 = .ok (.iconst 0, 1) := by decide +kernel
theorem dX7_bestOf_4 : decode cX7_bestOf 4 = .ok (.istore_n 3, 1) := by decide +kernel
theorem dX7_bestOf_5 : decode cX7_bestOf 5 = .ok (.iload_n 3, 1) := by decide +kernel
theorem dX7_bestOf_6 : decode cX7_bestOf 6 = .ok (.aload_n 0, 1) := by decide +kernel
theorem dX7_bestOf_7 : decode cX7_bestOf 7 = .ok (.getfield 44, 3) := by decide +kernel
theorem dX7_bestOf_10 : decode cX7_bestOf 10 = .ok (.if_icmp .ge 40, 3) := by decide +kernel
theorem dX7_bestOf_13 : decode cX7_bestOf 13 = .ok (.aload_n 0, 1) := by decide +kernel
theorem dX7_bestOf_14 : decode cX7_bestOf 14 = .ok (.getfield 15, 3) := by decide +kernel
theorem dX7_bestOf_17 : decode cX7_bestOf 17 = .ok (.iload_n 3, 1) := by decide +kernel
theorem dX7_bestOf_18 : decode cX7_bestOf 18 = .ok (.iaload, 1) := by decide +kernel
theorem dX7_bestOf_19 : decode cX7_bestOf 19 = .ok (.iload_n 1, 1) := by decide +kernel
theorem dX7_bestOf_20 : decode cX7_bestOf 20 = .ok (.if_icmp .ne 24, 3) := by decide +kernel
theorem dX7_bestOf_23 : decode cX7_bestOf 23 = .ok (.iload_n 2, 1) := by decide +kernel
theorem dX7_bestOf_24 : decode cX7_bestOf 24 = .ok (.bipush (-2), 2) := by decide +kernel
theorem dX7_bestOf_26 : decode cX7_bestOf 26 = .ok (.if_icmp .eq 16, 3) := by decide +kernel
theorem dX7_bestOf_29 : decode cX7_bestOf 29 = .ok (.aload_n 0, 1) := by decide +kernel
theorem dX7_bestOf_30 : decode cX7_bestOf 30 = .ok (.iload_n 3, 1) := by decide +kernel
theorem dX7_bestOf_31 : decode cX7_bestOf 31 = .ok (.invokevirtual 93, 3) := by decide +kernel
theorem dX7_bestOf_34 : decode cX7_bestOf 34 = .ok (.aload_n 0, 1) := by decide +kernel
theorem dX7_bestOf_35 : decode cX7_bestOf 35 = .ok (.iload_n 2, 1) := by decide +kernel
theorem dX7_bestOf_36 : decode cX7_bestOf 36 = .ok (.invokevirtual 93, 3) := by decide +kernel
theorem dX7_bestOf_39 : decode cX7_bestOf 39 = .ok (.if_icmp .ge 5, 3) := by decide +kernel
theorem dX7_bestOf_42 : decode cX7_bestOf 42 = .ok (.iload_n 3, 1) := by decide +kernel
theorem dX7_bestOf_43 : decode cX7_bestOf 43 = .ok (.istore_n 2, 1) := by decide +kernel
theorem dX7_bestOf_44 : decode cX7_bestOf 44 = .ok (.iinc 3 1, 3) := by decide +kernel
theorem dX7_bestOf_47 : decode cX7_bestOf 47 = .ok (.goto (-42), 3) := by decide +kernel
theorem dX7_bestOf_50 : decode cX7_bestOf 50 = .ok (.iload_n 2, 1) := by decide +kernel
theorem dX7_bestOf_51 : decode cX7_bestOf 51 = .ok (.ireturn, 1) := by decide +kernel
theorem dX8_init_0 : decode cX8_init 0 = .ok (.aload_n 0, 1) := by decide +kernel
theorem dX8_init_1 : decode cX8_init 1 = .ok (.invokespecial 3, 3) := by decide +kernel
theorem dX8_init_4 : decode cX8_init 4 = .ok (.aload_n 0, 1) := by decide +kernel
theorem dX8_init_5 : decode cX8_init 5 = .ok (.bipush 6, 2) := by decide +kernel
theorem dX8_init_7 : decode cX8_init 7 = .ok (.newarray .int, 2) := by decide +kernel
theorem dX8_init_9 : decode cX8_init 9 = .ok (.putfield 9, 3) := by decide +kernel
theorem dX8_init_12 : decode cX8_init 12 = .ok (.aload_n 0, 1) := by decide +kernel
theorem dX8_init_13 : decode cX8_init 13 = .ok (.bipush 6, 2) := by decide +kernel
theorem dX8_init_15 : decode cX8_init 15 = .ok (.newarray .int, 2) := by decide +kernel
theorem dX8_init_17 : decode cX8_init 17 = .ok (.putfield 15, 3) := by decide +kernel
theorem dX8_init_20 : decode cX8_init 20 = .ok (.aload_n 0, 1) := by decide +kernel
theorem dX8_init_21 : decode cX8_init 21 = .ok (.bipush 6, 2) := by decide +kernel
theorem dX8_init_23 : decode cX8_init 23 = .ok (.newarray .int, 2) := by decide +kernel
theorem dX8_init_25 : decode cX8_init 25 = .ok (.putfield 18, 3) := by decide +kernel
theorem dX8_init_28 : decode cX8_init 28 = .ok (.aload_n 0, 1) := by decide +kernel
theorem dX8_init_29 : decode cX8_init 29 = .ok (.bipush 6, 2) := by decide +kernel
theorem dX8_init_31 : decode cX8_init 31 = .ok (.bipush 60, 2) := by decide +kernel
theorem dX8_init_33 : decode cX8_init 33 = .ok (.multianewarray 21 2, 4) := by decide +kernel
theorem dX8_init_37 : decode cX8_init 37 = .ok (.putfield 23, 3) := by decide +kernel
theorem dX8_init_40 : decode cX8_init 40 = .ok (.iconst 0, 1) := by decide +kernel
theorem dX8_init_41 : decode cX8_init 41 = .ok (.istore_n 1, 1) := by decide +kernel
theorem dX8_init_42 : decode cX8_init 42 = .ok (.iload_n 1, 1) := by decide +kernel
theorem dX8_init_43 : decode cX8_init 43 = .ok (.bipush 6, 2) := by decide +kernel
theorem dX8_init_45 : decode cX8_init 45 = .ok (.if_icmp .ge 17, 3) := by decide +kernel
theorem dX8_init_48 : decode cX8_init 48 = .ok (.aload_n 0, 1) := by decide +kernel
theorem dX8_init_49 : decode cX8_init 49 = .ok (.getfield 9, 3) := by decide +kernel
theorem dX8_init_52 : decode cX8_init 52 = .ok (.iload_n 1, 1) := by decide +kernel
theorem dX8_init_53 : decode cX8_init 53 = .ok (.bipush 6, 2) := by decide +kernel
theorem dX8_init_55 : decode cX8_init 55 = .ok (.iastore, 1) := by decide +kernel
theorem dX8_init_56 : decode cX8_init 56 = .ok (.iinc 1 1, 3) := by decide +kernel
theorem dX8_init_59 : decode cX8_init 59 = .ok (.goto (-17), 3) := by decide +kernel
theorem dX8_init_62 : decode cX8_init 62 = .ok (.return_, 1) := by decide +kernel
theorem dX8_has_0 : decode cX8_has 0 = .ok (.iload_n 1, 1) := by decide +kernel
theorem dX8_has_1 : decode cX8_has 1 = .ok (.ifCond .lt 13, 3) := by decide +kernel
theorem dX8_has_4 : decode cX8_has 4 = .ok (.iload_n 1, 1) := by decide +kernel
theorem dX8_has_5 : decode cX8_has 5 = .ok (.bipush 6, 2) := by decide +kernel
theorem dX8_has_7 : decode cX8_has 7 = .ok (.if_icmp .ge 7, 3) := by decide +kernel
theorem dX8_has_10 : decode cX8_has 10 = .ok (.iconst 1, 1) := by decide +kernel
theorem dX8_has_11 : decode cX8_has 11 = .ok (.goto 4, 3) := by decide +kernel
theorem dX8_has_14 : decode cX8_has 14 = .ok (.iconst 0, 1) := by decide +kernel
theorem dX8_has_15 : decode cX8_has 15 = .ok (.ireturn, 1) := by decide +kernel
theorem dX8_hold_0 : decode cX8_hold 0 = .ok (.aload_n 0, 1) := by decide +kernel
theorem dX8_hold_1 : decode cX8_hold 1 = .ok (.getfield 9, 3) := by decide +kernel
theorem dX8_hold_4 : decode cX8_hold 4 = .ok (.iload_n 1, 1) := by decide +kernel
theorem dX8_hold_5 : decode cX8_hold 5 = .ok (.iload_n 2, 1) := by decide +kernel
theorem dX8_hold_6 : decode cX8_hold 6 = .ok (.iconst (-1), 1) := by decide +kernel
theorem dX8_hold_7 : decode cX8_hold 7 = .ok (.if_icmp .ne 8, 3) := by decide +kernel
theorem dX8_hold_10 : decode cX8_hold 10 = .ok (.bipush 6, 2) := by decide +kernel
theorem dX8_hold_12 : decode cX8_hold 12 = .ok (.goto 4, 3) := by decide +kernel
theorem dX8_hold_15 : decode cX8_hold 15 = .ok (.iconst 5, 1) := by decide +kernel
theorem dX8_hold_16 : decode cX8_hold 16 = .ok (.iastore, 1) := by decide +kernel
theorem dX8_hold_17 : decode cX8_hold 17 = .ok (.aload_n 0, 1) := by decide +kernel
theorem dX8_hold_18 : decode cX8_hold 18 = .ok (.getfield 15, 3) := by decide +kernel
theorem dX8_hold_21 : decode cX8_hold 21 = .ok (.iload_n 1, 1) := by decide +kernel
theorem dX8_hold_22 : decode cX8_hold 22 = .ok (.iload_n 2, 1) := by decide +kernel
theorem dX8_hold_23 : decode cX8_hold 23 = .ok (.iastore, 1) := by decide +kernel
theorem dX8_hold_24 : decode cX8_hold 24 = .ok (.aload_n 0, 1) := by decide +kernel
theorem dX8_hold_25 : decode cX8_hold 25 = .ok (.getfield 18, 3) := by decide +kernel
theorem dX8_hold_28 : decode cX8_hold 28 = .ok (.iload_n 1, 1) := by decide +kernel
theorem dX8_hold_29 : decode cX8_hold 29 = .ok (.iconst 0, 1) := by decide +kernel
theorem dX8_hold_30 : decode cX8_hold 30 = .ok (.iastore, 1) := by decide +kernel
theorem dX8_hold_31 : decode cX8_hold 31 = .ok (.return_, 1) := by decide +kernel
theorem dX8_holdRow_0 : decode cX8_holdRow 0 = .ok (.aload_n 0, 1) := by decide +kernel
theorem dX8_holdRow_1 : decode cX8_holdRow 1 = .ok (.getfield 9, 3) := by decide +kernel
theorem dX8_holdRow_4 : decode cX8_holdRow 4 = .ok (.iload_n 1, 1) := by decide +kernel
theorem dX8_holdRow_5 : decode cX8_holdRow 5 = .ok (.iload_n 2, 1) := by decide +kernel
theorem dX8_holdRow_6 : decode cX8_holdRow 6 = .ok (.iastore, 1) := by decide +kernel
theorem dX8_holdRow_7 : decode cX8_holdRow 7 = .ok (.aload_n 0, 1) := by decide +kernel
theorem dX8_holdRow_8 : decode cX8_holdRow 8 = .ok (.getfield 18, 3) := by decide +kernel
theorem dX8_holdRow_11 : decode cX8_holdRow 11 = .ok (.iload_n 1, 1) := by decide +kernel
theorem dX8_holdRow_12 : decode cX8_holdRow 12 = .ok (.iload_n 3, 1) := by decide +kernel
theorem dX8_holdRow_13 : decode cX8_holdRow 13 = .ok (.iastore, 1) := by decide +kernel
theorem dX8_holdRow_14 : decode cX8_holdRow 14 = .ok (.iconst 0, 1) := by decide +kernel
theorem dX8_holdRow_15 : decode cX8_holdRow 15 = .ok (.istore 4, 2) := by decide +kernel
theorem dX8_holdRow_17 : decode cX8_holdRow 17 = .ok (.iload 4, 2) := by decide +kernel
theorem dX8_holdRow_19 : decode cX8_holdRow 19 = .ok (.iload_n 3, 1) := by decide +kernel
theorem dX8_holdRow_20 : decode cX8_holdRow 20 = .ok (.if_icmp .ge 26, 3) := by decide +kernel
theorem dX8_holdRow_23 : decode cX8_holdRow 23 = .ok (.iload 4, 2) := by decide +kernel
theorem dX8_holdRow_25 : decode cX8_holdRow 25 = .ok (.bipush 60, 2) := by decide +kernel
theorem dX8_holdRow_27 : decode cX8_holdRow 27 = .ok (.if_icmp .ge 19, 3) := by decide +kernel
theorem dX8_holdRow_30 : decode cX8_holdRow 30 = .ok (.aload_n 0, 1) := by decide +kernel
theorem dX8_holdRow_31 : decode cX8_holdRow 31 = .ok (.getfield 23, 3) := by decide +kernel
theorem dX8_holdRow_34 : decode cX8_holdRow 34 = .ok (.iload_n 1, 1) := by decide +kernel
theorem dX8_holdRow_35 : decode cX8_holdRow 35 = .ok (.aaload, 1) := by decide +kernel
theorem dX8_holdRow_36 : decode cX8_holdRow 36 = .ok (.iload 4, 2) := by decide +kernel
theorem dX8_holdRow_38 : decode cX8_holdRow 38 = .ok (.lconst 0, 1) := by decide +kernel
theorem dX8_holdRow_39 : decode cX8_holdRow 39 = .ok (.lastore, 1) := by decide +kernel
theorem dX8_holdRow_40 : decode cX8_holdRow 40 = .ok (.iinc 4 1, 3) := by decide +kernel
theorem dX8_holdRow_43 : decode cX8_holdRow 43 = .ok (.goto (-26), 3) := by decide +kernel
theorem dX8_holdRow_46 : decode cX8_holdRow 46 = .ok (.return_, 1) := by decide +kernel
theorem dX8_refuses_0 : decode cX8_refuses 0 = .ok (.aload_n 0, 1) := by decide +kernel
theorem dX8_refuses_1 : decode cX8_refuses 1 = .ok (.iload_n 1, 1) := by decide +kernel
theorem dX8_refuses_2 : decode cX8_refuses 2 = .ok (.invokevirtual 26, 3) := by decide +kernel
theorem dX8_refuses_5 : decode cX8_refuses 5 = .ok (.ifCond .ne 5, 3) := by decide +kernel
theorem dX8_refuses_8 : decode cX8_refuses 8 = .ok (.iconst (-1), 1) := by decide +kernel
theorem dX8_refuses_9 : decode cX8_refuses 9 = .ok (.ireturn, 1) := by decide +kernel
theorem dX8_refuses_10 : decode cX8_refuses 10 = .ok (.aload_n 0, 1) := by decide +kernel
theorem dX8_refuses_11 : decode cX8_refuses 11 = .ok (.getfield 9, 3) := by decide +kernel
theorem dX8_refuses_14 : decode cX8_refuses 14 = .ok (.iload_n 1, 1) := by decide +kernel
theorem dX8_refuses_15 : decode cX8_refuses 15 = .ok (.iaload, 1) := by decide +kernel
theorem dX8_refuses_16 : decode cX8_refuses 16 = .ok (.bipush 6, 2) := by decide +kernel
theorem dX8_refuses_18 : decode cX8_refuses 18 = .ok (.if_icmp .ne 6, 3) := by decide +kernel
theorem dX8_refuses_21 : decode cX8_refuses 21 = .ok (.bipush (-11), 2) := by decide +kernel
theorem dX8_refuses_23 : decode cX8_refuses 23 = .ok (.ireturn, 1) := by decide +kernel
theorem dX8_refuses_24 : decode cX8_refuses 24 = .ok (.aload_n 0, 1) := by decide +kernel
theorem dX8_refuses_25 : decode cX8_refuses 25 = .ok (.getfield 9, 3) := by decide +kernel
theorem dX8_refuses_28 : decode cX8_refuses 28 = .ok (.iload_n 1, 1) := by decide +kernel
theorem dX8_refuses_29 : decode cX8_refuses 29 = .ok (.iaload, 1) := by decide +kernel
theorem dX8_refuses_30 : decode cX8_refuses 30 = .ok (.iconst 5, 1) := by decide +kernel
theorem dX8_refuses_31 : decode cX8_refuses 31 = .ok (.if_icmp .ne 6, 3) := by decide +kernel
theorem dX8_refuses_34 : decode cX8_refuses 34 = .ok (.bipush (-12), 2) := by decide +kernel
theorem dX8_refuses_36 : decode cX8_refuses 36 = .ok (.ireturn, 1) := by decide +kernel
theorem dX8_refuses_37 : decode cX8_refuses 37 = .ok (.aload_n 0, 1) := by decide +kernel
theorem dX8_refuses_38 : decode cX8_refuses 38 = .ok (.iload_n 1, 1) := by decide +kernel
theorem dX8_refuses_39 : decode cX8_refuses 39 = .ok (.iload_n 2, 1) := by decide +kernel
theorem dX8_refuses_40 : decode cX8_refuses 40 = .ok (.iconst 1, 1) := by decide +kernel
theorem dX8_refuses_41 : decode cX8_refuses 41 = .ok (.invokevirtual 30, 3) := by decide +kernel
theorem dX8_refuses_44 : decode cX8_refuses 44 = .ok (.ifCond .eq 7, 3) := by decide +kernel
theorem dX8_refuses_47 : decode cX8_refuses 47 = .ok (.iconst 0, 1) := by decide +kernel
theorem dX8_refuses_48 : decode cX8_refuses 48 = .ok (.goto 5, 3) := by decide +kernel
theorem dX8_refuses_51 : decode cX8_refuses 51 = .ok (.bipush (-13), 2) := by decide +kernel
theorem dX8_refuses_53 : decode cX8_refuses 53 = .ok (.ireturn, 1) := by decide +kernel
theorem dX8_reaches_0 : decode cX8_reaches 0 = .ok (.iload_n 2, 1) := by decide +kernel
theorem dX8_reaches_1 : decode cX8_reaches 1 = .ok (.ifCond .lt 27, 3) := by decide +kernel
theorem dX8_reaches_4 : decode cX8_reaches 4 = .ok (.iload_n 3, 1) := by decide +kernel
theorem dX8_reaches_5 : decode cX8_reaches 5 = .ok (.ifCond .lt 23, 3) := by decide +kernel
theorem dX8_reaches_8 : decode cX8_reaches 8 = .ok (.iload_n 2, 1) := by decide +kernel
theorem dX8_reaches_9 : decode cX8_reaches 9 = .ok (.i2l, 1) := by decide +kernel
theorem dX8_reaches_10 : decode cX8_reaches 10 = .ok (.iload_n 3, 1) := by decide +kernel
theorem dX8_reaches_11 : decode cX8_reaches 11 = .ok (.i2l, 1) := by decide +kernel
theorem dX8_reaches_12 : decode cX8_reaches 12 = .ok (.ladd, 1) := by decide +kernel
theorem dX8_reaches_13 : decode cX8_reaches 13 = .ok (.aload_n 0, 1) := by decide +kernel
theorem dX8_reaches_14 : decode cX8_reaches 14 = .ok (.getfield 18, 3) := by decide +kernel
theorem dX8_reaches_17 : decode cX8_reaches 17 = .ok (.iload_n 1, 1) := by decide +kernel
theorem dX8_reaches_18 : decode cX8_reaches 18 = .ok (.iaload, 1) := by decide +kernel
theorem dX8_reaches_19 : decode cX8_reaches 19 = .ok (.i2l, 1) := by decide +kernel
theorem dX8_reaches_20 : decode cX8_reaches 20 = .ok (.lcmp, 1) := by decide +kernel
theorem dX8_reaches_21 : decode cX8_reaches 21 = .ok (.ifCond .gt 7, 3) := by decide +kernel
theorem dX8_reaches_24 : decode cX8_reaches 24 = .ok (.iconst 1, 1) := by decide +kernel
theorem dX8_reaches_25 : decode cX8_reaches 25 = .ok (.goto 4, 3) := by decide +kernel
theorem dX8_reaches_28 : decode cX8_reaches 28 = .ok (.iconst 0, 1) := by decide +kernel
theorem dX8_reaches_29 : decode cX8_reaches 29 = .ok (.ireturn, 1) := by decide +kernel
theorem dX8_lowest_0 : decode cX8_lowest 0 = .ok (.iload_n 0, 1) := by decide +kernel
theorem dX8_lowest_1 : decode cX8_lowest 1 = .ok (.tableswitch 61 0 4 #[35, 40, 45, 61, 49], 35) := by decide +kernel
theorem dX8_lowest_36 : decode cX8_lowest 36 = .ok (.lload_n 1, 1) := by decide +kernel
theorem dX8_lowest_37 : decode cX8_lowest 37 = .ok (.l2i, 1) := by decide +kernel
theorem dX8_lowest_38 : decode cX8_lowest 38 = .ok (.i2b, 1) := by decide +kernel
theorem dX8_lowest_39 : decode cX8_lowest 39 = .ok (.i2l, 1) := by decide +kernel
theorem dX8_lowest_40 : decode cX8_lowest 40 = .ok (.lreturn, 1) := by decide +kernel
theorem dX8_lowest_41 : decode cX8_lowest 41 = .ok (.lload_n 1, 1) := by decide +kernel
theorem dX8_lowest_42 : decode cX8_lowest 42 = .ok (.l2i, 1) := by decide +kernel
theorem dX8_lowest_43 : decode cX8_lowest 43 = .ok (.i2s, 1) := by decide +kernel
theorem dX8_lowest_44 : decode cX8_lowest 44 = .ok (.i2l, 1) := by decide +kernel
theorem dX8_lowest_45 : decode cX8_lowest 45 = .ok (.lreturn, 1) := by decide +kernel
theorem dX8_lowest_46 : decode cX8_lowest 46 = .ok (.lload_n 1, 1) := by decide +kernel
theorem dX8_lowest_47 : decode cX8_lowest 47 = .ok (.l2i, 1) := by decide +kernel
theorem dX8_lowest_48 : decode cX8_lowest 48 = .ok (.i2l, 1) := by decide +kernel
theorem dX8_lowest_49 : decode cX8_lowest 49 = .ok (.lreturn, 1) := by decide +kernel
theorem dX8_lowest_50 : decode cX8_lowest 50 = .ok (.lload_n 1, 1) := by decide +kernel
theorem dX8_lowest_51 : decode cX8_lowest 51 = .ok (.lconst 0, 1) := by decide +kernel
theorem dX8_lowest_52 : decode cX8_lowest 52 = .ok (.lcmp, 1) := by decide +kernel
theorem dX8_lowest_53 : decode cX8_lowest 53 = .ok (.ifCond .eq 7, 3) := by decide +kernel
theorem dX8_lowest_56 : decode cX8_lowest 56 = .ok (.lconst 1, 1) := by decide +kernel
theorem dX8_lowest_57 : decode cX8_lowest 57 = .ok (.goto 4, 3) := by decide +kernel
theorem dX8_lowest_60 : decode cX8_lowest 60 = .ok (.lconst 0, 1) := by decide +kernel
theorem dX8_lowest_61 : decode cX8_lowest 61 = .ok (.lreturn, 1) := by decide +kernel
theorem dX8_lowest_62 : decode cX8_lowest 62 = .ok (.lload_n 1, 1) := by decide +kernel
theorem dX8_lowest_63 : decode cX8_lowest 63 = .ok (.lreturn, 1) := by decide +kernel
theorem dX9_init_0 : decode cX9_init 0 = .ok (.aload_n 0, 1) := by decide +kernel
theorem dX9_init_1 : decode cX9_init 1 = .ok (.invokespecial 3, 3) := by decide +kernel
theorem dX9_init_4 : decode cX9_init 4 = .ok (.aload_n 0, 1) := by decide +kernel
theorem dX9_init_5 : decode cX9_init 5 = .ok (.bipush 6, 2) := by decide +kernel
theorem dX9_init_7 : decode cX9_init 7 = .ok (.newarray .int, 2) := by decide +kernel
theorem dX9_init_9 : decode cX9_init 9 = .ok (.putfield 9, 3) := by decide +kernel
theorem dX9_init_12 : decode cX9_init 12 = .ok (.aload_n 0, 1) := by decide +kernel
theorem dX9_init_13 : decode cX9_init 13 = .ok (.bipush 6, 2) := by decide +kernel
theorem dX9_init_15 : decode cX9_init 15 = .ok (.newarray .int, 2) := by decide +kernel
theorem dX9_init_17 : decode cX9_init 17 = .ok (.putfield 15, 3) := by decide +kernel
theorem dX9_init_20 : decode cX9_init 20 = .ok (.aload_n 0, 1) := by decide +kernel
theorem dX9_init_21 : decode cX9_init 21 = .ok (.bipush 6, 2) := by decide +kernel
theorem dX9_init_23 : decode cX9_init 23 = .ok (.newarray .int, 2) := by decide +kernel
theorem dX9_init_25 : decode cX9_init 25 = .ok (.putfield 18, 3) := by decide +kernel
theorem dX9_init_28 : decode cX9_init 28 = .ok (.aload_n 0, 1) := by decide +kernel
theorem dX9_init_29 : decode cX9_init 29 = .ok (.getfield 9, 3) := by decide +kernel
theorem dX9_init_32 : decode cX9_init 32 = .ok (.iconst 0, 1) := by decide +kernel
theorem dX9_init_33 : decode cX9_init 33 = .ok (.bipush 20, 2) := by decide +kernel
theorem dX9_init_35 : decode cX9_init 35 = .ok (.iastore, 1) := by decide +kernel
theorem dX9_init_36 : decode cX9_init 36 = .ok (.aload_n 0, 1) := by decide +kernel
theorem dX9_init_37 : decode cX9_init 37 = .ok (.iconst 1, 1) := by decide +kernel
theorem dX9_init_38 : decode cX9_init 38 = .ok (.putfield 21, 3) := by decide +kernel
theorem dX9_init_41 : decode cX9_init 41 = .ok (.return_, 1) := by decide +kernel
theorem dX9_has_0 : decode cX9_has 0 = .ok (.iload_n 1, 1) := by decide +kernel
theorem dX9_has_1 : decode cX9_has 1 = .ok (.ifCond .lt 15, 3) := by decide +kernel
theorem dX9_has_4 : decode cX9_has 4 = .ok (.iload_n 1, 1) := by decide +kernel
theorem dX9_has_5 : decode cX9_has 5 = .ok (.aload_n 0, 1) := by decide +kernel
theorem dX9_has_6 : decode cX9_has 6 = .ok (.getfield 21, 3) := by decide +kernel
theorem dX9_has_9 : decode cX9_has 9 = .ok (.if_icmp .ge 7, 3) := by decide +kernel
theorem dX9_has_12 : decode cX9_has 12 = .ok (.iconst 1, 1) := by decide +kernel
theorem dX9_has_13 : decode cX9_has 13 = .ok (.goto 4, 3) := by decide +kernel
theorem dX9_has_16 : decode cX9_has 16 = .ok (.iconst 0, 1) := by decide +kernel
theorem dX9_has_17 : decode cX9_has 17 = .ok (.ireturn, 1) := by decide +kernel
theorem dX9_come_0 : decode cX9_come 0 = .ok (.aload_n 0, 1) := by decide +kernel
theorem dX9_come_1 : decode cX9_come 1 = .ok (.getfield 21, 3) := by decide +kernel
theorem dX9_come_4 : decode cX9_come 4 = .ok (.bipush 6, 2) := by decide +kernel
theorem dX9_come_6 : decode cX9_come 6 = .ok (.if_icmp .lt 6, 3) := by decide +kernel
theorem dX9_come_9 : decode cX9_come 9 = .ok (.bipush (-3), 2) := by decide +kernel
theorem dX9_come_11 : decode cX9_come 11 = .ok (.ireturn, 1) := by decide +kernel
theorem dX9_come_12 : decode cX9_come 12 = .ok (.aload_n 0, 1) := by decide +kernel
theorem dX9_come_13 : decode cX9_come 13 = .ok (.getfield 9, 3) := by decide +kernel
theorem dX9_come_16 : decode cX9_come 16 = .ok (.aload_n 0, 1) := by decide +kernel
theorem dX9_come_17 : decode cX9_come 17 = .ok (.getfield 21, 3) := by decide +kernel
theorem dX9_come_20 : decode cX9_come 20 = .ok (.iload_n 1, 1) := by decide +kernel
theorem dX9_come_21 : decode cX9_come 21 = .ok (.iastore, 1) := by decide +kernel
theorem dX9_come_22 : decode cX9_come 22 = .ok (.aload_n 0, 1) := by decide +kernel
theorem dX9_come_23 : decode cX9_come 23 = .ok (.getfield 15, 3) := by decide +kernel
theorem dX9_come_26 : decode cX9_come 26 = .ok (.aload_n 0, 1) := by decide +kernel
theorem dX9_come_27 : decode cX9_come 27 = .ok (.getfield 21, 3) := by decide +kernel
theorem dX9_come_30 : decode cX9_come 30 = .ok (.iload_n 2, 1) := by decide +kernel
theorem dX9_come_31 : decode cX9_come 31 = .ok (.iastore, 1) := by decide +kernel
theorem dX9_come_32 : decode cX9_come 32 = .ok (.aload_n 0, 1) := by decide +kernel
theorem dX9_come_33 : decode cX9_come 33 = .ok (.getfield 18, 3) := by decide +kernel
theorem dX9_come_36 : decode cX9_come 36 = .ok (.aload_n 0, 1) := by decide +kernel
theorem dX9_come_37 : decode cX9_come 37 = .ok (.getfield 21, 3) := by decide +kernel
theorem dX9_come_40 : decode cX9_come 40 = .ok (.iload_n 3, 1) := by decide +kernel
theorem dX9_come_41 : decode cX9_come 41 = .ok (.iastore, 1) := by decide +kernel
theorem dX9_come_42 : decode cX9_come 42 = .ok (.aload_n 0, 1) := by decide +kernel
theorem dX9_come_43 : decode cX9_come 43 = .ok (.dup, 1) := by decide +kernel
theorem dX9_come_44 : decode cX9_come 44 = .ok (.getfield 21, 3) := by decide +kernel
theorem dX9_come_47 : decode cX9_come 47 = .ok (.dup_x1, 1) := by decide +kernel
theorem dX9_come_48 : decode cX9_come 48 = .ok (.iconst 1, 1) := by decide +kernel
theorem dX9_come_49 : decode cX9_come 49 = .ok (.iadd, 1) := by decide +kernel
theorem dX9_come_50 : decode cX9_come 50 = .ok (.putfield 21, 3) := by decide +kernel
theorem dX9_come_53 : decode cX9_come 53 = .ok (.ireturn, 1) := by decide +kernel
theorem dX10_init_0 : decode cX10_init 0 = .ok (.aload_n 0, 1) := by decide +kernel
theorem dX10_init_1 : decode cX10_init 1 = .ok (.invokespecial 3, 3) := by decide +kernel
theorem dX10_init_4 : decode cX10_init 4 = .ok (.return_, 1) := by decide +kernel
theorem dX10_clear_0 : decode cX10_clear 0 = .ok (.aload_n 0, 1) := by decide +kernel
theorem dX10_clear_1 : decode cX10_clear 1 = .ok (.lconst 0, 1) := by decide +kernel
theorem dX10_clear_2 : decode cX10_clear 2 = .ok (.putfield 9, 3) := by decide +kernel
theorem dX10_clear_5 : decode cX10_clear 5 = .ok (.aload_n 0, 1) := by decide +kernel
theorem dX10_clear_6 : decode cX10_clear 6 = .ok (.lconst 0, 1) := by decide +kernel
theorem dX10_clear_7 : decode cX10_clear 7 = .ok (.putfield 15, 3) := by decide +kernel
theorem dX10_clear_10 : decode cX10_clear 10 = .ok (.aload_n 0, 1) := by decide +kernel
theorem dX10_clear_11 : decode cX10_clear 11 = .ok (.iconst 0, 1) := by decide +kernel
theorem dX10_clear_12 : decode cX10_clear 12 = .ok (.putfield 18, 3) := by decide +kernel
theorem dX10_clear_15 : decode cX10_clear 15 = .ok (.aload_n 0, 1) := by decide +kernel
theorem dX10_clear_16 : decode cX10_clear 16 = .ok (.iconst 0, 1) := by decide +kernel
theorem dX10_clear_17 : decode cX10_clear 17 = .ok (.putfield 22, 3) := by decide +kernel
theorem dX10_clear_20 : decode cX10_clear 20 = .ok (.return_, 1) := by decide +kernel
theorem dX10_add_0 : decode cX10_add 0 = .ok (.iload_n 2, 1) := by decide +kernel
theorem dX10_add_1 : decode cX10_add 1 = .ok (.ifCond .eq 27, 3) := by decide +kernel
theorem dX10_add_4 : decode cX10_add 4 = .ok (.aload_n 0, 1) := by decide +kernel
theorem dX10_add_5 : decode cX10_add 5 = .ok (.dup, 1) := by decide +kernel
theorem dX10_add_6 : decode cX10_add 6 = .ok (.getfield 15, 3) := by decide +kernel
theorem dX10_add_9 : decode cX10_add 9 = .ok (.iload_n 1, 1) := by decide +kernel
theorem dX10_add_10 : decode cX10_add 10 = .ok (.i2l, 1) := by decide +kernel
theorem dX10_add_11 : decode cX10_add 11 = .ok (.ladd, 1) := by decide +kernel
theorem dX10_add_12 : decode cX10_add 12 = .ok (.putfield 15, 3) := by decide +kernel
theorem dX10_add_15 : decode cX10_add 15 = .ok (.aload_n 0, 1) := by decide +kernel
theorem dX10_add_16 : decode cX10_add 16 = .ok (.dup, 1) := by decide +kernel
theorem dX10_add_17 : decode cX10_add 17 = .ok (.getfield 22, 3) := by decide +kernel
theorem dX10_add_20 : decode cX10_add 20 = .ok (.iconst 1, 1) := by decide +kernel
theorem dX10_add_21 : decode cX10_add 21 = .ok (.iadd, 1) := by decide +kernel
theorem dX10_add_22 : decode cX10_add 22 = .ok (.putfield 22, 3) := by decide +kernel
theorem dX10_add_25 : decode cX10_add 25 = .ok (.goto 24, 3) := by decide +kernel
theorem dX10_add_28 : decode cX10_add 28 = .ok (.aload_n 0, 1) := by decide +kernel
theorem dX10_add_29 : decode cX10_add 29 = .ok (.dup, 1) := by decide +kernel
theorem dX10_add_30 : decode cX10_add 30 = .ok (.getfield 9, 3) := by decide +kernel
theorem dX10_add_33 : decode cX10_add 33 = .ok (.iload_n 1, 1) := by decide +kernel
theorem dX10_add_34 : decode cX10_add 34 = .ok (.i2l, 1) := by decide +kernel
theorem dX10_add_35 : decode cX10_add 35 = .ok (.ladd, 1) := by decide +kernel
theorem dX10_add_36 : decode cX10_add 36 = .ok (.putfield 9, 3) := by decide +kernel
theorem dX10_add_39 : decode cX10_add 39 = .ok (.aload_n 0, 1) := by decide +kernel
theorem dX10_add_40 : decode cX10_add 40 = .ok (.dup, 1) := by decide +kernel
theorem dX10_add_41 : decode cX10_add 41 = .ok (.getfield 18, 3) := by decide +kernel
theorem dX10_add_44 : decode cX10_add 44 = .ok (.iconst 1, 1) := by decide +kernel
theorem dX10_add_45 : decode cX10_add 45 = .ok (.iadd, 1) := by decide +kernel
theorem dX10_add_46 : decode cX10_add 46 = .ok (.putfield 18, 3) := by decide +kernel
theorem dX10_add_49 : decode cX10_add 49 = .ok (.return_, 1) := by decide +kernel
theorem dX10_turnNew_0 : decode cX10_turnNew 0 = .ok (.aload_n 0, 1) := by decide +kernel
theorem dX10_turnNew_1 : decode cX10_turnNew 1 = .ok (.dup, 1) := by decide +kernel
theorem dX10_turnNew_2 : decode cX10_turnNew 2 = .ok (.getfield 9, 3) := by decide +kernel
theorem dX10_turnNew_5 : decode cX10_turnNew 5 = .ok (.iload_n 1, 1) := by decide +kernel
theorem dX10_turnNew_6 : decode cX10_turnNew 6 = .ok (.i2l, 1) := by decide +kernel
theorem dX10_turnNew_7 : decode cX10_turnNew 7 = .ok (.lsub, 1) := by decide +kernel
theorem dX10_turnNew_8 : decode cX10_turnNew 8 = .ok (.putfield 9, 3) := by decide +kernel
theorem dX10_turnNew_11 : decode cX10_turnNew 11 = .ok (.aload_n 0, 1) := by decide +kernel
theorem dX10_turnNew_12 : decode cX10_turnNew 12 = .ok (.dup, 1) := by decide +kernel
theorem dX10_turnNew_13 : decode cX10_turnNew 13 = .ok (.getfield 18, 3) := by decide +kernel
theorem dX10_turnNew_16 : decode cX10_turnNew 16 = .ok (.iconst 1, 1) := by decide +kernel
theorem dX10_turnNew_17 : decode cX10_turnNew 17 = .ok (.isub, 1) := by decide +kernel
theorem dX10_turnNew_18 : decode cX10_turnNew 18 = .ok (.putfield 18, 3) := by decide +kernel
theorem dX10_turnNew_21 : decode cX10_turnNew 21 = .ok (.aload_n 0, 1) := by decide +kernel
theorem dX10_turnNew_22 : decode cX10_turnNew 22 = .ok (.iload_n 1, 1) := by decide +kernel
theorem dX10_turnNew_23 : decode cX10_turnNew 23 = .ok (.iconst 1, 1) := by decide +kernel
theorem dX10_turnNew_24 : decode cX10_turnNew 24 = .ok (.invokevirtual 25, 3) := by decide +kernel
theorem dX10_turnNew_27 : decode cX10_turnNew 27 = .ok (.return_, 1) := by decide +kernel
theorem dX10_gained_0 : decode cX10_gained 0 = .ok (.aload_n 0, 1) := by decide +kernel
theorem dX10_gained_1 : decode cX10_gained 1 = .ok (.getfield 18, 3) := by decide +kernel
theorem dX10_gained_4 : decode cX10_gained 4 = .ok (.ifCond .le 10, 3) := by decide +kernel
theorem dX10_gained_7 : decode cX10_gained 7 = .ok (.aload_n 0, 1) := by decide +kernel
theorem dX10_gained_8 : decode cX10_gained 8 = .ok (.getfield 22, 3) := by decide +kernel
theorem dX10_gained_11 : decode cX10_gained 11 = .ok (.ifCond .gt 6, 3) := by decide +kernel
theorem dX10_gained_14 : decode cX10_gained 14 = .ok (.ldc 29, 2) := by decide +kernel
theorem dX10_gained_16 : decode cX10_gained 16 = .ok (.ireturn, 1) := by decide +kernel
theorem dX10_gained_17 : decode cX10_gained 17 = .ok (.aload_n 0, 1) := by decide +kernel
theorem dX10_gained_18 : decode cX10_gained 18 = .ok (.getfield 9, 3) := by decide +kernel
theorem dX10_gained_21 : decode cX10_gained 21 = .ok (.aload_n 0, 1) := by decide +kernel
theorem dX10_gained_22 : decode cX10_gained 22 = .ok (.getfield 18, 3) := by decide +kernel
theorem dX10_gained_25 : decode cX10_gained 25 = .ok (.i2l, 1) := by decide +kernel
theorem dX10_gained_26 : decode cX10_gained 26 = .ok (.ldiv, 1) := by decide +kernel
theorem dX10_gained_27 : decode cX10_gained 27 = .ok (.lstore_n 1, 1) := by decide +kernel
theorem dX10_gained_28 : decode cX10_gained 28 = .ok (.aload_n 0, 1) := by decide +kernel
theorem dX10_gained_29 : decode cX10_gained 29 = .ok (.getfield 15, 3) := by decide +kernel
theorem dX10_gained_32 : decode cX10_gained 32 = .ok (.aload_n 0, 1) := by decide +kernel
theorem dX10_gained_33 : decode cX10_gained 33 = .ok (.getfield 22, 3) := by decide +kernel
theorem dX10_gained_36 : decode cX10_gained 36 = .ok (.i2l, 1) := by decide +kernel
theorem dX10_gained_37 : decode cX10_gained 37 = .ok (.ldiv, 1) := by decide +kernel
theorem dX10_gained_38 : decode cX10_gained 38 = .ok (.lstore_n 3, 1) := by decide +kernel
theorem dX10_gained_39 : decode cX10_gained 39 = .ok (.lload_n 1, 1) := by decide +kernel
theorem dX10_gained_40 : decode cX10_gained 40 = .ok (.lload_n 3, 1) := by decide +kernel
theorem dX10_gained_41 : decode cX10_gained 41 = .ok (.lsub, 1) := by decide +kernel
theorem dX10_gained_42 : decode cX10_gained 42 = .ok (.ldc2_w 30, 3) := by decide +kernel
theorem dX10_gained_45 : decode cX10_gained 45 = .ok (.lmul, 1) := by decide +kernel
theorem dX10_gained_46 : decode cX10_gained 46 = .ok (.lload_n 1, 1) := by decide +kernel
theorem dX10_gained_47 : decode cX10_gained 47 = .ok (.invokestatic 32, 3) := by decide +kernel
theorem dX10_gained_50 : decode cX10_gained 50 = .ok (.ireturn, 1) := by decide +kernel
theorem dX11_init_0 : decode cX11_init 0 = .ok (.aload_n 0, 1) := by decide +kernel
theorem dX11_init_1 : decode cX11_init 1 = .ok (.invokespecial 1, 3) := by decide +kernel
theorem dX11_init_4 : decode cX11_init 4 = .ok (.aload_n 0, 1) := by decide +kernel
theorem dX11_init_5 : decode cX11_init 5 = .ok (.new 7, 3) := by decide +kernel
theorem dX11_init_8 : decode cX11_init 8 = .ok (.dup, 1) := by decide +kernel
theorem dX11_init_9 : decode cX11_init 9 = .ok (.invokespecial 9, 3) := by decide +kernel
theorem dX11_init_12 : decode cX11_init 12 = .ok (.putfield 10, 3) := by decide +kernel
theorem dX11_init_15 : decode cX11_init 15 = .ok (.aload_n 0, 1) := by decide +kernel
theorem dX11_init_16 : decode cX11_init 16 = .ok (.new 16, 3) := by decide +kernel
theorem dX11_init_19 : decode cX11_init 19 = .ok (.dup, 1) := by decide +kernel
theorem dX11_init_20 : decode cX11_init 20 = .ok (.invokespecial 18, 3) := by decide +kernel
theorem dX11_init_23 : decode cX11_init 23 = .ok (.putfield 19, 3) := by decide +kernel
theorem dX11_init_26 : decode cX11_init 26 = .ok (.aload_n 0, 1) := by decide +kernel
theorem dX11_init_27 : decode cX11_init 27 = .ok (.new 23, 3) := by decide +kernel
theorem dX11_init_30 : decode cX11_init 30 = .ok (.dup, 1) := by decide +kernel
theorem dX11_init_31 : decode cX11_init 31 = .ok (.invokespecial 25, 3) := by decide +kernel
theorem dX11_init_34 : decode cX11_init 34 = .ok (.putfield 26, 3) := by decide +kernel
theorem dX11_init_37 : decode cX11_init 37 = .ok (.aload_n 0, 1) := by decide +kernel
theorem dX11_init_38 : decode cX11_init 38 = .ok (.new 30, 3) := by decide +kernel
theorem dX11_init_41 : decode cX11_init 41 = .ok (.dup, 1) := by decide +kernel
theorem dX11_init_42 : decode cX11_init 42 = .ok (.aload_n 0, 1) := by decide +kernel
theorem dX11_init_43 : decode cX11_init 43 = .ok (.getfield 19, 3) := by decide +kernel
theorem dX11_init_46 : decode cX11_init 46 = .ok (.aload_n 0, 1) := by decide +kernel
theorem dX11_init_47 : decode cX11_init 47 = .ok (.getfield 26, 3) := by decide +kernel
theorem dX11_init_50 : decode cX11_init 50 = .ok (.invokespecial 32, 3) := by decide +kernel
theorem dX11_init_53 : decode cX11_init 53 = .ok (.putfield 35, 3) := by decide +kernel
theorem dX11_init_56 : decode cX11_init 56 = .ok (.aload_n 0, 1) := by decide +kernel
theorem dX11_init_57 : decode cX11_init 57 = .ok (.new 39, 3) := by decide +kernel
theorem dX11_init_60 : decode cX11_init 60 = .ok (.dup, 1) := by decide +kernel
theorem dX11_init_61 : decode cX11_init 61 = .ok (.aload_n 0, 1) := by decide +kernel
theorem dX11_init_62 : decode cX11_init 62 = .ok (.getfield 35, 3) := by decide +kernel
theorem dX11_init_65 : decode cX11_init 65 = .ok (.aload_n 0, 1) := by decide +kernel
theorem dX11_init_66 : decode cX11_init 66 = .ok (.getfield 19, 3) := by decide +kernel
theorem dX11_init_69 : decode cX11_init 69 = .ok (.invokespecial 41, 3) := by decide +kernel
theorem dX11_init_72 : decode cX11_init 72 = .ok (.putfield 44, 3) := by decide +kernel
theorem dX11_init_75 : decode cX11_init 75 = .ok (.aload_n 0, 1) := by decide +kernel
theorem dX11_init_76 : decode cX11_init 76 = .ok (.new 48, 3) := by decide +kernel
theorem dX11_init_79 : decode cX11_init 79 = .ok (.dup, 1) := by decide +kernel
theorem dX11_init_80 : decode cX11_init 80 = .ok (.invokespecial 50, 3) := by decide +kernel
theorem dX11_init_83 : decode cX11_init 83 = .ok (.putfield 51, 3) := by decide +kernel
theorem dX11_init_86 : decode cX11_init 86 = .ok (.aload_n 0, 1) := by decide +kernel
theorem dX11_init_87 : decode cX11_init 87 = .ok (.new 55, 3) := by decide +kernel
theorem dX11_init_90 : decode cX11_init 90 = .ok (.dup, 1) := by decide +kernel
theorem dX11_init_91 : decode cX11_init 91 = .ok (.aload_n 0, 1) := by decide +kernel
theorem dX11_init_92 : decode cX11_init 92 = .ok (.getfield 35, 3) := by decide +kernel
theorem dX11_init_95 : decode cX11_init 95 = .ok (.invokespecial 57, 3) := by decide +kernel
theorem dX11_init_98 : decode cX11_init 98 = .ok (.putfield 60, 3) := by decide +kernel
theorem dX11_init_101 : decode cX11_init 101 = .ok (.aload_n 0, 1) := by decide +kernel
theorem dX11_init_102 : decode cX11_init 102 = .ok (.new 64, 3) := by decide +kernel
theorem dX11_init_105 : decode cX11_init 105 = .ok (.dup, 1) := by decide +kernel
theorem dX11_init_106 : decode cX11_init 106 = .ok (.invokespecial 66, 3) := by decide +kernel
theorem dX11_init_109 : decode cX11_init 109 = .ok (.putfield 67, 3) := by decide +kernel
theorem dX11_init_112 : decode cX11_init 112 = .ok (.aload_n 0, 1) := by decide +kernel
theorem dX11_init_113 : decode cX11_init 113 = .ok (.new 71, 3) := by decide +kernel
theorem dX11_init_116 : decode cX11_init 116 = .ok (.dup, 1) := by decide +kernel
theorem dX11_init_117 : decode cX11_init 117 = .ok (.invokespecial 73, 3) := by decide +kernel
theorem dX11_init_120 : decode cX11_init 120 = .ok (.putfield 74, 3) := by decide +kernel
theorem dX11_init_123 : decode cX11_init 123 = .ok (.aload_n 0, 1) := by decide +kernel
theorem dX11_init_124 : decode cX11_init 124 = .ok (.new 78, 3) := by decide +kernel
theorem dX11_init_127 : decode cX11_init 127 = .ok (.dup, 1) := by decide +kernel
theorem dX11_init_128 : decode cX11_init 128 = .ok (.invokespecial 80, 3) := by decide +kernel
theorem dX11_init_131 : decode cX11_init 131 = .ok (.putfield 81, 3) := by decide +kernel
theorem dX11_init_134 : decode cX11_init 134 = .ok (.aload_n 0, 1) := by decide +kernel
theorem dX11_init_135 : decode cX11_init 135 = .ok (.bipush 100, 2) := by decide +kernel
theorem dX11_init_137 : decode cX11_init 137 = .ok (.putfield 85, 3) := by decide +kernel
theorem dX11_init_140 : decode cX11_init 140 = .ok (.return_, 1) := by decide +kernel
theorem dX11_runner_0 : decode cX11_runner 0 = .ok (.iload_n 1, 1) := by decide +kernel
theorem dX11_runner_1 : decode cX11_runner 1 = .ok (.sipush 600, 3) := by decide +kernel
theorem dX11_runner_4 : decode cX11_runner 4 = .ok (.sipush 9999, 3) := by decide +kernel
theorem dX11_runner_7 : decode cX11_runner 7 = .ok (.invokestatic 89, 3) := by decide +kernel
theorem dX11_runner_10 : decode cX11_runner 10 = .ok (.ifCond .eq 21, 3) := by decide +kernel
theorem dX11_runner_13 : decode cX11_runner 13 = .ok (.iload_n 2, 1) := by decide +kernel
theorem dX11_runner_14 : decode cX11_runner 14 = .ok (.iconst 0, 1) := by decide +kernel
theorem dX11_runner_15 : decode cX11_runner 15 = .ok (.ldc 93, 2) := by decide +kernel
theorem dX11_runner_17 : decode cX11_runner 17 = .ok (.invokestatic 89, 3) := by decide +kernel
theorem dX11_runner_20 : decode cX11_runner 20 = .ok (.ifCond .eq 11, 3) := by decide +kernel
theorem dX11_runner_23 : decode cX11_runner 23 = .ok (.iload_n 2, 1) := by decide +kernel
theorem dX11_runner_24 : decode cX11_runner 24 = .ok (.bipush 10, 2) := by decide +kernel
theorem dX11_runner_26 : decode cX11_runner 26 = .ok (.irem, 1) := by decide +kernel
theorem dX11_runner_27 : decode cX11_runner 27 = .ok (.iconst 1, 1) := by decide +kernel
theorem dX11_runner_28 : decode cX11_runner 28 = .ok (.if_icmp .le 5, 3) := by decide +kernel
theorem dX11_runner_31 : decode cX11_runner 31 = .ok (.iconst (-1), 1) := by decide +kernel
theorem dX11_runner_32 : decode cX11_runner 32 = .ok (.ireturn, 1) := by decide +kernel
theorem dX11_runner_33 : decode cX11_runner 33 = .ok (.aload_n 0, 1) := by decide +kernel
theorem dX11_runner_34 : decode cX11_runner 34 = .ok (.getfield 10, 3) := by decide +kernel
theorem dX11_runner_37 : decode cX11_runner 37 = .ok (.iload_n 1, 1) := by decide +kernel
theorem dX11_runner_38 : decode cX11_runner 38 = .ok (.iload_n 2, 1) := by decide +kernel
theorem dX11_runner_39 : decode cX11_runner 39 = .ok (.sipush 1000, 3) := by decide +kernel
theorem dX11_runner_42 : decode cX11_runner 42 = .ok (.idiv, 1) := by decide +kernel
theorem dX11_runner_43 : decode cX11_runner 43 = .ok (.bipush 50, 2) := by decide +kernel
theorem dX11_runner_45 : decode cX11_runner 45 = .ok (.isub, 1) := by decide +kernel
theorem dX11_runner_46 : decode cX11_runner 46 = .ok (.iload_n 2, 1) := by decide +kernel
theorem dX11_runner_47 : decode cX11_runner 47 = .ok (.bipush 10, 2) := by decide +kernel
theorem dX11_runner_49 : decode cX11_runner 49 = .ok (.idiv, 1) := by decide +kernel
theorem dX11_runner_50 : decode cX11_runner 50 = .ok (.bipush 100, 2) := by decide +kernel
theorem dX11_runner_52 : decode cX11_runner 52 = .ok (.irem, 1) := by decide +kernel
theorem dX11_runner_53 : decode cX11_runner 53 = .ok (.iload_n 2, 1) := by decide +kernel
theorem dX11_runner_54 : decode cX11_runner 54 = .ok (.bipush 10, 2) := by decide +kernel
theorem dX11_runner_56 : decode cX11_runner 56 = .ok (.irem, 1) := by decide +kernel
theorem dX11_runner_57 : decode cX11_runner 57 = .ok (.invokevirtual 94, 3) := by decide +kernel
theorem dX11_runner_60 : decode cX11_runner 60 = .ok (.ireturn, 1) := by decide +kernel
theorem dX11_shoe_0 : decode cX11_shoe 0 = .ok (.iload_n 1, 1) := by decide +kernel
theorem dX11_shoe_1 : decode cX11_shoe 1 = .ok (.iconst 1, 1) := by decide +kernel
theorem dX11_shoe_2 : decode cX11_shoe 2 = .ok (.bipush 99, 2) := by decide +kernel
theorem dX11_shoe_4 : decode cX11_shoe 4 = .ok (.invokestatic 89, 3) := by decide +kernel
theorem dX11_shoe_7 : decode cX11_shoe 7 = .ok (.ifCond .eq 24, 3) := by decide +kernel
theorem dX11_shoe_10 : decode cX11_shoe 10 = .ok (.iload_n 2, 1) := by decide +kernel
theorem dX11_shoe_11 : decode cX11_shoe 11 = .ok (.bipush (-99), 2) := by decide +kernel
theorem dX11_shoe_13 : decode cX11_shoe 13 = .ok (.bipush 99, 2) := by decide +kernel
theorem dX11_shoe_15 : decode cX11_shoe 15 = .ok (.invokestatic 89, 3) := by decide +kernel
theorem dX11_shoe_18 : decode cX11_shoe 18 = .ok (.ifCond .eq 13, 3) := by decide +kernel
theorem dX11_shoe_21 : decode cX11_shoe 21 = .ok (.iload_n 3, 1) := by decide +kernel
theorem dX11_shoe_22 : decode cX11_shoe 22 = .ok (.iconst 0, 1) := by decide +kernel
theorem dX11_shoe_23 : decode cX11_shoe 23 = .ok (.bipush 99, 2) := by decide +kernel
theorem dX11_shoe_25 : decode cX11_shoe 25 = .ok (.invokestatic 89, 3) := by decide +kernel
theorem dX11_shoe_28 : decode cX11_shoe 28 = .ok (.ifCond .ne 5, 3) := by decide +kernel
theorem dX11_shoe_31 : decode cX11_shoe 31 = .ok (.iconst (-1), 1) := by decide +kernel
theorem dX11_shoe_32 : decode cX11_shoe 32 = .ok (.ireturn, 1) := by decide +kernel
theorem dX11_shoe_33 : decode cX11_shoe 33 = .ok (.aload_n 0, 1) := by decide +kernel
theorem dX11_shoe_34 : decode cX11_shoe 34 = .ok (.getfield 19, 3) := by decide +kernel
theorem dX11_shoe_37 : decode cX11_shoe 37 = .ok (.iload_n 1, 1) := by decide +kernel
theorem dX11_shoe_38 : decode cX11_shoe 38 = .ok (.iload_n 2, 1) := by decide +kernel
theorem dX11_shoe_39 : decode cX11_shoe 39 = .ok (.iload_n 3, 1) := by decide +kernel
theorem dX11_shoe_40 : decode cX11_shoe 40 = .ok (.invokevirtual 98, 3) := by decide +kernel
theorem dX11_shoe_43 : decode cX11_shoe 43 = .ok (.ireturn, 1) := by decide +kernel
theorem dX11_course_0 : decode cX11_course 0 = .ok (.iload_n 1, 1) := by decide +kernel
theorem dX11_course_1 : decode cX11_course 1 = .ok (.sipush 500, 3) := by decide +kernel
theorem dX11_course_4 : decode cX11_course 4 = .ok (.sipush 2000, 3) := by decide +kernel
theorem dX11_course_7 : decode cX11_course 7 = .ok (.invokestatic 89, 3) := by decide +kernel
theorem dX11_course_10 : decode cX11_course 10 = .ok (.ifCond .ne 5, 3) := by decide +kernel
theorem dX11_course_13 : decode cX11_course 13 = .ok (.iconst (-1), 1) := by decide +kernel
theorem dX11_course_14 : decode cX11_course 14 = .ok (.ireturn, 1) := by decide +kernel
theorem dX11_course_15 : decode cX11_course 15 = .ok (.aload_n 0, 1) := by decide +kernel
theorem dX11_course_16 : decode cX11_course 16 = .ok (.getfield 26, 3) := by decide +kernel
theorem dX11_course_19 : decode cX11_course 19 = .ok (.iload_n 1, 1) := by decide +kernel
theorem dX11_course_20 : decode cX11_course 20 = .ok (.invokevirtual 101, 3) := by decide +kernel
theorem dX11_course_23 : decode cX11_course 23 = .ok (.ireturn, 1) := by decide +kernel
theorem dX11_ran_0 : decode cX11_ran 0 = .ok (.iload_n 1, 1) := by decide +kernel
theorem dX11_ran_1 : decode cX11_ran 1 = .ok (.ifCond .lt 33, 3) := by decide +kernel
theorem dX11_ran_4 : decode cX11_ran 4 = .ok (.iload_n 2, 1) := by decide +kernel
theorem dX11_ran_5 : decode cX11_ran 5 = .ok (.ifCond .lt 29, 3) := by decide +kernel
theorem dX11_ran_8 : decode cX11_ran 8 = .ok (.aload_n 0, 1) := by decide +kernel
theorem dX11_ran_9 : decode cX11_ran 9 = .ok (.iload_n 1, 1) := by decide +kernel
theorem dX11_ran_10 : decode cX11_ran 10 = .ok (.bipush 100, 2) := by decide +kernel
theorem dX11_ran_12 : decode cX11_ran 12 = .ok (.idiv, 1) := by decide +kernel
theorem dX11_ran_13 : decode cX11_ran 13 = .ok (.iload_n 1, 1) := by decide +kernel
theorem dX11_ran_14 : decode cX11_ran 14 = .ok (.bipush 100, 2) := by decide +kernel
theorem dX11_ran_16 : decode cX11_ran 16 = .ok (.irem, 1) := by decide +kernel
theorem dX11_ran_17 : decode cX11_ran 17 = .ok (.iload_n 2, 1) := by decide +kernel
theorem dX11_ran_18 : decode cX11_ran 18 = .ok (.bipush 10, 2) := by decide +kernel
theorem dX11_ran_20 : decode cX11_ran 20 = .ok (.idiv, 1) := by decide +kernel
theorem dX11_ran_21 : decode cX11_ran 21 = .ok (.iload_n 3, 1) := by decide +kernel
theorem dX11_ran_22 : decode cX11_ran 22 = .ok (.iload_n 2, 1) := by decide +kernel
theorem dX11_ran_23 : decode cX11_ran 23 = .ok (.bipush 10, 2) := by decide +kernel
theorem dX11_ran_25 : decode cX11_ran 25 = .ok (.irem, 1) := by decide +kernel
theorem dX11_ran_26 : decode cX11_ran 26 = .ok (.iconst 1, 1) := by decide +kernel
theorem dX11_ran_27 : decode cX11_ran 27 = .ok (.isub, 1) := by decide +kernel
theorem dX11_ran_28 : decode cX11_ran 28 = .ok (.invokevirtual 104, 3) := by decide +kernel
theorem dX11_ran_31 : decode cX11_ran 31 = .ok (.ifCond .ne 5, 3) := by decide +kernel
theorem dX11_ran_34 : decode cX11_ran 34 = .ok (.iconst (-1), 1) := by decide +kernel
theorem dX11_ran_35 : decode cX11_ran 35 = .ok (.ireturn, 1) := by decide +kernel
theorem dX11_ran_36 : decode cX11_ran 36 = .ok (.aload_n 0, 1) := by decide +kernel
theorem dX11_ran_37 : decode cX11_ran 37 = .ok (.getfield 35, 3) := by decide +kernel
theorem dX11_ran_40 : decode cX11_ran 40 = .ok (.iload_n 1, 1) := by decide +kernel
theorem dX11_ran_41 : decode cX11_ran 41 = .ok (.bipush 100, 2) := by decide +kernel
theorem dX11_ran_43 : decode cX11_ran 43 = .ok (.idiv, 1) := by decide +kernel
theorem dX11_ran_44 : decode cX11_ran 44 = .ok (.iload_n 1, 1) := by decide +kernel
theorem dX11_ran_45 : decode cX11_ran 45 = .ok (.bipush 100, 2) := by decide +kernel
theorem dX11_ran_47 : decode cX11_ran 47 = .ok (.irem, 1) := by decide +kernel
theorem dX11_ran_48 : decode cX11_ran 48 = .ok (.iload_n 2, 1) := by decide +kernel
theorem dX11_ran_49 : decode cX11_ran 49 = .ok (.bipush 10, 2) := by decide +kernel
theorem dX11_ran_51 : decode cX11_ran 51 = .ok (.idiv, 1) := by decide +kernel
theorem dX11_ran_52 : decode cX11_ran 52 = .ok (.iload_n 3, 1) := by decide +kernel
theorem dX11_ran_53 : decode cX11_ran 53 = .ok (.iload_n 2, 1) := by decide +kernel
theorem dX11_ran_54 : decode cX11_ran 54 = .ok (.bipush 10, 2) := by decide +kernel
theorem dX11_ran_56 : decode cX11_ran 56 = .ok (.irem, 1) := by decide +kernel
theorem dX11_ran_57 : decode cX11_ran 57 = .ok (.iconst 1, 1) := by decide +kernel
theorem dX11_ran_58 : decode cX11_ran 58 = .ok (.isub, 1) := by decide +kernel
theorem dX11_ran_59 : decode cX11_ran 59 = .ok (.invokevirtual 108, 3) := by decide +kernel
theorem dX11_ran_62 : decode cX11_ran 62 = .ok (.ireturn, 1) := by decide +kernel
theorem dX11_runs_0 : decode cX11_runs 0 = .ok (.aload_n 0, 1) := by decide +kernel
theorem dX11_runs_1 : decode cX11_runs 1 = .ok (.getfield 81, 3) := by decide +kernel
theorem dX11_runs_4 : decode cX11_runs 4 = .ok (.iload_n 1, 1) := by decide +kernel
theorem dX11_runs_5 : decode cX11_runs 5 = .ok (.invokevirtual 111, 3) := by decide +kernel
theorem dX11_runs_8 : decode cX11_runs 8 = .ok (.ifCond .eq 13, 3) := by decide +kernel
theorem dX11_runs_11 : decode cX11_runs 11 = .ok (.iload_n 3, 1) := by decide +kernel
theorem dX11_runs_12 : decode cX11_runs 12 = .ok (.iconst 1, 1) := by decide +kernel
theorem dX11_runs_13 : decode cX11_runs 13 = .ok (.bipush 12, 2) := by decide +kernel
theorem dX11_runs_15 : decode cX11_runs 15 = .ok (.invokestatic 89, 3) := by decide +kernel
theorem dX11_runs_18 : decode cX11_runs 18 = .ok (.ifCond .ne 5, 3) := by decide +kernel
theorem dX11_runs_21 : decode cX11_runs 21 = .ok (.iconst (-1), 1) := by decide +kernel
theorem dX11_runs_22 : decode cX11_runs 22 = .ok (.ireturn, 1) := by decide +kernel
theorem dX11_runs_23 : decode cX11_runs 23 = .ok (.aload_n 0, 1) := by decide +kernel
theorem dX11_runs_24 : decode cX11_runs 24 = .ok (.getfield 81, 3) := by decide +kernel
theorem dX11_runs_27 : decode cX11_runs 27 = .ok (.getfield 115, 3) := by decide +kernel
theorem dX11_runs_30 : decode cX11_runs 30 = .ok (.iload_n 1, 1) := by decide +kernel
theorem dX11_runs_31 : decode cX11_runs 31 = .ok (.iaload, 1) := by decide +kernel
theorem dX11_runs_32 : decode cX11_runs 32 = .ok (.bipush 6, 2) := by decide +kernel
theorem dX11_runs_34 : decode cX11_runs 34 = .ok (.if_icmp .ne 5, 3) := by decide +kernel
theorem dX11_runs_37 : decode cX11_runs 37 = .ok (.iconst 0, 1) := by decide +kernel
theorem dX11_runs_38 : decode cX11_runs 38 = .ok (.ireturn, 1) := by decide +kernel
theorem dX11_runs_39 : decode cX11_runs 39 = .ok (.aload_n 0, 1) := by decide +kernel
theorem dX11_runs_40 : decode cX11_runs 40 = .ok (.getfield 81, 3) := by decide +kernel
theorem dX11_runs_43 : decode cX11_runs 43 = .ok (.getfield 115, 3) := by decide +kernel
theorem dX11_runs_46 : decode cX11_runs 46 = .ok (.iload_n 1, 1) := by decide +kernel
theorem dX11_runs_47 : decode cX11_runs 47 = .ok (.iaload, 1) := by decide +kernel
theorem dX11_runs_48 : decode cX11_runs 48 = .ok (.iconst 2, 1) := by decide +kernel
theorem dX11_runs_49 : decode cX11_runs 49 = .ok (.if_icmp .eq 6, 3) := by decide +kernel
theorem dX11_runs_52 : decode cX11_runs 52 = .ok (.bipush (-12), 2) := by decide +kernel
theorem dX11_runs_54 : decode cX11_runs 54 = .ok (.ireturn, 1) := by decide +kernel
theorem dX11_runs_55 : decode cX11_runs 55 = .ok (.iconst 0, 1) := by decide +kernel
theorem dX11_runs_56 : decode cX11_runs 56 = .ok (.istore 4, 2) := by decide +kernel
theorem dX11_runs_58 : decode cX11_runs 58 = .ok (.iload 4, 2) := by decide +kernel
theorem dX11_runs_60 : decode cX11_runs 60 = .ok (.iload_n 3, 1) := by decide +kernel
theorem dX11_runs_61 : decode cX11_runs 61 = .ok (.if_icmp .ge 27, 3) := by decide +kernel
theorem dX11_runs_64 : decode cX11_runs 64 = .ok (.aload_n 0, 1) := by decide +kernel
theorem dX11_runs_65 : decode cX11_runs 65 = .ok (.iload_n 1, 1) := by decide +kernel
theorem dX11_runs_66 : decode cX11_runs 66 = .ok (.iload_n 2, 1) := by decide +kernel
theorem dX11_runs_67 : decode cX11_runs 67 = .ok (.i2l, 1) := by decide +kernel
theorem dX11_runs_68 : decode cX11_runs 68 = .ok (.ldc2_w 119, 3) := by decide +kernel
theorem dX11_runs_71 : decode cX11_runs 71 = .ok (.iload 4, 2) := by decide +kernel
theorem dX11_runs_73 : decode cX11_runs 73 = .ok (.i2l, 1) := by decide +kernel
theorem dX11_runs_74 : decode cX11_runs 74 = .ok (.lmul, 1) := by decide +kernel
theorem dX11_runs_75 : decode cX11_runs 75 = .ok (.ladd, 1) := by decide +kernel
theorem dX11_runs_76 : decode cX11_runs 76 = .ok (.invokevirtual 121, 3) := by decide +kernel
theorem dX11_runs_79 : decode cX11_runs 79 = .ok (.ifCond .eq 9, 3) := by decide +kernel
theorem dX11_runs_82 : decode cX11_runs 82 = .ok (.iinc 4 1, 3) := by decide +kernel
theorem dX11_runs_85 : decode cX11_runs 85 = .ok (.goto (-27), 3) := by decide +kernel
theorem dX11_runs_88 : decode cX11_runs 88 = .ok (.iload 4, 2) := by decide +kernel
theorem dX11_runs_90 : decode cX11_runs 90 = .ok (.ireturn, 1) := by decide +kernel
theorem dX11_runFromRow_0 : decode cX11_runFromRow 0 = .ok (.lload_n 2, 1) := by decide +kernel
theorem dX11_runFromRow_1 : decode cX11_runFromRow 1 = .ok (.lconst 0, 1) := by decide +kernel
theorem dX11_runFromRow_2 : decode cX11_runFromRow 2 = .ok (.lcmp, 1) := by decide +kernel
theorem dX11_runFromRow_3 : decode cX11_runFromRow 3 = .ok (.ifCond .lt 22, 3) := by decide +kernel
theorem dX11_runFromRow_6 : decode cX11_runFromRow 6 = .ok (.lload_n 2, 1) := by decide +kernel
theorem dX11_runFromRow_7 : decode cX11_runFromRow 7 = .ok (.ldc2_w 119, 3) := by decide +kernel
theorem dX11_runFromRow_10 : decode cX11_runFromRow 10 = .ok (.ladd, 1) := by decide +kernel
theorem dX11_runFromRow_11 : decode cX11_runFromRow 11 = .ok (.aload_n 0, 1) := by decide +kernel
theorem dX11_runFromRow_12 : decode cX11_runFromRow 12 = .ok (.getfield 81, 3) := by decide +kernel
theorem dX11_runFromRow_15 : decode cX11_runFromRow 15 = .ok (.getfield 125, 3) := by decide +kernel
theorem dX11_runFromRow_18 : decode cX11_runFromRow 18 = .ok (.iload_n 1, 1) := by decide +kernel
theorem dX11_runFromRow_19 : decode cX11_runFromRow 19 = .ok (.iaload, 1) := by decide +kernel
theorem dX11_runFromRow_20 : decode cX11_runFromRow 20 = .ok (.i2l, 1) := by decide +kernel
theorem dX11_runFromRow_21 : decode cX11_runFromRow 21 = .ok (.lcmp, 1) := by decide +kernel
theorem dX11_runFromRow_22 : decode cX11_runFromRow 22 = .ok (.ifCond .le 5, 3) := by decide +kernel
theorem dX11_runFromRow_25 : decode cX11_runFromRow 25 = .ok (.iconst 0, 1) := by decide +kernel
theorem dX11_runFromRow_26 : decode cX11_runFromRow 26 = .ok (.ireturn, 1) := by decide +kernel
theorem dX11_runFromRow_27 : decode cX11_runFromRow 27 = .ok (.aload_n 0, 1) := by decide +kernel
theorem dX11_runFromRow_28 : decode cX11_runFromRow 28 = .ok (.getfield 81, 3) := by decide +kernel
theorem dX11_runFromRow_31 : decode cX11_runFromRow 31 = .ok (.getfield 128, 3) := by decide +kernel
theorem dX11_runFromRow_34 : decode cX11_runFromRow 34 = .ok (.iload_n 1, 1) := by decide +kernel
theorem dX11_runFromRow_35 : decode cX11_runFromRow 35 = .ok (.aaload, 1) := by decide +kernel
theorem dX11_runFromRow_36 : decode cX11_runFromRow 36 = .ok (.astore 4, 2) := by decide +kernel
theorem dX11_runFromRow_38 : decode cX11_runFromRow 38 = .ok (.lload_n 2, 1) := by decide +kernel
theorem dX11_runFromRow_39 : decode cX11_runFromRow 39 = .ok (.l2i, 1) := by decide +kernel
theorem dX11_runFromRow_40 : decode cX11_runFromRow 40 = .ok (.istore 5, 2) := by decide +kernel
theorem dX11_runFromRow_42 : decode cX11_runFromRow 42 = .ok (.aload 4, 2) := by decide +kernel
theorem dX11_runFromRow_44 : decode cX11_runFromRow 44 = .ok (.iload 5, 2) := by decide +kernel
theorem dX11_runFromRow_46 : decode cX11_runFromRow 46 = .ok (.laload, 1) := by decide +kernel
theorem dX11_runFromRow_47 : decode cX11_runFromRow 47 = .ok (.l2i, 1) := by decide +kernel
theorem dX11_runFromRow_48 : decode cX11_runFromRow 48 = .ok (.istore 6, 2) := by decide +kernel
theorem dX11_runFromRow_50 : decode cX11_runFromRow 50 = .ok (.aload 4, 2) := by decide +kernel
theorem dX11_runFromRow_52 : decode cX11_runFromRow 52 = .ok (.iload 5, 2) := by decide +kernel
theorem dX11_runFromRow_54 : decode cX11_runFromRow 54 = .ok (.iconst 1, 1) := by decide +kernel
theorem dX11_runFromRow_55 : decode cX11_runFromRow 55 = .ok (.iadd, 1) := by decide +kernel
theorem dX11_runFromRow_56 : decode cX11_runFromRow 56 = .ok (.laload, 1) := by decide +kernel
theorem dX11_runFromRow_57 : decode cX11_runFromRow 57 = .ok (.l2i, 1) := by decide +kernel
theorem dX11_runFromRow_58 : decode cX11_runFromRow 58 = .ok (.istore 7, 2) := by decide +kernel
theorem dX11_runFromRow_60 : decode cX11_runFromRow 60 = .ok (.aload 4, 2) := by decide +kernel
theorem dX11_runFromRow_62 : decode cX11_runFromRow 62 = .ok (.iload 5, 2) := by decide +kernel
theorem dX11_runFromRow_64 : decode cX11_runFromRow 64 = .ok (.iconst 2, 1) := by decide +kernel
theorem dX11_runFromRow_65 : decode cX11_runFromRow 65 = .ok (.iadd, 1) := by decide +kernel
theorem dX11_runFromRow_66 : decode cX11_runFromRow 66 = .ok (.laload, 1) := by decide +kernel
theorem dX11_runFromRow_67 : decode cX11_runFromRow 67 = .ok (.l2i, 1) := by decide +kernel
theorem dX11_runFromRow_68 : decode cX11_runFromRow 68 = .ok (.istore 8, 2) := by decide +kernel
theorem dX11_runFromRow_70 : decode cX11_runFromRow 70 = .ok (.aload 4, 2) := by decide +kernel
theorem dX11_runFromRow_72 : decode cX11_runFromRow 72 = .ok (.iload 5, 2) := by decide +kernel
theorem dX11_runFromRow_74 : decode cX11_runFromRow 74 = .ok (.iconst 3, 1) := by decide +kernel
theorem dX11_runFromRow_75 : decode cX11_runFromRow 75 = .ok (.iadd, 1) := by decide +kernel
theorem dX11_runFromRow_76 : decode cX11_runFromRow 76 = .ok (.laload, 1) := by decide +kernel
theorem dX11_runFromRow_77 : decode cX11_runFromRow 77 = .ok (.l2i, 1) := by decide +kernel
theorem dX11_runFromRow_78 : decode cX11_runFromRow 78 = .ok (.istore 9, 2) := by decide +kernel
theorem dX11_runFromRow_80 : decode cX11_runFromRow 80 = .ok (.aload 4, 2) := by decide +kernel
theorem dX11_runFromRow_82 : decode cX11_runFromRow 82 = .ok (.iload 5, 2) := by decide +kernel
theorem dX11_runFromRow_84 : decode cX11_runFromRow 84 = .ok (.iconst 4, 1) := by decide +kernel
theorem dX11_runFromRow_85 : decode cX11_runFromRow 85 = .ok (.iadd, 1) := by decide +kernel
theorem dX11_runFromRow_86 : decode cX11_runFromRow 86 = .ok (.laload, 1) := by decide +kernel
theorem dX11_runFromRow_87 : decode cX11_runFromRow 87 = .ok (.l2i, 1) := by decide +kernel
theorem dX11_runFromRow_88 : decode cX11_runFromRow 88 = .ok (.istore 10, 2) := by decide +kernel
theorem dX11_runFromRow_90 : decode cX11_runFromRow 90 = .ok (.aload_n 0, 1) := by decide +kernel
theorem dX11_runFromRow_91 : decode cX11_runFromRow 91 = .ok (.iload 6, 2) := by decide +kernel
theorem dX11_runFromRow_93 : decode cX11_runFromRow 93 = .ok (.iload 7, 2) := by decide +kernel
theorem dX11_runFromRow_95 : decode cX11_runFromRow 95 = .ok (.iload 8, 2) := by decide +kernel
theorem dX11_runFromRow_97 : decode cX11_runFromRow 97 = .ok (.iload 9, 2) := by decide +kernel
theorem dX11_runFromRow_99 : decode cX11_runFromRow 99 = .ok (.iload 10, 2) := by decide +kernel
theorem dX11_runFromRow_101 : decode cX11_runFromRow 101 = .ok (.invokevirtual 104, 3) := by decide +kernel
theorem dX11_runFromRow_104 : decode cX11_runFromRow 104 = .ok (.ifCond .eq 29, 3) := by decide +kernel
theorem dX11_runFromRow_107 : decode cX11_runFromRow 107 = .ok (.aload_n 0, 1) := by decide +kernel
theorem dX11_runFromRow_108 : decode cX11_runFromRow 108 = .ok (.getfield 35, 3) := by decide +kernel
theorem dX11_runFromRow_111 : decode cX11_runFromRow 111 = .ok (.iload 6, 2) := by decide +kernel
theorem dX11_runFromRow_113 : decode cX11_runFromRow 113 = .ok (.iload 7, 2) := by decide +kernel
theorem dX11_runFromRow_115 : decode cX11_runFromRow 115 = .ok (.iload 8, 2) := by decide +kernel
theorem dX11_runFromRow_117 : decode cX11_runFromRow 117 = .ok (.iload 9, 2) := by decide +kernel
theorem dX11_runFromRow_119 : decode cX11_runFromRow 119 = .ok (.iload 10, 2) := by decide +kernel
theorem dX11_runFromRow_121 : decode cX11_runFromRow 121 = .ok (.invokevirtual 108, 3) := by decide +kernel
theorem dX11_runFromRow_124 : decode cX11_runFromRow 124 = .ok (.bipush (-3), 2) := by decide +kernel
theorem dX11_runFromRow_126 : decode cX11_runFromRow 126 = .ok (.if_icmp .eq 7, 3) := by decide +kernel
theorem dX11_runFromRow_129 : decode cX11_runFromRow 129 = .ok (.iconst 1, 1) := by decide +kernel
theorem dX11_runFromRow_130 : decode cX11_runFromRow 130 = .ok (.goto 4, 3) := by decide +kernel
theorem dX11_runFromRow_133 : decode cX11_runFromRow 133 = .ok (.iconst 0, 1) := by decide +kernel
theorem dX11_runFromRow_134 : decode cX11_runFromRow 134 = .ok (.ireturn, 1) := by decide +kernel
theorem dX11_isRun_0 : decode cX11_isRun 0 = .ok (.aload_n 0, 1) := by decide +kernel
theorem dX11_isRun_1 : decode cX11_isRun 1 = .ok (.getfield 10, 3) := by decide +kernel
theorem dX11_isRun_4 : decode cX11_isRun 4 = .ok (.iload_n 1, 1) := by decide +kernel
theorem dX11_isRun_5 : decode cX11_isRun 5 = .ok (.invokevirtual 132, 3) := by decide +kernel
theorem dX11_isRun_8 : decode cX11_isRun 8 = .ok (.ifCond .eq 59, 3) := by decide +kernel
theorem dX11_isRun_11 : decode cX11_isRun 11 = .ok (.aload_n 0, 1) := by decide +kernel
theorem dX11_isRun_12 : decode cX11_isRun 12 = .ok (.getfield 26, 3) := by decide +kernel
theorem dX11_isRun_15 : decode cX11_isRun 15 = .ok (.iload_n 2, 1) := by decide +kernel
theorem dX11_isRun_16 : decode cX11_isRun 16 = .ok (.invokevirtual 133, 3) := by decide +kernel
theorem dX11_isRun_19 : decode cX11_isRun 19 = .ok (.ifCond .eq 48, 3) := by decide +kernel
theorem dX11_isRun_22 : decode cX11_isRun 22 = .ok (.iload_n 3, 1) := by decide +kernel
theorem dX11_isRun_23 : decode cX11_isRun 23 = .ok (.iconst 0, 1) := by decide +kernel
theorem dX11_isRun_24 : decode cX11_isRun 24 = .ok (.bipush 99, 2) := by decide +kernel
theorem dX11_isRun_26 : decode cX11_isRun 26 = .ok (.invokestatic 89, 3) := by decide +kernel
theorem dX11_isRun_29 : decode cX11_isRun 29 = .ok (.ifCond .eq 38, 3) := by decide +kernel
theorem dX11_isRun_32 : decode cX11_isRun 32 = .ok (.iload 4, 2) := by decide +kernel
theorem dX11_isRun_34 : decode cX11_isRun 34 = .ok (.bipush 10, 2) := by decide +kernel
theorem dX11_isRun_36 : decode cX11_isRun 36 = .ok (.sipush 29999, 3) := by decide +kernel
theorem dX11_isRun_39 : decode cX11_isRun 39 = .ok (.invokestatic 89, 3) := by decide +kernel
theorem dX11_isRun_42 : decode cX11_isRun 42 = .ok (.ifCond .eq 25, 3) := by decide +kernel
theorem dX11_isRun_45 : decode cX11_isRun 45 = .ok (.iload 5, 2) := by decide +kernel
theorem dX11_isRun_47 : decode cX11_isRun 47 = .ok (.iconst (-1), 1) := by decide +kernel
theorem dX11_isRun_48 : decode cX11_isRun 48 = .ok (.if_icmp .eq 15, 3) := by decide +kernel
theorem dX11_isRun_51 : decode cX11_isRun 51 = .ok (.aload_n 0, 1) := by decide +kernel
theorem dX11_isRun_52 : decode cX11_isRun 52 = .ok (.getfield 19, 3) := by decide +kernel
theorem dX11_isRun_55 : decode cX11_isRun 55 = .ok (.iload 5, 2) := by decide +kernel
theorem dX11_isRun_57 : decode cX11_isRun 57 = .ok (.invokevirtual 134, 3) := by decide +kernel
theorem dX11_isRun_60 : decode cX11_isRun 60 = .ok (.ifCond .eq 7, 3) := by decide +kernel
theorem dX11_isRun_63 : decode cX11_isRun 63 = .ok (.iconst 1, 1) := by decide +kernel
theorem dX11_isRun_64 : decode cX11_isRun 64 = .ok (.goto 4, 3) := by decide +kernel
theorem dX11_isRun_67 : decode cX11_isRun 67 = .ok (.iconst 0, 1) := by decide +kernel
theorem dX11_isRun_68 : decode cX11_isRun 68 = .ok (.ireturn, 1) := by decide +kernel
theorem dX11_of_0 : decode cX11_of 0 = .ok (.aload_n 0, 1) := by decide +kernel
theorem dX11_of_1 : decode cX11_of 1 = .ok (.getfield 35, 3) := by decide +kernel
theorem dX11_of_4 : decode cX11_of 4 = .ok (.iload_n 1, 1) := by decide +kernel
theorem dX11_of_5 : decode cX11_of 5 = .ok (.invokevirtual 135, 3) := by decide +kernel
theorem dX11_of_8 : decode cX11_of 8 = .ok (.ifCond .ne 6, 3) := by decide +kernel
theorem dX11_of_11 : decode cX11_of 11 = .ok (.ldc 136, 2) := by decide +kernel
theorem dX11_of_13 : decode cX11_of 13 = .ok (.ireturn, 1) := by decide +kernel
theorem dX11_of_14 : decode cX11_of 14 = .ok (.iload_n 2, 1) := by decide +kernel
theorem dX11_of_15 : decode cX11_of 15 = .ok (.tableswitch 122 0 7 #[45, 55, 65, 75, 85, 95, 104, 113], 45) := by decide +kernel
theorem dX11_of_60 : decode cX11_of 60 = .ok (.aload_n 0, 1) := by decide +kernel
theorem dX11_of_61 : decode cX11_of 61 = .ok (.getfield 35, 3) := by decide +kernel
theorem dX11_of_64 : decode cX11_of 64 = .ok (.getfield 137, 3) := by decide +kernel
theorem dX11_of_67 : decode cX11_of 67 = .ok (.iload_n 1, 1) := by decide +kernel
theorem dX11_of_68 : decode cX11_of 68 = .ok (.iaload, 1) := by decide +kernel
theorem dX11_of_69 : decode cX11_of 69 = .ok (.ireturn, 1) := by decide +kernel
theorem dX11_of_70 : decode cX11_of 70 = .ok (.aload_n 0, 1) := by decide +kernel
theorem dX11_of_71 : decode cX11_of 71 = .ok (.getfield 35, 3) := by decide +kernel
theorem dX11_of_74 : decode cX11_of 74 = .ok (.getfield 139, 3) := by decide +kernel
theorem dX11_of_77 : decode cX11_of 77 = .ok (.iload_n 1, 1) := by decide +kernel
theorem dX11_of_78 : decode cX11_of 78 = .ok (.iaload, 1) := by decide +kernel
theorem dX11_of_79 : decode cX11_of 79 = .ok (.ireturn, 1) := by decide +kernel
theorem dX11_of_80 : decode cX11_of 80 = .ok (.aload_n 0, 1) := by decide +kernel
theorem dX11_of_81 : decode cX11_of 81 = .ok (.getfield 35, 3) := by decide +kernel
theorem dX11_of_84 : decode cX11_of 84 = .ok (.getfield 141, 3) := by decide +kernel
theorem dX11_of_87 : decode cX11_of 87 = .ok (.iload_n 1, 1) := by decide +kernel
theorem dX11_of_88 : decode cX11_of 88 = .ok (.iaload, 1) := by decide +kernel
theorem dX11_of_89 : decode cX11_of 89 = .ok (.ireturn, 1) := by decide +kernel
theorem dX11_of_90 : decode cX11_of 90 = .ok (.aload_n 0, 1) := by decide +kernel
theorem dX11_of_91 : decode cX11_of 91 = .ok (.getfield 35, 3) := by decide +kernel
theorem dX11_of_94 : decode cX11_of 94 = .ok (.getfield 144, 3) := by decide +kernel
theorem dX11_of_97 : decode cX11_of 97 = .ok (.iload_n 1, 1) := by decide +kernel
theorem dX11_of_98 : decode cX11_of 98 = .ok (.iaload, 1) := by decide +kernel
theorem dX11_of_99 : decode cX11_of 99 = .ok (.ireturn, 1) := by decide +kernel
theorem dX11_of_100 : decode cX11_of 100 = .ok (.aload_n 0, 1) := by decide +kernel
theorem dX11_of_101 : decode cX11_of 101 = .ok (.getfield 35, 3) := by decide +kernel
theorem dX11_of_104 : decode cX11_of 104 = .ok (.getfield 147, 3) := by decide +kernel
theorem dX11_of_107 : decode cX11_of 107 = .ok (.iload_n 1, 1) := by decide +kernel
theorem dX11_of_108 : decode cX11_of 108 = .ok (.iaload, 1) := by decide +kernel
theorem dX11_of_109 : decode cX11_of 109 = .ok (.ireturn, 1) := by decide +kernel
theorem dX11_of_110 : decode cX11_of 110 = .ok (.aload_n 0, 1) := by decide +kernel
theorem dX11_of_111 : decode cX11_of 111 = .ok (.getfield 35, 3) := by decide +kernel
theorem dX11_of_114 : decode cX11_of 114 = .ok (.iload_n 1, 1) := by decide +kernel
theorem dX11_of_115 : decode cX11_of 115 = .ok (.invokevirtual 149, 3) := by decide +kernel
theorem dX11_of_118 : decode cX11_of 118 = .ok (.ireturn, 1) := by decide +kernel
theorem dX11_of_119 : decode cX11_of 119 = .ok (.aload_n 0, 1) := by decide +kernel
theorem dX11_of_120 : decode cX11_of 120 = .ok (.getfield 35, 3) := by decide +kernel
theorem dX11_of_123 : decode cX11_of 123 = .ok (.iload_n 1, 1) := by decide +kernel
theorem dX11_of_124 : decode cX11_of 124 = .ok (.invokevirtual 152, 3) := by decide +kernel
theorem dX11_of_127 : decode cX11_of 127 = .ok (.ireturn, 1) := by decide +kernel
theorem dX11_of_128 : decode cX11_of 128 = .ok (.aload_n 0, 1) := by decide +kernel
theorem dX11_of_129 : decode cX11_of 129 = .ok (.getfield 35, 3) := by decide +kernel
theorem dX11_of_132 : decode cX11_of 132 = .ok (.iload_n 1, 1) := by decide +kernel
theorem dX11_of_133 : decode cX11_of 133 = .ok (.invokevirtual 155, 3) := by decide +kernel
theorem dX11_of_136 : decode cX11_of 136 = .ok (.ireturn, 1) := by decide +kernel
theorem dX11_of_137 : decode cX11_of 137 = .ok (.ldc 136, 2) := by decide +kernel
theorem dX11_of_139 : decode cX11_of 139 = .ok (.ireturn, 1) := by decide +kernel
theorem dX11_mend_0 : decode cX11_mend 0 = .ok (.aload_n 0, 1) := by decide +kernel
theorem dX11_mend_1 : decode cX11_mend 1 = .ok (.iload_n 1, 1) := by decide +kernel
theorem dX11_mend_2 : decode cX11_mend 2 = .ok (.iload_n 2, 1) := by decide +kernel
theorem dX11_mend_3 : decode cX11_mend 3 = .ok (.iload_n 3, 1) := by decide +kernel
theorem dX11_mend_4 : decode cX11_mend 4 = .ok (.invokevirtual 158, 3) := by decide +kernel
theorem dX11_mend_7 : decode cX11_mend 7 = .ok (.ifCond .ne 6, 3) := by decide +kernel
theorem dX11_mend_10 : decode cX11_mend 10 = .ok (.ldc 136, 2) := by decide +kernel
theorem dX11_mend_12 : decode cX11_mend 12 = .ok (.ireturn, 1) := by decide +kernel
theorem dX11_mend_13 : decode cX11_mend 13 = .ok (.aload_n 0, 1) := by decide +kernel
theorem dX11_mend_14 : decode cX11_mend 14 = .ok (.getfield 44, 3) := by decide +kernel
theorem dX11_mend_17 : decode cX11_mend 17 = .ok (.iload_n 1, 1) := by decide +kernel
theorem dX11_mend_18 : decode cX11_mend 18 = .ok (.iload_n 2, 1) := by decide +kernel
theorem dX11_mend_19 : decode cX11_mend 19 = .ok (.invokevirtual 161, 3) := by decide +kernel
theorem dX11_mend_22 : decode cX11_mend 22 = .ok (.istore 4, 2) := by decide +kernel
theorem dX11_mend_24 : decode cX11_mend 24 = .ok (.iload_n 3, 1) := by decide +kernel
theorem dX11_mend_25 : decode cX11_mend 25 = .ok (.iload 4, 2) := by decide +kernel
theorem dX11_mend_27 : decode cX11_mend 27 = .ok (.if_icmp .eq 15, 3) := by decide +kernel
theorem dX11_mend_30 : decode cX11_mend 30 = .ok (.aload_n 0, 1) := by decide +kernel
theorem dX11_mend_31 : decode cX11_mend 31 = .ok (.getfield 44, 3) := by decide +kernel
theorem dX11_mend_34 : decode cX11_mend 34 = .ok (.iload_n 1, 1) := by decide +kernel
theorem dX11_mend_35 : decode cX11_mend 35 = .ok (.iload_n 2, 1) := by decide +kernel
theorem dX11_mend_36 : decode cX11_mend 36 = .ok (.iload 4, 2) := by decide +kernel
theorem dX11_mend_38 : decode cX11_mend 38 = .ok (.iload_n 3, 1) := by decide +kernel
theorem dX11_mend_39 : decode cX11_mend 39 = .ok (.invokevirtual 165, 3) := by decide +kernel
theorem dX11_mend_42 : decode cX11_mend 42 = .ok (.iload 4, 2) := by decide +kernel
theorem dX11_mend_44 : decode cX11_mend 44 = .ok (.ireturn, 1) := by decide +kernel
theorem dX11_isMending_0 : decode cX11_isMending 0 = .ok (.iload_n 2, 1) := by decide +kernel
theorem dX11_isMending_1 : decode cX11_isMending 1 = .ok (.tableswitch 121 0 2 #[27, 56, 89], 27) := by decide +kernel
theorem dX11_isMending_28 : decode cX11_isMending 28 = .ok (.aload_n 0, 1) := by decide +kernel
theorem dX11_isMending_29 : decode cX11_isMending 29 = .ok (.getfield 35, 3) := by decide +kernel
theorem dX11_isMending_32 : decode cX11_isMending 32 = .ok (.iload_n 1, 1) := by decide +kernel
theorem dX11_isMending_33 : decode cX11_isMending 33 = .ok (.invokevirtual 135, 3) := by decide +kernel
theorem dX11_isMending_36 : decode cX11_isMending 36 = .ok (.ifCond .eq 19, 3) := by decide +kernel
theorem dX11_isMending_39 : decode cX11_isMending 39 = .ok (.iload_n 3, 1) := by decide +kernel
theorem dX11_isMending_40 : decode cX11_isMending 40 = .ok (.bipush 10, 2) := by decide +kernel
theorem dX11_isMending_42 : decode cX11_isMending 42 = .ok (.sipush 29999, 3) := by decide +kernel
theorem dX11_isMending_45 : decode cX11_isMending 45 = .ok (.invokestatic 89, 3) := by decide +kernel
theorem dX11_isMending_48 : decode cX11_isMending 48 = .ok (.ifCond .eq 7, 3) := by decide +kernel
theorem dX11_isMending_51 : decode cX11_isMending 51 = .ok (.iconst 1, 1) := by decide +kernel
theorem dX11_isMending_52 : decode cX11_isMending 52 = .ok (.goto 4, 3) := by decide +kernel
theorem dX11_isMending_55 : decode cX11_isMending 55 = .ok (.iconst 0, 1) := by decide +kernel
theorem dX11_isMending_56 : decode cX11_isMending 56 = .ok (.ireturn, 1) := by decide +kernel
theorem dX11_isMending_57 : decode cX11_isMending 57 = .ok (.aload_n 0, 1) := by decide +kernel
theorem dX11_isMending_58 : decode cX11_isMending 58 = .ok (.getfield 35, 3) := by decide +kernel
theorem dX11_isMending_61 : decode cX11_isMending 61 = .ok (.iload_n 1, 1) := by decide +kernel
theorem dX11_isMending_62 : decode cX11_isMending 62 = .ok (.invokevirtual 135, 3) := by decide +kernel
theorem dX11_isMending_65 : decode cX11_isMending 65 = .ok (.ifCond .eq 23, 3) := by decide +kernel
theorem dX11_isMending_68 : decode cX11_isMending 68 = .ok (.iload_n 3, 1) := by decide +kernel
theorem dX11_isMending_69 : decode cX11_isMending 69 = .ok (.iconst (-1), 1) := by decide +kernel
theorem dX11_isMending_70 : decode cX11_isMending 70 = .ok (.if_icmp .eq 14, 3) := by decide +kernel
theorem dX11_isMending_73 : decode cX11_isMending 73 = .ok (.aload_n 0, 1) := by decide +kernel
theorem dX11_isMending_74 : decode cX11_isMending 74 = .ok (.getfield 19, 3) := by decide +kernel
theorem dX11_isMending_77 : decode cX11_isMending 77 = .ok (.iload_n 3, 1) := by decide +kernel
theorem dX11_isMending_78 : decode cX11_isMending 78 = .ok (.invokevirtual 134, 3) := by decide +kernel
theorem dX11_isMending_81 : decode cX11_isMending 81 = .ok (.ifCond .eq 7, 3) := by decide +kernel
theorem dX11_isMending_84 : decode cX11_isMending 84 = .ok (.iconst 1, 1) := by decide +kernel
theorem dX11_isMending_85 : decode cX11_isMending 85 = .ok (.goto 4, 3) := by decide +kernel
theorem dX11_isMending_88 : decode cX11_isMending 88 = .ok (.iconst 0, 1) := by decide +kernel
theorem dX11_isMending_89 : decode cX11_isMending 89 = .ok (.ireturn, 1) := by decide +kernel
theorem dX11_isMending_90 : decode cX11_isMending 90 = .ok (.aload_n 0, 1) := by decide +kernel
theorem dX11_isMending_91 : decode cX11_isMending 91 = .ok (.getfield 19, 3) := by decide +kernel
theorem dX11_isMending_94 : decode cX11_isMending 94 = .ok (.iload_n 1, 1) := by decide +kernel
theorem dX11_isMending_95 : decode cX11_isMending 95 = .ok (.invokevirtual 134, 3) := by decide +kernel
theorem dX11_isMending_98 : decode cX11_isMending 98 = .ok (.ifCond .eq 22, 3) := by decide +kernel
theorem dX11_isMending_101 : decode cX11_isMending 101 = .ok (.iload_n 1, 1) := by decide +kernel
theorem dX11_isMending_102 : decode cX11_isMending 102 = .ok (.ifCond .eq 18, 3) := by decide +kernel
theorem dX11_isMending_105 : decode cX11_isMending 105 = .ok (.iload_n 3, 1) := by decide +kernel
theorem dX11_isMending_106 : decode cX11_isMending 106 = .ok (.bipush (-99), 2) := by decide +kernel
theorem dX11_isMending_108 : decode cX11_isMending 108 = .ok (.bipush 99, 2) := by decide +kernel
theorem dX11_isMending_110 : decode cX11_isMending 110 = .ok (.invokestatic 89, 3) := by decide +kernel
theorem dX11_isMending_113 : decode cX11_isMending 113 = .ok (.ifCond .eq 7, 3) := by decide +kernel
theorem dX11_isMending_116 : decode cX11_isMending 116 = .ok (.iconst 1, 1) := by decide +kernel
theorem dX11_isMending_117 : decode cX11_isMending 117 = .ok (.goto 4, 3) := by decide +kernel
theorem dX11_isMending_120 : decode cX11_isMending 120 = .ok (.iconst 0, 1) := by decide +kernel
theorem dX11_isMending_121 : decode cX11_isMending 121 = .ok (.ireturn, 1) := by decide +kernel
theorem dX11_isMending_122 : decode cX11_isMending 122 = .ok (.iconst 0, 1) := by decide +kernel
theorem dX11_isMending_123 : decode cX11_isMending 123 = .ok (.ireturn, 1) := by decide +kernel
theorem dX11_feed_0 : decode cX11_feed 0 = .ok (.iload_n 1, 1) := by decide +kernel
theorem dX11_feed_1 : decode cX11_feed 1 = .ok (.iconst 1, 1) := by decide +kernel
theorem dX11_feed_2 : decode cX11_feed 2 = .ok (.iconst 4, 1) := by decide +kernel
theorem dX11_feed_3 : decode cX11_feed 3 = .ok (.invokestatic 89, 3) := by decide +kernel
theorem dX11_feed_6 : decode cX11_feed 6 = .ok (.ifCond .ne 5, 3) := by decide +kernel
theorem dX11_feed_9 : decode cX11_feed 9 = .ok (.iconst (-1), 1) := by decide +kernel
theorem dX11_feed_10 : decode cX11_feed 10 = .ok (.ireturn, 1) := by decide +kernel
theorem dX11_feed_11 : decode cX11_feed 11 = .ok (.aload_n 0, 1) := by decide +kernel
theorem dX11_feed_12 : decode cX11_feed 12 = .ok (.getfield 51, 3) := by decide +kernel
theorem dX11_feed_15 : decode cX11_feed 15 = .ok (.iload_n 1, 1) := by decide +kernel
theorem dX11_feed_16 : decode cX11_feed 16 = .ok (.iload_n 2, 1) := by decide +kernel
theorem dX11_feed_17 : decode cX11_feed 17 = .ok (.invokevirtual 168, 3) := by decide +kernel
theorem dX11_feed_20 : decode cX11_feed 20 = .ok (.ireturn, 1) := by decide +kernel
theorem dX11_law_0 : decode cX11_law 0 = .ok (.aload_n 0, 1) := by decide +kernel
theorem dX11_law_1 : decode cX11_law 1 = .ok (.getfield 51, 3) := by decide +kernel
theorem dX11_law_4 : decode cX11_law 4 = .ok (.invokevirtual 171, 3) := by decide +kernel
theorem dX11_law_7 : decode cX11_law 7 = .ok (.ireturn, 1) := by decide +kernel
theorem dX11_eyes_0 : decode cX11_eyes 0 = .ok (.iload_n 1, 1) := by decide +kernel
theorem dX11_eyes_1 : decode cX11_eyes 1 = .ok (.iconst 0, 1) := by decide +kernel
theorem dX11_eyes_2 : decode cX11_eyes 2 = .ok (.bipush 100, 2) := by decide +kernel
theorem dX11_eyes_4 : decode cX11_eyes 4 = .ok (.invokestatic 89, 3) := by decide +kernel
theorem dX11_eyes_7 : decode cX11_eyes 7 = .ok (.ifCond .ne 5, 3) := by decide +kernel
theorem dX11_eyes_10 : decode cX11_eyes 10 = .ok (.iconst (-1), 1) := by decide +kernel
theorem dX11_eyes_11 : decode cX11_eyes 11 = .ok (.ireturn, 1) := by decide +kernel
theorem dX11_eyes_12 : decode cX11_eyes 12 = .ok (.aload_n 0, 1) := by decide +kernel
theorem dX11_eyes_13 : decode cX11_eyes 13 = .ok (.getfield 85, 3) := by decide +kernel
theorem dX11_eyes_16 : decode cX11_eyes 16 = .ok (.istore_n 2, 1) := by decide +kernel
theorem dX11_eyes_17 : decode cX11_eyes 17 = .ok (.aload_n 0, 1) := by decide +kernel
theorem dX11_eyes_18 : decode cX11_eyes 18 = .ok (.iload_n 1, 1) := by decide +kernel
theorem dX11_eyes_19 : decode cX11_eyes 19 = .ok (.putfield 85, 3) := by decide +kernel
theorem dX11_eyes_22 : decode cX11_eyes 22 = .ok (.iload_n 2, 1) := by decide +kernel
theorem dX11_eyes_23 : decode cX11_eyes 23 = .ok (.ireturn, 1) := by decide +kernel
theorem dX11_race_0 : decode cX11_race 0 = .ok (.iload_n 1, 1) := by decide +kernel
theorem dX11_race_1 : decode cX11_race 1 = .ok (.bipush 10, 2) := by decide +kernel
theorem dX11_race_3 : decode cX11_race 3 = .ok (.idiv, 1) := by decide +kernel
theorem dX11_race_4 : decode cX11_race 4 = .ok (.istore 5, 2) := by decide +kernel
theorem dX11_race_6 : decode cX11_race 6 = .ok (.iload_n 1, 1) := by decide +kernel
theorem dX11_race_7 : decode cX11_race 7 = .ok (.bipush 10, 2) := by decide +kernel
