theorem dX12_since_8 : decode cX12_since 8 = .ok (.invokevirtual 277, 3) := by decide +kernel
theorem dX12_since_11 : decode cX12_since 11 = .ok (.istore_n 2, 1) := by decide +kernel
theorem dX12_since_12 : decode cX12_since 12 = .ok (.iload_n 1, 1) := by decide +kernel
theorem dX12_since_13 : decode cX12_since 13 = .ok (.ldc 156, 2) := by decide +kernel
theorem dX12_since_15 : decode cX12_since 15 = .ok (.if_icmp .eq 9, 3) := by decide +kernel
theorem dX12_since_18 : decode cX12_since 18 = .ok (.iload_n 2, 1) := by decide +kernel
theorem dX12_since_19 : decode cX12_since 19 = .ok (.ldc 156, 2) := by decide +kernel
theorem dX12_since_21 : decode cX12_since 21 = .ok (.if_icmp .ne 8, 3) := by decide +kernel
theorem dX12_since_24 : decode cX12_since 24 = .ok (.ldc 156, 2) := by decide +kernel
theorem dX12_since_26 : decode cX12_since 26 = .ok (.goto 6, 3) := by decide +kernel
theorem dX12_since_29 : decode cX12_since 29 = .ok (.iload_n 1, 1) := by decide +kernel
theorem dX12_since_30 : decode cX12_since 30 = .ok (.iload_n 2, 1) := by decide +kernel
theorem dX12_since_31 : decode cX12_since 31 = .ok (.isub, 1) := by decide +kernel
theorem dX12_since_32 : decode cX12_since 32 = .ok (.ireturn, 1) := by decide +kernel
theorem dX12_besideOf_0 : decode cX12_besideOf 0 = .ok (.iload_n 0, 1) := by decide +kernel
theorem dX12_besideOf_1 : decode cX12_besideOf 1 = .ok (.iload_n 1, 1) := by decide +kernel
theorem dX12_besideOf_2 : decode cX12_besideOf 2 = .ok (.idiv, 1) := by decide +kernel
theorem dX12_besideOf_3 : decode cX12_besideOf 3 = .ok (.istore 4, 2) := by decide +kernel
theorem dX12_besideOf_5 : decode cX12_besideOf 5 = .ok (.iload 4, 2) := by decide +kernel
theorem dX12_besideOf_7 : decode cX12_besideOf 7 = .ok (.iload_n 2, 1) := by decide +kernel
theorem dX12_besideOf_8 : decode cX12_besideOf 8 = .ok (.iload_n 3, 1) := by decide +kernel
theorem dX12_besideOf_9 : decode cX12_besideOf 9 = .ok (.idiv, 1) := by decide +kernel
theorem dX12_besideOf_10 : decode cX12_besideOf 10 = .ok (.isub, 1) := by decide +kernel
theorem dX12_besideOf_11 : decode cX12_besideOf 11 = .ok (.sipush 1000, 3) := by decide +kernel
theorem dX12_besideOf_14 : decode cX12_besideOf 14 = .ok (.imul, 1) := by decide +kernel
theorem dX12_besideOf_15 : decode cX12_besideOf 15 = .ok (.iload 4, 2) := by decide +kernel
theorem dX12_besideOf_17 : decode cX12_besideOf 17 = .ok (.idiv, 1) := by decide +kernel
theorem dX12_besideOf_18 : decode cX12_besideOf 18 = .ok (.ireturn, 1) := by decide +kernel
theorem dX12_findRace_0 : decode cX12_findRace 0 = .ok (.aload_n 0, 1) := by decide +kernel
theorem dX12_findRace_1 : decode cX12_findRace 1 = .ok (.iconst 0, 1) := by decide +kernel
theorem dX12_findRace_2 : decode cX12_findRace 2 = .ok (.putfield 280, 3) := by decide +kernel
theorem dX12_findRace_5 : decode cX12_findRace 5 = .ok (.aload_n 0, 1) := by decide +kernel
theorem dX12_findRace_6 : decode cX12_findRace 6 = .ok (.iconst 0, 1) := by decide +kernel
theorem dX12_findRace_7 : decode cX12_findRace 7 = .ok (.putfield 283, 3) := by decide +kernel
theorem dX12_findRace_10 : decode cX12_findRace 10 = .ok (.aload_n 0, 1) := by decide +kernel
theorem dX12_findRace_11 : decode cX12_findRace 11 = .ok (.iconst 0, 1) := by decide +kernel
theorem dX12_findRace_12 : decode cX12_findRace 12 = .ok (.putfield 286, 3) := by decide +kernel
theorem dX12_findRace_15 : decode cX12_findRace 15 = .ok (.aload_n 0, 1) := by decide +kernel
theorem dX12_findRace_16 : decode cX12_findRace 16 = .ok (.iconst 0, 1) := by decide +kernel
theorem dX12_findRace_17 : decode cX12_findRace 17 = .ok (.putfield 289, 3) := by decide +kernel
theorem dX12_findRace_20 : decode cX12_findRace 20 = .ok (.aload_n 0, 1) := by decide +kernel
theorem dX12_findRace_21 : decode cX12_findRace 21 = .ok (.iconst 0, 1) := by decide +kernel
theorem dX12_findRace_22 : decode cX12_findRace 22 = .ok (.putfield 292, 3) := by decide +kernel
theorem dX12_findRace_25 : decode cX12_findRace 25 = .ok (.iconst 0, 1) := by decide +kernel
theorem dX12_findRace_26 : decode cX12_findRace 26 = .ok (.istore_n 3, 1) := by decide +kernel
theorem dX12_findRace_27 : decode cX12_findRace 27 = .ok (.iload_n 3, 1) := by decide +kernel
theorem dX12_findRace_28 : decode cX12_findRace 28 = .ok (.aload_n 0, 1) := by decide +kernel
theorem dX12_findRace_29 : decode cX12_findRace 29 = .ok (.getfield 128, 3) := by decide +kernel
theorem dX12_findRace_32 : decode cX12_findRace 32 = .ok (.if_icmp .ge 112, 3) := by decide +kernel
theorem dX12_findRace_35 : decode cX12_findRace 35 = .ok (.aload_n 0, 1) := by decide +kernel
theorem dX12_findRace_36 : decode cX12_findRace 36 = .ok (.getfield 37, 3) := by decide +kernel
theorem dX12_findRace_39 : decode cX12_findRace 39 = .ok (.iload_n 3, 1) := by decide +kernel
theorem dX12_findRace_40 : decode cX12_findRace 40 = .ok (.iaload, 1) := by decide +kernel
theorem dX12_findRace_41 : decode cX12_findRace 41 = .ok (.iload_n 1, 1) := by decide +kernel
theorem dX12_findRace_42 : decode cX12_findRace 42 = .ok (.if_icmp .ne 96, 3) := by decide +kernel
theorem dX12_findRace_45 : decode cX12_findRace 45 = .ok (.aload_n 0, 1) := by decide +kernel
theorem dX12_findRace_46 : decode cX12_findRace 46 = .ok (.getfield 40, 3) := by decide +kernel
theorem dX12_findRace_49 : decode cX12_findRace 49 = .ok (.iload_n 3, 1) := by decide +kernel
theorem dX12_findRace_50 : decode cX12_findRace 50 = .ok (.iaload, 1) := by decide +kernel
theorem dX12_findRace_51 : decode cX12_findRace 51 = .ok (.iload_n 2, 1) := by decide +kernel
theorem dX12_findRace_52 : decode cX12_findRace 52 = .ok (.if_icmp .eq 6, 3) := by decide +kernel
theorem dX12_findRace_55 : decode cX12_findRace 55 = .ok (.goto 83, 3) := by decide +kernel
theorem dX12_findRace_58 : decode cX12_findRace 58 = .ok (.aload_n 0, 1) := by decide +kernel
theorem dX12_findRace_59 : decode cX12_findRace 59 = .ok (.iload_n 3, 1) := by decide +kernel
theorem dX12_findRace_60 : decode cX12_findRace 60 = .ok (.invokevirtual 295, 3) := by decide +kernel
theorem dX12_findRace_63 : decode cX12_findRace 63 = .ok (.ifCond .eq 30, 3) := by decide +kernel
theorem dX12_findRace_66 : decode cX12_findRace 66 = .ok (.aload_n 0, 1) := by decide +kernel
theorem dX12_findRace_67 : decode cX12_findRace 67 = .ok (.dup, 1) := by decide +kernel
theorem dX12_findRace_68 : decode cX12_findRace 68 = .ok (.getfield 283, 3) := by decide +kernel
theorem dX12_findRace_71 : decode cX12_findRace 71 = .ok (.iconst 1, 1) := by decide +kernel
theorem dX12_findRace_72 : decode cX12_findRace 72 = .ok (.iadd, 1) := by decide +kernel
theorem dX12_findRace_73 : decode cX12_findRace 73 = .ok (.putfield 283, 3) := by decide +kernel
theorem dX12_findRace_76 : decode cX12_findRace 76 = .ok (.aload_n 0, 1) := by decide +kernel
theorem dX12_findRace_77 : decode cX12_findRace 77 = .ok (.dup, 1) := by decide +kernel
theorem dX12_findRace_78 : decode cX12_findRace 78 = .ok (.getfield 280, 3) := by decide +kernel
theorem dX12_findRace_81 : decode cX12_findRace 81 = .ok (.aload_n 0, 1) := by decide +kernel
theorem dX12_findRace_82 : decode cX12_findRace 82 = .ok (.iload_n 3, 1) := by decide +kernel
theorem dX12_findRace_83 : decode cX12_findRace 83 = .ok (.invokevirtual 157, 3) := by decide +kernel
theorem dX12_findRace_86 : decode cX12_findRace 86 = .ok (.iadd, 1) := by decide +kernel
theorem dX12_findRace_87 : decode cX12_findRace 87 = .ok (.putfield 280, 3) := by decide +kernel
theorem dX12_findRace_90 : decode cX12_findRace 90 = .ok (.goto 48, 3) := by decide +kernel
theorem dX12_findRace_93 : decode cX12_findRace 93 = .ok (.aload_n 0, 1) := by decide +kernel
theorem dX12_findRace_94 : decode cX12_findRace 94 = .ok (.iload_n 3, 1) := by decide +kernel
theorem dX12_findRace_95 : decode cX12_findRace 95 = .ok (.invokevirtual 256, 3) := by decide +kernel
theorem dX12_findRace_98 : decode cX12_findRace 98 = .ok (.ifCond .eq 30, 3) := by decide +kernel
theorem dX12_findRace_101 : decode cX12_findRace 101 = .ok (.aload_n 0, 1) := by decide +kernel
theorem dX12_findRace_102 : decode cX12_findRace 102 = .ok (.dup, 1) := by decide +kernel
theorem dX12_findRace_103 : decode cX12_findRace 103 = .ok (.getfield 289, 3) := by decide +kernel
theorem dX12_findRace_106 : decode cX12_findRace 106 = .ok (.iconst 1, 1) := by decide +kernel
theorem dX12_findRace_107 : decode cX12_findRace 107 = .ok (.iadd, 1) := by decide +kernel
theorem dX12_findRace_108 : decode cX12_findRace 108 = .ok (.putfield 289, 3) := by decide +kernel
theorem dX12_findRace_111 : decode cX12_findRace 111 = .ok (.aload_n 0, 1) := by decide +kernel
theorem dX12_findRace_112 : decode cX12_findRace 112 = .ok (.dup, 1) := by decide +kernel
theorem dX12_findRace_113 : decode cX12_findRace 113 = .ok (.getfield 286, 3) := by decide +kernel
theorem dX12_findRace_116 : decode cX12_findRace 116 = .ok (.aload_n 0, 1) := by decide +kernel
theorem dX12_findRace_117 : decode cX12_findRace 117 = .ok (.iload_n 3, 1) := by decide +kernel
theorem dX12_findRace_118 : decode cX12_findRace 118 = .ok (.invokevirtual 157, 3) := by decide +kernel
theorem dX12_findRace_121 : decode cX12_findRace 121 = .ok (.iadd, 1) := by decide +kernel
theorem dX12_findRace_122 : decode cX12_findRace 122 = .ok (.putfield 286, 3) := by decide +kernel
theorem dX12_findRace_125 : decode cX12_findRace 125 = .ok (.goto 13, 3) := by decide +kernel
theorem dX12_findRace_128 : decode cX12_findRace 128 = .ok (.aload_n 0, 1) := by decide +kernel
theorem dX12_findRace_129 : decode cX12_findRace 129 = .ok (.dup, 1) := by decide +kernel
theorem dX12_findRace_130 : decode cX12_findRace 130 = .ok (.getfield 292, 3) := by decide +kernel
theorem dX12_findRace_133 : decode cX12_findRace 133 = .ok (.iconst 1, 1) := by decide +kernel
theorem dX12_findRace_134 : decode cX12_findRace 134 = .ok (.iadd, 1) := by decide +kernel
theorem dX12_findRace_135 : decode cX12_findRace 135 = .ok (.putfield 292, 3) := by decide +kernel
theorem dX12_findRace_138 : decode cX12_findRace 138 = .ok (.iinc 3 1, 3) := by decide +kernel
theorem dX12_findRace_141 : decode cX12_findRace 141 = .ok (.goto (-114), 3) := by decide +kernel
theorem dX12_findRace_144 : decode cX12_findRace 144 = .ok (.return_, 1) := by decide +kernel
theorem dX12_beside_0 : decode cX12_beside 0 = .ok (.iconst 0, 1) := by decide +kernel
theorem dX12_beside_1 : decode cX12_beside 1 = .ok (.istore_n 1, 1) := by decide +kernel
theorem dX12_beside_2 : decode cX12_beside 2 = .ok (.iconst 0, 1) := by decide +kernel
theorem dX12_beside_3 : decode cX12_beside 3 = .ok (.istore_n 2, 1) := by decide +kernel
theorem dX12_beside_4 : decode cX12_beside 4 = .ok (.iconst 0, 1) := by decide +kernel
theorem dX12_beside_5 : decode cX12_beside 5 = .ok (.istore_n 3, 1) := by decide +kernel
theorem dX12_beside_6 : decode cX12_beside 6 = .ok (.iload_n 3, 1) := by decide +kernel
theorem dX12_beside_7 : decode cX12_beside 7 = .ok (.aload_n 0, 1) := by decide +kernel
theorem dX12_beside_8 : decode cX12_beside 8 = .ok (.getfield 125, 3) := by decide +kernel
theorem dX12_beside_11 : decode cX12_beside 11 = .ok (.if_icmp .ge 74, 3) := by decide +kernel
theorem dX12_beside_14 : decode cX12_beside 14 = .ok (.iconst 0, 1) := by decide +kernel
theorem dX12_beside_15 : decode cX12_beside 15 = .ok (.istore 4, 2) := by decide +kernel
theorem dX12_beside_17 : decode cX12_beside 17 = .ok (.iload 4, 2) := by decide +kernel
theorem dX12_beside_19 : decode cX12_beside 19 = .ok (.bipush 100, 2) := by decide +kernel
theorem dX12_beside_21 : decode cX12_beside 21 = .ok (.if_icmp .ge 58, 3) := by decide +kernel
theorem dX12_beside_24 : decode cX12_beside 24 = .ok (.aload_n 0, 1) := by decide +kernel
theorem dX12_beside_25 : decode cX12_beside 25 = .ok (.iload_n 3, 1) := by decide +kernel
theorem dX12_beside_26 : decode cX12_beside 26 = .ok (.iload 4, 2) := by decide +kernel
theorem dX12_beside_28 : decode cX12_beside 28 = .ok (.invokevirtual 298, 3) := by decide +kernel
theorem dX12_beside_31 : decode cX12_beside 31 = .ok (.aload_n 0, 1) := by decide +kernel
theorem dX12_beside_32 : decode cX12_beside 32 = .ok (.getfield 283, 3) := by decide +kernel
theorem dX12_beside_35 : decode cX12_beside 35 = .ok (.ifCond .eq 38, 3) := by decide +kernel
theorem dX12_beside_38 : decode cX12_beside 38 = .ok (.aload_n 0, 1) := by decide +kernel
theorem dX12_beside_39 : decode cX12_beside 39 = .ok (.getfield 289, 3) := by decide +kernel
theorem dX12_beside_42 : decode cX12_beside 42 = .ok (.ifCond .ne 6, 3) := by decide +kernel
theorem dX12_beside_45 : decode cX12_beside 45 = .ok (.goto 28, 3) := by decide +kernel
theorem dX12_beside_48 : decode cX12_beside 48 = .ok (.iinc 1 1, 3) := by decide +kernel
theorem dX12_beside_51 : decode cX12_beside 51 = .ok (.iload_n 2, 1) := by decide +kernel
theorem dX12_beside_52 : decode cX12_beside 52 = .ok (.aload_n 0, 1) := by decide +kernel
theorem dX12_beside_53 : decode cX12_beside 53 = .ok (.getfield 280, 3) := by decide +kernel
theorem dX12_beside_56 : decode cX12_beside 56 = .ok (.aload_n 0, 1) := by decide +kernel
theorem dX12_beside_57 : decode cX12_beside 57 = .ok (.getfield 283, 3) := by decide +kernel
theorem dX12_beside_60 : decode cX12_beside 60 = .ok (.aload_n 0, 1) := by decide +kernel
theorem dX12_beside_61 : decode cX12_beside 61 = .ok (.getfield 286, 3) := by decide +kernel
theorem dX12_beside_64 : decode cX12_beside 64 = .ok (.aload_n 0, 1) := by decide +kernel
theorem dX12_beside_65 : decode cX12_beside 65 = .ok (.getfield 289, 3) := by decide +kernel
theorem dX12_beside_68 : decode cX12_beside 68 = .ok (.invokestatic 302, 3) := by decide +kernel
theorem dX12_beside_71 : decode cX12_beside 71 = .ok (.iadd, 1) := by decide +kernel
theorem dX12_beside_72 : decode cX12_beside 72 = .ok (.istore_n 2, 1) := by decide +kernel
theorem dX12_beside_73 : decode cX12_beside 73 = .ok (.iinc 4 1, 3) := by decide +kernel
theorem dX12_beside_76 : decode cX12_beside 76 = .ok (.goto (-59), 3) := by decide +kernel
theorem dX12_beside_79 : decode cX12_beside 79 = .ok (.iinc 3 1, 3) := by decide +kernel
theorem dX12_beside_82 : decode cX12_beside 82 = .ok (.goto (-76), 3) := by decide +kernel
theorem dX12_beside_85 : decode cX12_beside 85 = .ok (.iload_n 1, 1) := by decide +kernel
theorem dX12_beside_86 : decode cX12_beside 86 = .ok (.ifCond .ne 8, 3) := by decide +kernel
theorem dX12_beside_89 : decode cX12_beside 89 = .ok (.ldc 156, 2) := by decide +kernel
theorem dX12_beside_91 : decode cX12_beside 91 = .ok (.goto 6, 3) := by decide +kernel
theorem dX12_beside_94 : decode cX12_beside 94 = .ok (.iload_n 2, 1) := by decide +kernel
theorem dX12_beside_95 : decode cX12_beside 95 = .ok (.iload_n 1, 1) := by decide +kernel
theorem dX12_beside_96 : decode cX12_beside 96 = .ok (.idiv, 1) := by decide +kernel
theorem dX12_beside_97 : decode cX12_beside 97 = .ok (.ireturn, 1) := by decide +kernel
theorem dX12_least_0 : decode cX12_least 0 = .ok (.iload_n 0, 1) := by decide +kernel
theorem dX12_least_1 : decode cX12_least 1 = .ok (.ldc 156, 2) := by decide +kernel
theorem dX12_least_3 : decode cX12_least 3 = .ok (.if_icmp .ne 7, 3) := by decide +kernel
theorem dX12_least_6 : decode cX12_least 6 = .ok (.iload_n 1, 1) := by decide +kernel
theorem dX12_least_7 : decode cX12_least 7 = .ok (.goto 23, 3) := by decide +kernel
theorem dX12_least_10 : decode cX12_least 10 = .ok (.iload_n 1, 1) := by decide +kernel
theorem dX12_least_11 : decode cX12_least 11 = .ok (.ldc 156, 2) := by decide +kernel
theorem dX12_least_13 : decode cX12_least 13 = .ok (.if_icmp .ne 7, 3) := by decide +kernel
theorem dX12_least_16 : decode cX12_least 16 = .ok (.iload_n 0, 1) := by decide +kernel
theorem dX12_least_17 : decode cX12_least 17 = .ok (.goto 13, 3) := by decide +kernel
theorem dX12_least_20 : decode cX12_least 20 = .ok (.iload_n 0, 1) := by decide +kernel
theorem dX12_least_21 : decode cX12_least 21 = .ok (.iload_n 1, 1) := by decide +kernel
theorem dX12_least_22 : decode cX12_least 22 = .ok (.if_icmp .ge 7, 3) := by decide +kernel
theorem dX12_least_25 : decode cX12_least 25 = .ok (.iload_n 0, 1) := by decide +kernel
theorem dX12_least_26 : decode cX12_least 26 = .ok (.goto 4, 3) := by decide +kernel
theorem dX12_least_29 : decode cX12_least 29 = .ok (.iload_n 1, 1) := by decide +kernel
theorem dX12_least_30 : decode cX12_least 30 = .ok (.ireturn, 1) := by decide +kernel
theorem dX12_greatest_0 : decode cX12_greatest 0 = .ok (.iload_n 0, 1) := by decide +kernel
theorem dX12_greatest_1 : decode cX12_greatest 1 = .ok (.ldc 156, 2) := by decide +kernel
theorem dX12_greatest_3 : decode cX12_greatest 3 = .ok (.if_icmp .ne 7, 3) := by decide +kernel
theorem dX12_greatest_6 : decode cX12_greatest 6 = .ok (.iload_n 1, 1) := by decide +kernel
theorem dX12_greatest_7 : decode cX12_greatest 7 = .ok (.goto 23, 3) := by decide +kernel
theorem dX12_greatest_10 : decode cX12_greatest 10 = .ok (.iload_n 1, 1) := by decide +kernel
theorem dX12_greatest_11 : decode cX12_greatest 11 = .ok (.ldc 156, 2) := by decide +kernel
theorem dX12_greatest_13 : decode cX12_greatest 13 = .ok (.if_icmp .ne 7, 3) := by decide +kernel
theorem dX12_greatest_16 : decode cX12_greatest 16 = .ok (.iload_n 0, 1) := by decide +kernel
theorem dX12_greatest_17 : decode cX12_greatest 17 = .ok (.goto 13, 3) := by decide +kernel
theorem dX12_greatest_20 : decode cX12_greatest 20 = .ok (.iload_n 0, 1) := by decide +kernel
theorem dX12_greatest_21 : decode cX12_greatest 21 = .ok (.iload_n 1, 1) := by decide +kernel
theorem dX12_greatest_22 : decode cX12_greatest 22 = .ok (.if_icmp .le 7, 3) := by decide +kernel
theorem dX12_greatest_25 : decode cX12_greatest 25 = .ok (.iload_n 0, 1) := by decide +kernel
theorem dX12_greatest_26 : decode cX12_greatest 26 = .ok (.goto 4, 3) := by decide +kernel
theorem dX12_greatest_29 : decode cX12_greatest 29 = .ok (.iload_n 1, 1) := by decide +kernel
theorem dX12_greatest_30 : decode cX12_greatest 30 = .ok (.ireturn, 1) := by decide +kernel
theorem dX12_gain_0 : decode cX12_gain 0 = .ok (.iload_n 1, 1) := by decide +kernel
theorem dX12_gain_1 : decode cX12_gain 1 = .ok (.iconst 0, 1) := by decide +kernel
theorem dX12_gain_2 : decode cX12_gain 2 = .ok (.iconst 4, 1) := by decide +kernel
theorem dX12_gain_3 : decode cX12_gain 3 = .ok (.invokestatic 117, 3) := by decide +kernel
theorem dX12_gain_6 : decode cX12_gain 6 = .ok (.ifCond .ne 6, 3) := by decide +kernel
theorem dX12_gain_9 : decode cX12_gain 9 = .ok (.ldc 156, 2) := by decide +kernel
theorem dX12_gain_11 : decode cX12_gain 11 = .ok (.ireturn, 1) := by decide +kernel
theorem dX12_gain_12 : decode cX12_gain 12 = .ok (.aload_n 0, 1) := by decide +kernel
theorem dX12_gain_13 : decode cX12_gain 13 = .ok (.invokevirtual 306, 3) := by decide +kernel
theorem dX12_gain_16 : decode cX12_gain 16 = .ok (.istore_n 2, 1) := by decide +kernel
theorem dX12_gain_17 : decode cX12_gain 17 = .ok (.aload_n 0, 1) := by decide +kernel
theorem dX12_gain_18 : decode cX12_gain 18 = .ok (.invokevirtual 310, 3) := by decide +kernel
theorem dX12_gain_21 : decode cX12_gain 21 = .ok (.istore_n 3, 1) := by decide +kernel
theorem dX12_gain_22 : decode cX12_gain 22 = .ok (.aload_n 0, 1) := by decide +kernel
theorem dX12_gain_23 : decode cX12_gain 23 = .ok (.iconst 1, 1) := by decide +kernel
theorem dX12_gain_24 : decode cX12_gain 24 = .ok (.invokevirtual 277, 3) := by decide +kernel
theorem dX12_gain_27 : decode cX12_gain 27 = .ok (.istore 4, 2) := by decide +kernel
theorem dX12_gain_29 : decode cX12_gain 29 = .ok (.iload 4, 2) := by decide +kernel
theorem dX12_gain_31 : decode cX12_gain 31 = .ok (.ldc 156, 2) := by decide +kernel
theorem dX12_gain_33 : decode cX12_gain 33 = .ok (.if_icmp .eq 8, 3) := by decide +kernel
theorem dX12_gain_36 : decode cX12_gain 36 = .ok (.iload 4, 2) := by decide +kernel
theorem dX12_gain_38 : decode cX12_gain 38 = .ok (.ineg, 1) := by decide +kernel
theorem dX12_gain_39 : decode cX12_gain 39 = .ok (.istore 4, 2) := by decide +kernel
theorem dX12_gain_41 : decode cX12_gain 41 = .ok (.iload_n 1, 1) := by decide +kernel
theorem dX12_gain_42 : decode cX12_gain 42 = .ok (.tableswitch 66 0 3 #[30, 32, 34, 55], 30) := by decide +kernel
theorem dX12_gain_72 : decode cX12_gain 72 = .ok (.iload_n 2, 1) := by decide +kernel
theorem dX12_gain_73 : decode cX12_gain 73 = .ok (.ireturn, 1) := by decide +kernel
theorem dX12_gain_74 : decode cX12_gain 74 = .ok (.iload_n 3, 1) := by decide +kernel
theorem dX12_gain_75 : decode cX12_gain 75 = .ok (.ireturn, 1) := by decide +kernel
theorem dX12_gain_76 : decode cX12_gain 76 = .ok (.iload_n 2, 1) := by decide +kernel
theorem dX12_gain_77 : decode cX12_gain 77 = .ok (.ldc 156, 2) := by decide +kernel
theorem dX12_gain_79 : decode cX12_gain 79 = .ok (.if_icmp .eq 9, 3) := by decide +kernel
theorem dX12_gain_82 : decode cX12_gain 82 = .ok (.iload_n 3, 1) := by decide +kernel
theorem dX12_gain_83 : decode cX12_gain 83 = .ok (.ldc 156, 2) := by decide +kernel
theorem dX12_gain_85 : decode cX12_gain 85 = .ok (.if_icmp .ne 8, 3) := by decide +kernel
theorem dX12_gain_88 : decode cX12_gain 88 = .ok (.ldc 156, 2) := by decide +kernel
theorem dX12_gain_90 : decode cX12_gain 90 = .ok (.goto 6, 3) := by decide +kernel
theorem dX12_gain_93 : decode cX12_gain 93 = .ok (.iload_n 3, 1) := by decide +kernel
theorem dX12_gain_94 : decode cX12_gain 94 = .ok (.iload_n 2, 1) := by decide +kernel
theorem dX12_gain_95 : decode cX12_gain 95 = .ok (.isub, 1) := by decide +kernel
theorem dX12_gain_96 : decode cX12_gain 96 = .ok (.ireturn, 1) := by decide +kernel
theorem dX12_gain_97 : decode cX12_gain 97 = .ok (.iload_n 2, 1) := by decide +kernel
theorem dX12_gain_98 : decode cX12_gain 98 = .ok (.iload_n 3, 1) := by decide +kernel
theorem dX12_gain_99 : decode cX12_gain 99 = .ok (.iload 4, 2) := by decide +kernel
theorem dX12_gain_101 : decode cX12_gain 101 = .ok (.invokestatic 313, 3) := by decide +kernel
theorem dX12_gain_104 : decode cX12_gain 104 = .ok (.invokestatic 313, 3) := by decide +kernel
theorem dX12_gain_107 : decode cX12_gain 107 = .ok (.ireturn, 1) := by decide +kernel
theorem dX12_gain_108 : decode cX12_gain 108 = .ok (.iload_n 2, 1) := by decide +kernel
theorem dX12_gain_109 : decode cX12_gain 109 = .ok (.iload_n 3, 1) := by decide +kernel
theorem dX12_gain_110 : decode cX12_gain 110 = .ok (.iload 4, 2) := by decide +kernel
theorem dX12_gain_112 : decode cX12_gain 112 = .ok (.invokestatic 316, 3) := by decide +kernel
theorem dX12_gain_115 : decode cX12_gain 115 = .ok (.invokestatic 316, 3) := by decide +kernel
theorem dX12_gain_118 : decode cX12_gain 118 = .ok (.ireturn, 1) := by decide +kernel
theorem dX12_unseen_0 : decode cX12_unseen 0 = .ok (.iload_n 1, 1) := by decide +kernel
theorem dX12_unseen_1 : decode cX12_unseen 1 = .ok (.ifCond .lt 23, 3) := by decide +kernel
theorem dX12_unseen_4 : decode cX12_unseen 4 = .ok (.aload_n 0, 1) := by decide +kernel
theorem dX12_unseen_5 : decode cX12_unseen 5 = .ok (.iload_n 1, 1) := by decide +kernel
theorem dX12_unseen_6 : decode cX12_unseen 6 = .ok (.bipush 100, 2) := by decide +kernel
theorem dX12_unseen_8 : decode cX12_unseen 8 = .ok (.idiv, 1) := by decide +kernel
theorem dX12_unseen_9 : decode cX12_unseen 9 = .ok (.invokevirtual 135, 3) := by decide +kernel
theorem dX12_unseen_12 : decode cX12_unseen 12 = .ok (.ifCond .eq 12, 3) := by decide +kernel
theorem dX12_unseen_15 : decode cX12_unseen 15 = .ok (.iload_n 2, 1) := by decide +kernel
theorem dX12_unseen_16 : decode cX12_unseen 16 = .ok (.iconst 0, 1) := by decide +kernel
theorem dX12_unseen_17 : decode cX12_unseen 17 = .ok (.iconst 1, 1) := by decide +kernel
theorem dX12_unseen_18 : decode cX12_unseen 18 = .ok (.invokestatic 117, 3) := by decide +kernel
theorem dX12_unseen_21 : decode cX12_unseen 21 = .ok (.ifCond .ne 6, 3) := by decide +kernel
theorem dX12_unseen_24 : decode cX12_unseen 24 = .ok (.ldc 156, 2) := by decide +kernel
theorem dX12_unseen_26 : decode cX12_unseen 26 = .ok (.ireturn, 1) := by decide +kernel
theorem dX12_unseen_27 : decode cX12_unseen 27 = .ok (.aload_n 0, 1) := by decide +kernel
theorem dX12_unseen_28 : decode cX12_unseen 28 = .ok (.iload_n 1, 1) := by decide +kernel
theorem dX12_unseen_29 : decode cX12_unseen 29 = .ok (.bipush 100, 2) := by decide +kernel
theorem dX12_unseen_31 : decode cX12_unseen 31 = .ok (.idiv, 1) := by decide +kernel
theorem dX12_unseen_32 : decode cX12_unseen 32 = .ok (.iload_n 1, 1) := by decide +kernel
theorem dX12_unseen_33 : decode cX12_unseen 33 = .ok (.bipush 100, 2) := by decide +kernel
theorem dX12_unseen_35 : decode cX12_unseen 35 = .ok (.irem, 1) := by decide +kernel
theorem dX12_unseen_36 : decode cX12_unseen 36 = .ok (.invokevirtual 298, 3) := by decide +kernel
theorem dX12_unseen_39 : decode cX12_unseen 39 = .ok (.aload_n 0, 1) := by decide +kernel
theorem dX12_unseen_40 : decode cX12_unseen 40 = .ok (.getfield 292, 3) := by decide +kernel
theorem dX12_unseen_43 : decode cX12_unseen 43 = .ok (.bipush 12, 2) := by decide +kernel
theorem dX12_unseen_45 : decode cX12_unseen 45 = .ok (.if_icmp .le 6, 3) := by decide +kernel
theorem dX12_unseen_48 : decode cX12_unseen 48 = .ok (.ldc 156, 2) := by decide +kernel
theorem dX12_unseen_50 : decode cX12_unseen 50 = .ok (.ireturn, 1) := by decide +kernel
theorem dX12_unseen_51 : decode cX12_unseen 51 = .ok (.aload_n 0, 1) := by decide +kernel
theorem dX12_unseen_52 : decode cX12_unseen 52 = .ok (.getfield 292, 3) := by decide +kernel
theorem dX12_unseen_55 : decode cX12_unseen 55 = .ok (.ifCond .ne 6, 3) := by decide +kernel
theorem dX12_unseen_58 : decode cX12_unseen 58 = .ok (.ldc 156, 2) := by decide +kernel
theorem dX12_unseen_60 : decode cX12_unseen 60 = .ok (.ireturn, 1) := by decide +kernel
theorem dX12_unseen_61 : decode cX12_unseen 61 = .ok (.iconst 0, 1) := by decide +kernel
theorem dX12_unseen_62 : decode cX12_unseen 62 = .ok (.istore_n 3, 1) := by decide +kernel
theorem dX12_unseen_63 : decode cX12_unseen 63 = .ok (.iconst 0, 1) := by decide +kernel
theorem dX12_unseen_64 : decode cX12_unseen 64 = .ok (.istore 4, 2) := by decide +kernel
theorem dX12_unseen_66 : decode cX12_unseen 66 = .ok (.iload 4, 2) := by decide +kernel
theorem dX12_unseen_68 : decode cX12_unseen 68 = .ok (.aload_n 0, 1) := by decide +kernel
theorem dX12_unseen_69 : decode cX12_unseen 69 = .ok (.getfield 128, 3) := by decide +kernel
theorem dX12_unseen_72 : decode cX12_unseen 72 = .ok (.if_icmp .ge 65, 3) := by decide +kernel
theorem dX12_unseen_75 : decode cX12_unseen 75 = .ok (.aload_n 0, 1) := by decide +kernel
theorem dX12_unseen_76 : decode cX12_unseen 76 = .ok (.getfield 37, 3) := by decide +kernel
theorem dX12_unseen_79 : decode cX12_unseen 79 = .ok (.iload 4, 2) := by decide +kernel
theorem dX12_unseen_81 : decode cX12_unseen 81 = .ok (.iaload, 1) := by decide +kernel
theorem dX12_unseen_82 : decode cX12_unseen 82 = .ok (.iload_n 1, 1) := by decide +kernel
theorem dX12_unseen_83 : decode cX12_unseen 83 = .ok (.bipush 100, 2) := by decide +kernel
theorem dX12_unseen_85 : decode cX12_unseen 85 = .ok (.idiv, 1) := by decide +kernel
theorem dX12_unseen_86 : decode cX12_unseen 86 = .ok (.if_icmp .ne 45, 3) := by decide +kernel
theorem dX12_unseen_89 : decode cX12_unseen 89 = .ok (.aload_n 0, 1) := by decide +kernel
theorem dX12_unseen_90 : decode cX12_unseen 90 = .ok (.getfield 40, 3) := by decide +kernel
theorem dX12_unseen_93 : decode cX12_unseen 93 = .ok (.iload 4, 2) := by decide +kernel
theorem dX12_unseen_95 : decode cX12_unseen 95 = .ok (.iaload, 1) := by decide +kernel
theorem dX12_unseen_96 : decode cX12_unseen 96 = .ok (.iload_n 1, 1) := by decide +kernel
theorem dX12_unseen_97 : decode cX12_unseen 97 = .ok (.bipush 100, 2) := by decide +kernel
theorem dX12_unseen_99 : decode cX12_unseen 99 = .ok (.irem, 1) := by decide +kernel
theorem dX12_unseen_100 : decode cX12_unseen 100 = .ok (.if_icmp .ne 31, 3) := by decide +kernel
theorem dX12_unseen_103 : decode cX12_unseen 103 = .ok (.aload_n 0, 1) := by decide +kernel
theorem dX12_unseen_104 : decode cX12_unseen 104 = .ok (.getfield 46, 3) := by decide +kernel
theorem dX12_unseen_107 : decode cX12_unseen 107 = .ok (.iload 4, 2) := by decide +kernel
theorem dX12_unseen_109 : decode cX12_unseen 109 = .ok (.iaload, 1) := by decide +kernel
theorem dX12_unseen_110 : decode cX12_unseen 110 = .ok (.ifCond .lt 6, 3) := by decide +kernel
theorem dX12_unseen_113 : decode cX12_unseen 113 = .ok (.goto 18, 3) := by decide +kernel
theorem dX12_unseen_116 : decode cX12_unseen 116 = .ok (.aload_n 0, 1) := by decide +kernel
theorem dX12_unseen_117 : decode cX12_unseen 117 = .ok (.getfield 83, 3) := by decide +kernel
theorem dX12_unseen_120 : decode cX12_unseen 120 = .ok (.iload_n 3, 1) := by decide +kernel
theorem dX12_unseen_121 : decode cX12_unseen 121 = .ok (.aload_n 0, 1) := by decide +kernel
theorem dX12_unseen_122 : decode cX12_unseen 122 = .ok (.iload 4, 2) := by decide +kernel
theorem dX12_unseen_124 : decode cX12_unseen 124 = .ok (.invokevirtual 157, 3) := by decide +kernel
theorem dX12_unseen_127 : decode cX12_unseen 127 = .ok (.iastore, 1) := by decide +kernel
theorem dX12_unseen_128 : decode cX12_unseen 128 = .ok (.iinc 3 1, 3) := by decide +kernel
theorem dX12_unseen_131 : decode cX12_unseen 131 = .ok (.iinc 4 1, 3) := by decide +kernel
theorem dX12_unseen_134 : decode cX12_unseen 134 = .ok (.goto (-68), 3) := by decide +kernel
theorem dX12_unseen_137 : decode cX12_unseen 137 = .ok (.ldc 156, 2) := by decide +kernel
theorem dX12_unseen_139 : decode cX12_unseen 139 = .ok (.istore 4, 2) := by decide +kernel
theorem dX12_unseen_141 : decode cX12_unseen 141 = .ok (.iconst 0, 1) := by decide +kernel
theorem dX12_unseen_142 : decode cX12_unseen 142 = .ok (.istore 5, 2) := by decide +kernel
theorem dX12_unseen_144 : decode cX12_unseen 144 = .ok (.iload 5, 2) := by decide +kernel
theorem dX12_unseen_146 : decode cX12_unseen 146 = .ok (.iconst 1, 1) := by decide +kernel
theorem dX12_unseen_147 : decode cX12_unseen 147 = .ok (.iload_n 3, 1) := by decide +kernel
theorem dX12_unseen_148 : decode cX12_unseen 148 = .ok (.ishl, 1) := by decide +kernel
theorem dX12_unseen_149 : decode cX12_unseen 149 = .ok (.if_icmp .ge 153, 3) := by decide +kernel
theorem dX12_unseen_152 : decode cX12_unseen 152 = .ok (.aload_n 0, 1) := by decide +kernel
theorem dX12_unseen_153 : decode cX12_unseen 153 = .ok (.getfield 280, 3) := by decide +kernel
theorem dX12_unseen_156 : decode cX12_unseen 156 = .ok (.istore 6, 2) := by decide +kernel
theorem dX12_unseen_158 : decode cX12_unseen 158 = .ok (.aload_n 0, 1) := by decide +kernel
theorem dX12_unseen_159 : decode cX12_unseen 159 = .ok (.getfield 286, 3) := by decide +kernel
theorem dX12_unseen_162 : decode cX12_unseen 162 = .ok (.istore 7, 2) := by decide +kernel
theorem dX12_unseen_164 : decode cX12_unseen 164 = .ok (.iconst 0, 1) := by decide +kernel
theorem dX12_unseen_165 : decode cX12_unseen 165 = .ok (.istore 8, 2) := by decide +kernel
theorem dX12_unseen_167 : decode cX12_unseen 167 = .ok (.iconst 0, 1) := by decide +kernel
theorem dX12_unseen_168 : decode cX12_unseen 168 = .ok (.istore 9, 2) := by decide +kernel
theorem dX12_unseen_170 : decode cX12_unseen 170 = .ok (.iload 9, 2) := by decide +kernel
theorem dX12_unseen_172 : decode cX12_unseen 172 = .ok (.iload_n 3, 1) := by decide +kernel
theorem dX12_unseen_173 : decode cX12_unseen 173 = .ok (.if_icmp .ge 50, 3) := by decide +kernel
theorem dX12_unseen_176 : decode cX12_unseen 176 = .ok (.iload 5, 2) := by decide +kernel
theorem dX12_unseen_178 : decode cX12_unseen 178 = .ok (.iload 9, 2) := by decide +kernel
theorem dX12_unseen_180 : decode cX12_unseen 180 = .ok (.ishr, 1) := by decide +kernel
theorem dX12_unseen_181 : decode cX12_unseen 181 = .ok (.iconst 1, 1) := by decide +kernel
theorem dX12_unseen_182 : decode cX12_unseen 182 = .ok (.iand, 1) := by decide +kernel
theorem dX12_unseen_183 : decode cX12_unseen 183 = .ok (.iconst 1, 1) := by decide +kernel
theorem dX12_unseen_184 : decode cX12_unseen 184 = .ok (.if_icmp .ne 21, 3) := by decide +kernel
theorem dX12_unseen_187 : decode cX12_unseen 187 = .ok (.iload 7, 2) := by decide +kernel
theorem dX12_unseen_189 : decode cX12_unseen 189 = .ok (.aload_n 0, 1) := by decide +kernel
theorem dX12_unseen_190 : decode cX12_unseen 190 = .ok (.getfield 83, 3) := by decide +kernel
theorem dX12_unseen_193 : decode cX12_unseen 193 = .ok (.iload 9, 2) := by decide +kernel
theorem dX12_unseen_195 : decode cX12_unseen 195 = .ok (.iaload, 1) := by decide +kernel
theorem dX12_unseen_196 : decode cX12_unseen 196 = .ok (.iadd, 1) := by decide +kernel
theorem dX12_unseen_197 : decode cX12_unseen 197 = .ok (.istore 7, 2) := by decide +kernel
theorem dX12_unseen_199 : decode cX12_unseen 199 = .ok (.iinc 8 1, 3) := by decide +kernel
theorem dX12_unseen_202 : decode cX12_unseen 202 = .ok (.goto 15, 3) := by decide +kernel
theorem dX12_unseen_205 : decode cX12_unseen 205 = .ok (.iload 6, 2) := by decide +kernel
theorem dX12_unseen_207 : decode cX12_unseen 207 = .ok (.aload_n 0, 1) := by decide +kernel
theorem dX12_unseen_208 : decode cX12_unseen 208 = .ok (.getfield 83, 3) := by decide +kernel
theorem dX12_unseen_211 : decode cX12_unseen 211 = .ok (.iload 9, 2) := by decide +kernel
theorem dX12_unseen_213 : decode cX12_unseen 213 = .ok (.iaload, 1) := by decide +kernel
theorem dX12_unseen_214 : decode cX12_unseen 214 = .ok (.iadd, 1) := by decide +kernel
theorem dX12_unseen_215 : decode cX12_unseen 215 = .ok (.istore 6, 2) := by decide +kernel
theorem dX12_unseen_217 : decode cX12_unseen 217 = .ok (.iinc 9 1, 3) := by decide +kernel
theorem dX12_unseen_220 : decode cX12_unseen 220 = .ok (.goto (-50), 3) := by decide +kernel
theorem dX12_unseen_223 : decode cX12_unseen 223 = .ok (.aload_n 0, 1) := by decide +kernel
theorem dX12_unseen_224 : decode cX12_unseen 224 = .ok (.getfield 283, 3) := by decide +kernel
theorem dX12_unseen_227 : decode cX12_unseen 227 = .ok (.iload_n 3, 1) := by decide +kernel
theorem dX12_unseen_228 : decode cX12_unseen 228 = .ok (.iadd, 1) := by decide +kernel
theorem dX12_unseen_229 : decode cX12_unseen 229 = .ok (.iload 8, 2) := by decide +kernel
theorem dX12_unseen_231 : decode cX12_unseen 231 = .ok (.isub, 1) := by decide +kernel
theorem dX12_unseen_232 : decode cX12_unseen 232 = .ok (.ifCond .eq 64, 3) := by decide +kernel
theorem dX12_unseen_235 : decode cX12_unseen 235 = .ok (.aload_n 0, 1) := by decide +kernel
theorem dX12_unseen_236 : decode cX12_unseen 236 = .ok (.getfield 289, 3) := by decide +kernel
theorem dX12_unseen_239 : decode cX12_unseen 239 = .ok (.iload 8, 2) := by decide +kernel
theorem dX12_unseen_241 : decode cX12_unseen 241 = .ok (.iadd, 1) := by decide +kernel
theorem dX12_unseen_242 : decode cX12_unseen 242 = .ok (.ifCond .ne 6, 3) := by decide +kernel
theorem dX12_unseen_245 : decode cX12_unseen 245 = .ok (.goto 51, 3) := by decide +kernel
theorem dX12_unseen_248 : decode cX12_unseen 248 = .ok (.iload 6, 2) := by decide +kernel
theorem dX12_unseen_250 : decode cX12_unseen 250 = .ok (.aload_n 0, 1) := by decide +kernel
theorem dX12_unseen_251 : decode cX12_unseen 251 = .ok (.getfield 283, 3) := by decide +kernel
theorem dX12_unseen_254 : decode cX12_unseen 254 = .ok (.iload_n 3, 1) := by decide +kernel
theorem dX12_unseen_255 : decode cX12_unseen 255 = .ok (.iadd, 1) := by decide +kernel
theorem dX12_unseen_256 : decode cX12_unseen 256 = .ok (.iload 8, 2) := by decide +kernel
theorem dX12_unseen_258 : decode cX12_unseen 258 = .ok (.isub, 1) := by decide +kernel
theorem dX12_unseen_259 : decode cX12_unseen 259 = .ok (.iload 7, 2) := by decide +kernel
theorem dX12_unseen_261 : decode cX12_unseen 261 = .ok (.aload_n 0, 1) := by decide +kernel
theorem dX12_unseen_262 : decode cX12_unseen 262 = .ok (.getfield 289, 3) := by decide +kernel
theorem dX12_unseen_265 : decode cX12_unseen 265 = .ok (.iload 8, 2) := by decide +kernel
theorem dX12_unseen_267 : decode cX12_unseen 267 = .ok (.iadd, 1) := by decide +kernel
theorem dX12_unseen_268 : decode cX12_unseen 268 = .ok (.invokestatic 302, 3) := by decide +kernel
theorem dX12_unseen_271 : decode cX12_unseen 271 = .ok (.istore 9, 2) := by decide +kernel
theorem dX12_unseen_273 : decode cX12_unseen 273 = .ok (.iload_n 2, 1) := by decide +kernel
theorem dX12_unseen_274 : decode cX12_unseen 274 = .ok (.ifCond .ne 13, 3) := by decide +kernel
theorem dX12_unseen_277 : decode cX12_unseen 277 = .ok (.iload 4, 2) := by decide +kernel
theorem dX12_unseen_279 : decode cX12_unseen 279 = .ok (.iload 9, 2) := by decide +kernel
theorem dX12_unseen_281 : decode cX12_unseen 281 = .ok (.invokestatic 313, 3) := by decide +kernel
theorem dX12_unseen_284 : decode cX12_unseen 284 = .ok (.goto 10, 3) := by decide +kernel
theorem dX12_unseen_287 : decode cX12_unseen 287 = .ok (.iload 4, 2) := by decide +kernel
theorem dX12_unseen_289 : decode cX12_unseen 289 = .ok (.iload 9, 2) := by decide +kernel
theorem dX12_unseen_291 : decode cX12_unseen 291 = .ok (.invokestatic 316, 3) := by decide +kernel
theorem dX12_unseen_294 : decode cX12_unseen 294 = .ok (.istore 4, 2) := by decide +kernel
theorem dX12_unseen_296 : decode cX12_unseen 296 = .ok (.iinc 5 1, 3) := by decide +kernel
theorem dX12_unseen_299 : decode cX12_unseen 299 = .ok (.goto (-155), 3) := by decide +kernel
theorem dX12_unseen_302 : decode cX12_unseen 302 = .ok (.iload 4, 2) := by decide +kernel
theorem dX12_unseen_304 : decode cX12_unseen 304 = .ok (.ireturn, 1) := by decide +kernel
theorem dX12_gainsOf_0 : decode cX12_gainsOf 0 = .ok (.iconst 0, 1) := by decide +kernel
theorem dX12_gainsOf_1 : decode cX12_gainsOf 1 = .ok (.istore_n 2, 1) := by decide +kernel
theorem dX12_gainsOf_2 : decode cX12_gainsOf 2 = .ok (.iconst 0, 1) := by decide +kernel
theorem dX12_gainsOf_3 : decode cX12_gainsOf 3 = .ok (.istore_n 3, 1) := by decide +kernel
theorem dX12_gainsOf_4 : decode cX12_gainsOf 4 = .ok (.iconst 0, 1) := by decide +kernel
theorem dX12_gainsOf_5 : decode cX12_gainsOf 5 = .ok (.istore 4, 2) := by decide +kernel
theorem dX12_gainsOf_7 : decode cX12_gainsOf 7 = .ok (.iconst 0, 1) := by decide +kernel
theorem dX12_gainsOf_8 : decode cX12_gainsOf 8 = .ok (.istore 5, 2) := by decide +kernel
theorem dX12_gainsOf_10 : decode cX12_gainsOf 10 = .ok (.iconst 0, 1) := by decide +kernel
theorem dX12_gainsOf_11 : decode cX12_gainsOf 11 = .ok (.istore 6, 2) := by decide +kernel
theorem dX12_gainsOf_13 : decode cX12_gainsOf 13 = .ok (.iload 6, 2) := by decide +kernel
theorem dX12_gainsOf_15 : decode cX12_gainsOf 15 = .ok (.aload_n 0, 1) := by decide +kernel
theorem dX12_gainsOf_16 : decode cX12_gainsOf 16 = .ok (.getfield 128, 3) := by decide +kernel
theorem dX12_gainsOf_19 : decode cX12_gainsOf 19 = .ok (.if_icmp .ge 67, 3) := by decide +kernel
theorem dX12_gainsOf_22 : decode cX12_gainsOf 22 = .ok (.aload_n 0, 1) := by decide +kernel
theorem dX12_gainsOf_23 : decode cX12_gainsOf 23 = .ok (.getfield 34, 3) := by decide +kernel
theorem dX12_gainsOf_26 : decode cX12_gainsOf 26 = .ok (.iload 6, 2) := by decide +kernel
theorem dX12_gainsOf_28 : decode cX12_gainsOf 28 = .ok (.iaload, 1) := by decide +kernel
theorem dX12_gainsOf_29 : decode cX12_gainsOf 29 = .ok (.iload_n 1, 1) := by decide +kernel
theorem dX12_gainsOf_30 : decode cX12_gainsOf 30 = .ok (.if_icmp .eq 6, 3) := by decide +kernel
theorem dX12_gainsOf_33 : decode cX12_gainsOf 33 = .ok (.goto 47, 3) := by decide +kernel
theorem dX12_gainsOf_36 : decode cX12_gainsOf 36 = .ok (.aload_n 0, 1) := by decide +kernel
theorem dX12_gainsOf_37 : decode cX12_gainsOf 37 = .ok (.iload 6, 2) := by decide +kernel
theorem dX12_gainsOf_39 : decode cX12_gainsOf 39 = .ok (.invokevirtual 295, 3) := by decide +kernel
theorem dX12_gainsOf_42 : decode cX12_gainsOf 42 = .ok (.ifCond .eq 15, 3) := by decide +kernel
theorem dX12_gainsOf_45 : decode cX12_gainsOf 45 = .ok (.iload_n 2, 1) := by decide +kernel
theorem dX12_gainsOf_46 : decode cX12_gainsOf 46 = .ok (.aload_n 0, 1) := by decide +kernel
theorem dX12_gainsOf_47 : decode cX12_gainsOf 47 = .ok (.iload 6, 2) := by decide +kernel
theorem dX12_gainsOf_49 : decode cX12_gainsOf 49 = .ok (.invokevirtual 157, 3) := by decide +kernel
theorem dX12_gainsOf_52 : decode cX12_gainsOf 52 = .ok (.iadd, 1) := by decide +kernel
theorem dX12_gainsOf_53 : decode cX12_gainsOf 53 = .ok (.istore_n 2, 1) := by decide +kernel
theorem dX12_gainsOf_54 : decode cX12_gainsOf 54 = .ok (.iinc 3 1, 3) := by decide +kernel
theorem dX12_gainsOf_57 : decode cX12_gainsOf 57 = .ok (.aload_n 0, 1) := by decide +kernel
theorem dX12_gainsOf_58 : decode cX12_gainsOf 58 = .ok (.iload 6, 2) := by decide +kernel
theorem dX12_gainsOf_60 : decode cX12_gainsOf 60 = .ok (.invokevirtual 256, 3) := by decide +kernel
theorem dX12_gainsOf_63 : decode cX12_gainsOf 63 = .ok (.ifCond .eq 17, 3) := by decide +kernel
theorem dX12_gainsOf_66 : decode cX12_gainsOf 66 = .ok (.iload 4, 2) := by decide +kernel
theorem dX12_gainsOf_68 : decode cX12_gainsOf 68 = .ok (.aload_n 0, 1) := by decide +kernel
theorem dX12_gainsOf_69 : decode cX12_gainsOf 69 = .ok (.iload 6, 2) := by decide +kernel
theorem dX12_gainsOf_71 : decode cX12_gainsOf 71 = .ok (.invokevirtual 157, 3) := by decide +kernel
theorem dX12_gainsOf_74 : decode cX12_gainsOf 74 = .ok (.iadd, 1) := by decide +kernel
theorem dX12_gainsOf_75 : decode cX12_gainsOf 75 = .ok (.istore 4, 2) := by decide +kernel
theorem dX12_gainsOf_77 : decode cX12_gainsOf 77 = .ok (.iinc 5 1, 3) := by decide +kernel
theorem dX12_gainsOf_80 : decode cX12_gainsOf 80 = .ok (.iinc 6 1, 3) := by decide +kernel
theorem dX12_gainsOf_83 : decode cX12_gainsOf 83 = .ok (.goto (-70), 3) := by decide +kernel
theorem dX12_gainsOf_86 : decode cX12_gainsOf 86 = .ok (.iload_n 3, 1) := by decide +kernel
theorem dX12_gainsOf_87 : decode cX12_gainsOf 87 = .ok (.ifCond .eq 8, 3) := by decide +kernel
theorem dX12_gainsOf_90 : decode cX12_gainsOf 90 = .ok (.iload 5, 2) := by decide +kernel
theorem dX12_gainsOf_92 : decode cX12_gainsOf 92 = .ok (.ifCond .ne 8, 3) := by decide +kernel
theorem dX12_gainsOf_95 : decode cX12_gainsOf 95 = .ok (.ldc 156, 2) := by decide +kernel
theorem dX12_gainsOf_97 : decode cX12_gainsOf 97 = .ok (.goto 12, 3) := by decide +kernel
theorem dX12_gainsOf_100 : decode cX12_gainsOf 100 = .ok (.iload_n 2, 1) := by decide +kernel
theorem dX12_gainsOf_101 : decode cX12_gainsOf 101 = .ok (.iload_n 3, 1) := by decide +kernel
theorem dX12_gainsOf_102 : decode cX12_gainsOf 102 = .ok (.iload 4, 2) := by decide +kernel
theorem dX12_gainsOf_104 : decode cX12_gainsOf 104 = .ok (.iload 5, 2) := by decide +kernel
theorem dX12_gainsOf_106 : decode cX12_gainsOf 106 = .ok (.invokestatic 302, 3) := by decide +kernel
theorem dX12_gainsOf_109 : decode cX12_gainsOf 109 = .ok (.ireturn, 1) := by decide +kernel
theorem dX12_person_0 : decode cX12_person 0 = .ok (.aload_n 0, 1) := by decide +kernel
theorem dX12_person_1 : decode cX12_person 1 = .ok (.iload_n 1, 1) := by decide +kernel
theorem dX12_person_2 : decode cX12_person 2 = .ok (.invokevirtual 131, 3) := by decide +kernel
theorem dX12_person_5 : decode cX12_person 5 = .ok (.ifCond .eq 11, 3) := by decide +kernel
theorem dX12_person_8 : decode cX12_person 8 = .ok (.aload_n 0, 1) := by decide +kernel
theorem dX12_person_9 : decode cX12_person 9 = .ok (.iload_n 1, 1) := by decide +kernel
theorem dX12_person_10 : decode cX12_person 10 = .ok (.invokevirtual 319, 3) := by decide +kernel
theorem dX12_person_13 : decode cX12_person 13 = .ok (.goto 5, 3) := by decide +kernel
theorem dX12_person_16 : decode cX12_person 16 = .ok (.ldc 156, 2) := by decide +kernel
theorem dX12_person_18 : decode cX12_person 18 = .ok (.ireturn, 1) := by decide +kernel
theorem dX12_shares_0 : decode cX12_shares 0 = .ok (.iload_n 1, 1) := by decide +kernel
theorem dX12_shares_1 : decode cX12_shares 1 = .ok (.iconst 0, 1) := by decide +kernel
theorem dX12_shares_2 : decode cX12_shares 2 = .ok (.iconst 2, 1) := by decide +kernel
theorem dX12_shares_3 : decode cX12_shares 3 = .ok (.invokestatic 117, 3) := by decide +kernel
theorem dX12_shares_6 : decode cX12_shares 6 = .ok (.ifCond .eq 12, 3) := by decide +kernel
theorem dX12_shares_9 : decode cX12_shares 9 = .ok (.iload_n 3, 1) := by decide +kernel
theorem dX12_shares_10 : decode cX12_shares 10 = .ok (.iconst 0, 1) := by decide +kernel
theorem dX12_shares_11 : decode cX12_shares 11 = .ok (.iconst 2, 1) := by decide +kernel
theorem dX12_shares_12 : decode cX12_shares 12 = .ok (.invokestatic 117, 3) := by decide +kernel
theorem dX12_shares_15 : decode cX12_shares 15 = .ok (.ifCond .ne 5, 3) := by decide +kernel
theorem dX12_shares_18 : decode cX12_shares 18 = .ok (.iconst (-1), 1) := by decide +kernel
theorem dX12_shares_19 : decode cX12_shares 19 = .ok (.ireturn, 1) := by decide +kernel
theorem dX12_shares_20 : decode cX12_shares 20 = .ok (.iconst 0, 1) := by decide +kernel
theorem dX12_shares_21 : decode cX12_shares 21 = .ok (.istore 4, 2) := by decide +kernel
theorem dX12_shares_23 : decode cX12_shares 23 = .ok (.iconst 0, 1) := by decide +kernel
theorem dX12_shares_24 : decode cX12_shares 24 = .ok (.istore 5, 2) := by decide +kernel
theorem dX12_shares_26 : decode cX12_shares 26 = .ok (.iload 5, 2) := by decide +kernel
theorem dX12_shares_28 : decode cX12_shares 28 = .ok (.aload_n 0, 1) := by decide +kernel
theorem dX12_shares_29 : decode cX12_shares 29 = .ok (.getfield 122, 3) := by decide +kernel
theorem dX12_shares_32 : decode cX12_shares 32 = .ok (.if_icmp .ge 78, 3) := by decide +kernel
theorem dX12_shares_35 : decode cX12_shares 35 = .ok (.aload_n 0, 1) := by decide +kernel
theorem dX12_shares_36 : decode cX12_shares 36 = .ok (.iload 5, 2) := by decide +kernel
theorem dX12_shares_38 : decode cX12_shares 38 = .ok (.invokevirtual 319, 3) := by decide +kernel
theorem dX12_shares_41 : decode cX12_shares 41 = .ok (.istore 6, 2) := by decide +kernel
theorem dX12_shares_43 : decode cX12_shares 43 = .ok (.iload 6, 2) := by decide +kernel
theorem dX12_shares_45 : decode cX12_shares 45 = .ok (.ldc 156, 2) := by decide +kernel
theorem dX12_shares_47 : decode cX12_shares 47 = .ok (.if_icmp .eq 57, 3) := by decide +kernel
theorem dX12_shares_50 : decode cX12_shares 50 = .ok (.iload_n 1, 1) := by decide +kernel
theorem dX12_shares_51 : decode cX12_shares 51 = .ok (.iconst 2, 1) := by decide +kernel
theorem dX12_shares_52 : decode cX12_shares 52 = .ok (.if_icmp .ge 17, 3) := by decide +kernel
theorem dX12_shares_55 : decode cX12_shares 55 = .ok (.aload_n 0, 1) := by decide +kernel
theorem dX12_shares_56 : decode cX12_shares 56 = .ok (.getfield 19, 3) := by decide +kernel
theorem dX12_shares_59 : decode cX12_shares 59 = .ok (.iload 5, 2) := by decide +kernel
theorem dX12_shares_61 : decode cX12_shares 61 = .ok (.iaload, 1) := by decide +kernel
theorem dX12_shares_62 : decode cX12_shares 62 = .ok (.iload_n 1, 1) := by decide +kernel
theorem dX12_shares_63 : decode cX12_shares 63 = .ok (.if_icmp .eq 6, 3) := by decide +kernel
theorem dX12_shares_66 : decode cX12_shares 66 = .ok (.goto 38, 3) := by decide +kernel
theorem dX12_shares_69 : decode cX12_shares 69 = .ok (.iload 4, 2) := by decide +kernel
theorem dX12_shares_71 : decode cX12_shares 71 = .ok (.iload_n 3, 1) := by decide +kernel
theorem dX12_shares_72 : decode cX12_shares 72 = .ok (.iconst 2, 1) := by decide +kernel
theorem dX12_shares_73 : decode cX12_shares 73 = .ok (.if_icmp .eq 23, 3) := by decide +kernel
theorem dX12_shares_76 : decode cX12_shares 76 = .ok (.iload_n 3, 1) := by decide +kernel
theorem dX12_shares_77 : decode cX12_shares 77 = .ok (.ifCond .ne 9, 3) := by decide +kernel
theorem dX12_shares_80 : decode cX12_shares 80 = .ok (.iload 6, 2) := by decide +kernel
theorem dX12_shares_82 : decode cX12_shares 82 = .ok (.iload_n 2, 1) := by decide +kernel
theorem dX12_shares_83 : decode cX12_shares 83 = .ok (.if_icmp .ge 13, 3) := by decide +kernel
theorem dX12_shares_86 : decode cX12_shares 86 = .ok (.iload_n 3, 1) := by decide +kernel
theorem dX12_shares_87 : decode cX12_shares 87 = .ok (.iconst 1, 1) := by decide +kernel
theorem dX12_shares_88 : decode cX12_shares 88 = .ok (.if_icmp .ne 12, 3) := by decide +kernel
theorem dX12_shares_91 : decode cX12_shares 91 = .ok (.iload 6, 2) := by decide +kernel
theorem dX12_shares_93 : decode cX12_shares 93 = .ok (.ifCond .gt 7, 3) := by decide +kernel
theorem dX12_shares_96 : decode cX12_shares 96 = .ok (.iconst 1, 1) := by decide +kernel
theorem dX12_shares_97 : decode cX12_shares 97 = .ok (.goto 4, 3) := by decide +kernel
theorem dX12_shares_100 : decode cX12_shares 100 = .ok (.iconst 0, 1) := by decide +kernel
theorem dX12_shares_101 : decode cX12_shares 101 = .ok (.iadd, 1) := by decide +kernel
theorem dX12_shares_102 : decode cX12_shares 102 = .ok (.istore 4, 2) := by decide +kernel
theorem dX12_shares_104 : decode cX12_shares 104 = .ok (.iinc 5 1, 3) := by decide +kernel
theorem dX12_shares_107 : decode cX12_shares 107 = .ok (.goto (-81), 3) := by decide +kernel
theorem dX12_shares_110 : decode cX12_shares 110 = .ok (.iload 4, 2) := by decide +kernel
theorem dX12_shares_112 : decode cX12_shares 112 = .ok (.ireturn, 1) := by decide +kernel
theorem dX12_led_0 : decode cX12_led 0 = .ok (.bipush (-2), 2) := by decide +kernel
theorem dX12_led_2 : decode cX12_led 2 = .ok (.istore_n 1, 1) := by decide +kernel
theorem dX12_led_3 : decode cX12_led 3 = .ok (.iconst 0, 1) := by decide +kernel
theorem dX12_led_4 : decode cX12_led 4 = .ok (.istore_n 2, 1) := by decide +kernel
theorem dX12_led_5 : decode cX12_led 5 = .ok (.iload_n 2, 1) := by decide +kernel
theorem dX12_led_6 : decode cX12_led 6 = .ok (.aload_n 0, 1) := by decide +kernel
theorem dX12_led_7 : decode cX12_led 7 = .ok (.getfield 122, 3) := by decide +kernel
theorem dX12_led_10 : decode cX12_led 10 = .ok (.if_icmp .ge 36, 3) := by decide +kernel
theorem dX12_led_13 : decode cX12_led 13 = .ok (.aload_n 0, 1) := by decide +kernel
theorem dX12_led_14 : decode cX12_led 14 = .ok (.iload_n 2, 1) := by decide +kernel
theorem dX12_led_15 : decode cX12_led 15 = .ok (.invokevirtual 319, 3) := by decide +kernel
theorem dX12_led_18 : decode cX12_led 18 = .ok (.istore_n 3, 1) := by decide +kernel
theorem dX12_led_19 : decode cX12_led 19 = .ok (.iload_n 3, 1) := by decide +kernel
theorem dX12_led_20 : decode cX12_led 20 = .ok (.ldc 156, 2) := by decide +kernel
theorem dX12_led_22 : decode cX12_led 22 = .ok (.if_icmp .eq 18, 3) := by decide +kernel
theorem dX12_led_25 : decode cX12_led 25 = .ok (.iload_n 1, 1) := by decide +kernel
theorem dX12_led_26 : decode cX12_led 26 = .ok (.ifCond .lt 12, 3) := by decide +kernel
theorem dX12_led_29 : decode cX12_led 29 = .ok (.iload_n 3, 1) := by decide +kernel
theorem dX12_led_30 : decode cX12_led 30 = .ok (.aload_n 0, 1) := by decide +kernel
theorem dX12_led_31 : decode cX12_led 31 = .ok (.iload_n 1, 1) := by decide +kernel
theorem dX12_led_32 : decode cX12_led 32 = .ok (.invokevirtual 319, 3) := by decide +kernel
theorem dX12_led_35 : decode cX12_led 35 = .ok (.if_icmp .le 5, 3) := by decide +kernel
theorem dX12_led_38 : decode cX12_led 38 = .ok (.iload_n 2, 1) := by decide +kernel
theorem dX12_led_39 : decode cX12_led 39 = .ok (.istore_n 1, 1) := by decide +kernel
theorem dX12_led_40 : decode cX12_led 40 = .ok (.iinc 2 1, 3) := by decide +kernel
theorem dX12_led_43 : decode cX12_led 43 = .ok (.goto (-38), 3) := by decide +kernel
theorem dX12_led_46 : decode cX12_led 46 = .ok (.iload_n 1, 1) := by decide +kernel
theorem dX12_led_47 : decode cX12_led 47 = .ok (.ireturn, 1) := by decide +kernel
theorem dX12_point_0 : decode cX12_point 0 = .ok (.iload_n 1, 1) := by decide +kernel
theorem dX12_point_1 : decode cX12_point 1 = .ok (.iconst 0, 1) := by decide +kernel
theorem dX12_point_2 : decode cX12_point 2 = .ok (.bipush 99, 2) := by decide +kernel
theorem dX12_point_4 : decode cX12_point 4 = .ok (.invokestatic 117, 3) := by decide +kernel
theorem dX12_point_7 : decode cX12_point 7 = .ok (.ifCond .eq 35, 3) := by decide +kernel
theorem dX12_point_10 : decode cX12_point 10 = .ok (.iload_n 2, 1) := by decide +kernel
theorem dX12_point_11 : decode cX12_point 11 = .ok (.iconst 0, 1) := by decide +kernel
theorem dX12_point_12 : decode cX12_point 12 = .ok (.bipush 99, 2) := by decide +kernel
theorem dX12_point_14 : decode cX12_point 14 = .ok (.invokestatic 117, 3) := by decide +kernel
theorem dX12_point_17 : decode cX12_point 17 = .ok (.ifCond .eq 25, 3) := by decide +kernel
theorem dX12_point_20 : decode cX12_point 20 = .ok (.aload_n 0, 1) := by decide +kernel
theorem dX12_point_21 : decode cX12_point 21 = .ok (.getfield 322, 3) := by decide +kernel
theorem dX12_point_24 : decode cX12_point 24 = .ok (.ifCond .le 20, 3) := by decide +kernel
theorem dX12_point_27 : decode cX12_point 27 = .ok (.iload_n 1, 1) := by decide +kernel
theorem dX12_point_28 : decode cX12_point 28 = .ok (.aload_n 0, 1) := by decide +kernel
theorem dX12_point_29 : decode cX12_point 29 = .ok (.getfield 86, 3) := by decide +kernel
theorem dX12_point_32 : decode cX12_point 32 = .ok (.aload_n 0, 1) := by decide +kernel
theorem dX12_point_33 : decode cX12_point 33 = .ok (.getfield 322, 3) := by decide +kernel
theorem dX12_point_36 : decode cX12_point 36 = .ok (.iconst 1, 1) := by decide +kernel
theorem dX12_point_37 : decode cX12_point 37 = .ok (.isub, 1) := by decide +kernel
theorem dX12_point_38 : decode cX12_point 38 = .ok (.iaload, 1) := by decide +kernel
theorem dX12_point_39 : decode cX12_point 39 = .ok (.if_icmp .gt 5, 3) := by decide +kernel
theorem dX12_point_42 : decode cX12_point 42 = .ok (.iconst (-1), 1) := by decide +kernel
theorem dX12_point_43 : decode cX12_point 43 = .ok (.ireturn, 1) := by decide +kernel
theorem dX12_point_44 : decode cX12_point 44 = .ok (.aload_n 0, 1) := by decide +kernel
theorem dX12_point_45 : decode cX12_point 45 = .ok (.getfield 322, 3) := by decide +kernel
theorem dX12_point_48 : decode cX12_point 48 = .ok (.bipush 6, 2) := by decide +kernel
theorem dX12_point_50 : decode cX12_point 50 = .ok (.if_icmp .ne 6, 3) := by decide +kernel
theorem dX12_point_53 : decode cX12_point 53 = .ok (.bipush (-3), 2) := by decide +kernel
theorem dX12_point_55 : decode cX12_point 55 = .ok (.ireturn, 1) := by decide +kernel
theorem dX12_point_56 : decode cX12_point 56 = .ok (.aload_n 0, 1) := by decide +kernel
theorem dX12_point_57 : decode cX12_point 57 = .ok (.getfield 86, 3) := by decide +kernel
theorem dX12_point_60 : decode cX12_point 60 = .ok (.aload_n 0, 1) := by decide +kernel
theorem dX12_point_61 : decode cX12_point 61 = .ok (.getfield 322, 3) := by decide +kernel
theorem dX12_point_64 : decode cX12_point 64 = .ok (.iload_n 1, 1) := by decide +kernel
theorem dX12_point_65 : decode cX12_point 65 = .ok (.iastore, 1) := by decide +kernel
theorem dX12_point_66 : decode cX12_point 66 = .ok (.aload_n 0, 1) := by decide +kernel
theorem dX12_point_67 : decode cX12_point 67 = .ok (.getfield 89, 3) := by decide +kernel
theorem dX12_point_70 : decode cX12_point 70 = .ok (.aload_n 0, 1) := by decide +kernel
theorem dX12_point_71 : decode cX12_point 71 = .ok (.getfield 322, 3) := by decide +kernel
theorem dX12_point_74 : decode cX12_point 74 = .ok (.iload_n 2, 1) := by decide +kernel
theorem dX12_point_75 : decode cX12_point 75 = .ok (.iastore, 1) := by decide +kernel
theorem dX12_point_76 : decode cX12_point 76 = .ok (.aload_n 0, 1) := by decide +kernel
theorem dX12_point_77 : decode cX12_point 77 = .ok (.dup, 1) := by decide +kernel
theorem dX12_point_78 : decode cX12_point 78 = .ok (.getfield 322, 3) := by decide +kernel
theorem dX12_point_81 : decode cX12_point 81 = .ok (.iconst 1, 1) := by decide +kernel
theorem dX12_point_82 : decode cX12_point 82 = .ok (.iadd, 1) := by decide +kernel
theorem dX12_point_83 : decode cX12_point 83 = .ok (.putfield 322, 3) := by decide +kernel
theorem dX12_point_86 : decode cX12_point 86 = .ok (.aload_n 0, 1) := by decide +kernel
theorem dX12_point_87 : decode cX12_point 87 = .ok (.getfield 322, 3) := by decide +kernel
theorem dX12_point_90 : decode cX12_point 90 = .ok (.ireturn, 1) := by decide +kernel
theorem dX12_beltAt_0 : decode cX12_beltAt 0 = .ok (.iload_n 1, 1) := by decide +kernel
theorem dX12_beltAt_1 : decode cX12_beltAt 1 = .ok (.aload_n 0, 1) := by decide +kernel
theorem dX12_beltAt_2 : decode cX12_beltAt 2 = .ok (.getfield 86, 3) := by decide +kernel
theorem dX12_beltAt_5 : decode cX12_beltAt 5 = .ok (.iconst 0, 1) := by decide +kernel
theorem dX12_beltAt_6 : decode cX12_beltAt 6 = .ok (.iaload, 1) := by decide +kernel
theorem dX12_beltAt_7 : decode cX12_beltAt 7 = .ok (.if_icmp .gt 10, 3) := by decide +kernel
theorem dX12_beltAt_10 : decode cX12_beltAt 10 = .ok (.aload_n 0, 1) := by decide +kernel
theorem dX12_beltAt_11 : decode cX12_beltAt 11 = .ok (.getfield 89, 3) := by decide +kernel
theorem dX12_beltAt_14 : decode cX12_beltAt 14 = .ok (.iconst 0, 1) := by decide +kernel
theorem dX12_beltAt_15 : decode cX12_beltAt 15 = .ok (.iaload, 1) := by decide +kernel
theorem dX12_beltAt_16 : decode cX12_beltAt 16 = .ok (.ireturn, 1) := by decide +kernel
theorem dX12_beltAt_17 : decode cX12_beltAt 17 = .ok (.iconst 1, 1) := by decide +kernel
theorem dX12_beltAt_18 : decode cX12_beltAt 18 = .ok (.istore_n 2, 1) := by decide +kernel
theorem dX12_beltAt_19 : decode cX12_beltAt 19 = .ok (.iload_n 2, 1) := by decide +kernel
theorem dX12_beltAt_20 : decode cX12_beltAt 20 = .ok (.aload_n 0, 1) := by decide +kernel
theorem dX12_beltAt_21 : decode cX12_beltAt 21 = .ok (.getfield 322, 3) := by decide +kernel
theorem dX12_beltAt_24 : decode cX12_beltAt 24 = .ok (.if_icmp .ge 69, 3) := by decide +kernel
theorem dX12_beltAt_27 : decode cX12_beltAt 27 = .ok (.aload_n 0, 1) := by decide +kernel
theorem dX12_beltAt_28 : decode cX12_beltAt 28 = .ok (.getfield 86, 3) := by decide +kernel
theorem dX12_beltAt_31 : decode cX12_beltAt 31 = .ok (.iload_n 2, 1) := by decide +kernel
theorem dX12_beltAt_32 : decode cX12_beltAt 32 = .ok (.iaload, 1) := by decide +kernel
theorem dX12_beltAt_33 : decode cX12_beltAt 33 = .ok (.aload_n 0, 1) := by decide +kernel
theorem dX12_beltAt_34 : decode cX12_beltAt 34 = .ok (.getfield 86, 3) := by decide +kernel
theorem dX12_beltAt_37 : decode cX12_beltAt 37 = .ok (.iload_n 2, 1) := by decide +kernel
theorem dX12_beltAt_38 : decode cX12_beltAt 38 = .ok (.iconst 1, 1) := by decide +kernel
theorem dX12_beltAt_39 : decode cX12_beltAt 39 = .ok (.isub, 1) := by decide +kernel
theorem dX12_beltAt_40 : decode cX12_beltAt 40 = .ok (.iaload, 1) := by decide +kernel
theorem dX12_beltAt_41 : decode cX12_beltAt 41 = .ok (.isub, 1) := by decide +kernel
theorem dX12_beltAt_42 : decode cX12_beltAt 42 = .ok (.istore_n 3, 1) := by decide +kernel
theorem dX12_beltAt_43 : decode cX12_beltAt 43 = .ok (.iload_n 1, 1) := by decide +kernel
theorem dX12_beltAt_44 : decode cX12_beltAt 44 = .ok (.aload_n 0, 1) := by decide +kernel
theorem dX12_beltAt_45 : decode cX12_beltAt 45 = .ok (.getfield 86, 3) := by decide +kernel
theorem dX12_beltAt_48 : decode cX12_beltAt 48 = .ok (.iload_n 2, 1) := by decide +kernel
theorem dX12_beltAt_49 : decode cX12_beltAt 49 = .ok (.iconst 1, 1) := by decide +kernel
theorem dX12_beltAt_50 : decode cX12_beltAt 50 = .ok (.isub, 1) := by decide +kernel
theorem dX12_beltAt_51 : decode cX12_beltAt 51 = .ok (.iaload, 1) := by decide +kernel
theorem dX12_beltAt_52 : decode cX12_beltAt 52 = .ok (.isub, 1) := by decide +kernel
theorem dX12_beltAt_53 : decode cX12_beltAt 53 = .ok (.istore 4, 2) := by decide +kernel
theorem dX12_beltAt_55 : decode cX12_beltAt 55 = .ok (.iload 4, 2) := by decide +kernel
theorem dX12_beltAt_57 : decode cX12_beltAt 57 = .ok (.iload_n 3, 1) := by decide +kernel
theorem dX12_beltAt_58 : decode cX12_beltAt 58 = .ok (.if_icmp .ge 29, 3) := by decide +kernel
theorem dX12_beltAt_61 : decode cX12_beltAt 61 = .ok (.aload_n 0, 1) := by decide +kernel
theorem dX12_beltAt_62 : decode cX12_beltAt 62 = .ok (.getfield 89, 3) := by decide +kernel
theorem dX12_beltAt_65 : decode cX12_beltAt 65 = .ok (.iload_n 2, 1) := by decide +kernel
theorem dX12_beltAt_66 : decode cX12_beltAt 66 = .ok (.iconst 1, 1) := by decide +kernel
theorem dX12_beltAt_67 : decode cX12_beltAt 67 = .ok (.isub, 1) := by decide +kernel
theorem dX12_beltAt_68 : decode cX12_beltAt 68 = .ok (.iaload, 1) := by decide +kernel
theorem dX12_beltAt_69 : decode cX12_beltAt 69 = .ok (.iload_n 3, 1) := by decide +kernel
theorem dX12_beltAt_70 : decode cX12_beltAt 70 = .ok (.iload 4, 2) := by decide +kernel
theorem dX12_beltAt_72 : decode cX12_beltAt 72 = .ok (.isub, 1) := by decide +kernel
theorem dX12_beltAt_73 : decode cX12_beltAt 73 = .ok (.imul, 1) := by decide +kernel
theorem dX12_beltAt_74 : decode cX12_beltAt 74 = .ok (.aload_n 0, 1) := by decide +kernel
theorem dX12_beltAt_75 : decode cX12_beltAt 75 = .ok (.getfield 89, 3) := by decide +kernel
theorem dX12_beltAt_78 : decode cX12_beltAt 78 = .ok (.iload_n 2, 1) := by decide +kernel
theorem dX12_beltAt_79 : decode cX12_beltAt 79 = .ok (.iaload, 1) := by decide +kernel
theorem dX12_beltAt_80 : decode cX12_beltAt 80 = .ok (.iload 4, 2) := by decide +kernel
theorem dX12_beltAt_82 : decode cX12_beltAt 82 = .ok (.imul, 1) := by decide +kernel
theorem dX12_beltAt_83 : decode cX12_beltAt 83 = .ok (.iadd, 1) := by decide +kernel
theorem dX12_beltAt_84 : decode cX12_beltAt 84 = .ok (.iload_n 3, 1) := by decide +kernel
theorem dX12_beltAt_85 : decode cX12_beltAt 85 = .ok (.idiv, 1) := by decide +kernel
theorem dX12_beltAt_86 : decode cX12_beltAt 86 = .ok (.ireturn, 1) := by decide +kernel
theorem dX12_beltAt_87 : decode cX12_beltAt 87 = .ok (.iinc 2 1, 3) := by decide +kernel
theorem dX12_beltAt_90 : decode cX12_beltAt 90 = .ok (.goto (-71), 3) := by decide +kernel
theorem dX12_beltAt_93 : decode cX12_beltAt 93 = .ok (.aload_n 0, 1) := by decide +kernel
theorem dX12_beltAt_94 : decode cX12_beltAt 94 = .ok (.getfield 89, 3) := by decide +kernel
theorem dX12_beltAt_97 : decode cX12_beltAt 97 = .ok (.aload_n 0, 1) := by decide +kernel
theorem dX12_beltAt_98 : decode cX12_beltAt 98 = .ok (.getfield 322, 3) := by decide +kernel
theorem dX12_beltAt_101 : decode cX12_beltAt 101 = .ok (.iconst 1, 1) := by decide +kernel
theorem dX12_beltAt_102 : decode cX12_beltAt 102 = .ok (.isub, 1) := by decide +kernel
theorem dX12_beltAt_103 : decode cX12_beltAt 103 = .ok (.iaload, 1) := by decide +kernel
theorem dX12_beltAt_104 : decode cX12_beltAt 104 = .ok (.ireturn, 1) := by decide +kernel
theorem dX12_belt_0 : decode cX12_belt 0 = .ok (.iload_n 1, 1) := by decide +kernel
theorem dX12_belt_1 : decode cX12_belt 1 = .ok (.iconst (-1), 1) := by decide +kernel
theorem dX12_belt_2 : decode cX12_belt 2 = .ok (.if_icmp .eq 11, 3) := by decide +kernel
theorem dX12_belt_5 : decode cX12_belt 5 = .ok (.aload_n 0, 1) := by decide +kernel
theorem dX12_belt_6 : decode cX12_belt 6 = .ok (.iload_n 1, 1) := by decide +kernel
theorem dX12_belt_7 : decode cX12_belt 7 = .ok (.invokevirtual 131, 3) := by decide +kernel
theorem dX12_belt_10 : decode cX12_belt 10 = .ok (.ifCond .eq 13, 3) := by decide +kernel
theorem dX12_belt_13 : decode cX12_belt 13 = .ok (.iload_n 2, 1) := by decide +kernel
theorem dX12_belt_14 : decode cX12_belt 14 = .ok (.iconst 0, 1) := by decide +kernel
theorem dX12_belt_15 : decode cX12_belt 15 = .ok (.bipush 99, 2) := by decide +kernel
theorem dX12_belt_17 : decode cX12_belt 17 = .ok (.invokestatic 117, 3) := by decide +kernel
theorem dX12_belt_20 : decode cX12_belt 20 = .ok (.ifCond .ne 5, 3) := by decide +kernel
theorem dX12_belt_23 : decode cX12_belt 23 = .ok (.iconst (-1), 1) := by decide +kernel
theorem dX12_belt_24 : decode cX12_belt 24 = .ok (.ireturn, 1) := by decide +kernel
theorem dX12_belt_25 : decode cX12_belt 25 = .ok (.aload_n 0, 1) := by decide +kernel
theorem dX12_belt_26 : decode cX12_belt 26 = .ok (.getfield 322, 3) := by decide +kernel
theorem dX12_belt_29 : decode cX12_belt 29 = .ok (.ifCond .ne 6, 3) := by decide +kernel
theorem dX12_belt_32 : decode cX12_belt 32 = .ok (.bipush (-5), 2) := by decide +kernel
theorem dX12_belt_34 : decode cX12_belt 34 = .ok (.ireturn, 1) := by decide +kernel
theorem dX12_belt_35 : decode cX12_belt 35 = .ok (.iload_n 1, 1) := by decide +kernel
theorem dX12_belt_36 : decode cX12_belt 36 = .ok (.iconst (-1), 1) := by decide +kernel
theorem dX12_belt_37 : decode cX12_belt 37 = .ok (.if_icmp .ne 11, 3) := by decide +kernel
theorem dX12_belt_40 : decode cX12_belt 40 = .ok (.aload_n 0, 1) := by decide +kernel
theorem dX12_belt_41 : decode cX12_belt 41 = .ok (.iload_n 2, 1) := by decide +kernel
theorem dX12_belt_42 : decode cX12_belt 42 = .ok (.invokevirtual 325, 3) := by decide +kernel
theorem dX12_belt_45 : decode cX12_belt 45 = .ok (.goto 19, 3) := by decide +kernel
theorem dX12_belt_48 : decode cX12_belt 48 = .ok (.aload_n 0, 1) := by decide +kernel
theorem dX12_belt_49 : decode cX12_belt 49 = .ok (.getfield 7, 3) := by decide +kernel
theorem dX12_belt_52 : decode cX12_belt 52 = .ok (.iload_n 1, 1) := by decide +kernel
theorem dX12_belt_53 : decode cX12_belt 53 = .ok (.iaload, 1) := by decide +kernel
theorem dX12_belt_54 : decode cX12_belt 54 = .ok (.aload_n 0, 1) := by decide +kernel
theorem dX12_belt_55 : decode cX12_belt 55 = .ok (.iload_n 2, 1) := by decide +kernel
theorem dX12_belt_56 : decode cX12_belt 56 = .ok (.invokevirtual 325, 3) := by decide +kernel
theorem dX12_belt_59 : decode cX12_belt 59 = .ok (.imul, 1) := by decide +kernel
theorem dX12_belt_60 : decode cX12_belt 60 = .ok (.sipush 1000, 3) := by decide +kernel
theorem dX12_belt_63 : decode cX12_belt 63 = .ok (.idiv, 1) := by decide +kernel
theorem dX12_belt_64 : decode cX12_belt 64 = .ok (.ireturn, 1) := by decide +kernel
theorem dX12_falls_0 : decode cX12_falls 0 = .ok (.aload_n 0, 1) := by decide +kernel
theorem dX12_falls_1 : decode cX12_falls 1 = .ok (.getfield 46, 3) := by decide +kernel
theorem dX12_falls_4 : decode cX12_falls 4 = .ok (.iload_n 1, 1) := by decide +kernel
theorem dX12_falls_5 : decode cX12_falls 5 = .ok (.iaload, 1) := by decide +kernel
theorem dX12_falls_6 : decode cX12_falls 6 = .ok (.ifCond .lt 22, 3) := by decide +kernel
theorem dX12_falls_9 : decode cX12_falls 9 = .ok (.aload_n 0, 1) := by decide +kernel
theorem dX12_falls_10 : decode cX12_falls 10 = .ok (.getfield 22, 3) := by decide +kernel
theorem dX12_falls_13 : decode cX12_falls 13 = .ok (.aload_n 0, 1) := by decide +kernel
theorem dX12_falls_14 : decode cX12_falls 14 = .ok (.getfield 46, 3) := by decide +kernel
theorem dX12_falls_17 : decode cX12_falls 17 = .ok (.iload_n 1, 1) := by decide +kernel
theorem dX12_falls_18 : decode cX12_falls 18 = .ok (.iaload, 1) := by decide +kernel
theorem dX12_falls_19 : decode cX12_falls 19 = .ok (.iaload, 1) := by decide +kernel
theorem dX12_falls_20 : decode cX12_falls 20 = .ok (.iload_n 2, 1) := by decide +kernel
theorem dX12_falls_21 : decode cX12_falls 21 = .ok (.if_icmp .le 7, 3) := by decide +kernel
theorem dX12_falls_24 : decode cX12_falls 24 = .ok (.iconst 1, 1) := by decide +kernel
theorem dX12_falls_25 : decode cX12_falls 25 = .ok (.goto 4, 3) := by decide +kernel
theorem dX12_falls_28 : decode cX12_falls 28 = .ok (.iconst 0, 1) := by decide +kernel
theorem dX12_falls_29 : decode cX12_falls 29 = .ok (.ireturn, 1) := by decide +kernel
theorem dX12_isBefore_0 : decode cX12_isBefore 0 = .ok (.aload_n 0, 1) := by decide +kernel
theorem dX12_isBefore_1 : decode cX12_isBefore 1 = .ok (.getfield 40, 3) := by decide +kernel
theorem dX12_isBefore_4 : decode cX12_isBefore 4 = .ok (.iload_n 1, 1) := by decide +kernel
theorem dX12_isBefore_5 : decode cX12_isBefore 5 = .ok (.iaload, 1) := by decide +kernel
theorem dX12_isBefore_6 : decode cX12_isBefore 6 = .ok (.aload_n 0, 1) := by decide +kernel
theorem dX12_isBefore_7 : decode cX12_isBefore 7 = .ok (.getfield 40, 3) := by decide +kernel
theorem dX12_isBefore_10 : decode cX12_isBefore 10 = .ok (.iload_n 2, 1) := by decide +kernel
theorem dX12_isBefore_11 : decode cX12_isBefore 11 = .ok (.iaload, 1) := by decide +kernel
theorem dX12_isBefore_12 : decode cX12_isBefore 12 = .ok (.if_icmp .eq 26, 3) := by decide +kernel
theorem dX12_isBefore_15 : decode cX12_isBefore 15 = .ok (.aload_n 0, 1) := by decide +kernel
theorem dX12_isBefore_16 : decode cX12_isBefore 16 = .ok (.getfield 40, 3) := by decide +kernel
theorem dX12_isBefore_19 : decode cX12_isBefore 19 = .ok (.iload_n 1, 1) := by decide +kernel
theorem dX12_isBefore_20 : decode cX12_isBefore 20 = .ok (.iaload, 1) := by decide +kernel
theorem dX12_isBefore_21 : decode cX12_isBefore 21 = .ok (.aload_n 0, 1) := by decide +kernel
theorem dX12_isBefore_22 : decode cX12_isBefore 22 = .ok (.getfield 40, 3) := by decide +kernel
theorem dX12_isBefore_25 : decode cX12_isBefore 25 = .ok (.iload_n 2, 1) := by decide +kernel
theorem dX12_isBefore_26 : decode cX12_isBefore 26 = .ok (.iaload, 1) := by decide +kernel
theorem dX12_isBefore_27 : decode cX12_isBefore 27 = .ok (.if_icmp .ge 7, 3) := by decide +kernel
theorem dX12_isBefore_30 : decode cX12_isBefore 30 = .ok (.iconst 1, 1) := by decide +kernel
theorem dX12_isBefore_31 : decode cX12_isBefore 31 = .ok (.goto 55, 3) := by decide +kernel
theorem dX12_isBefore_34 : decode cX12_isBefore 34 = .ok (.iconst 0, 1) := by decide +kernel
theorem dX12_isBefore_35 : decode cX12_isBefore 35 = .ok (.goto 51, 3) := by decide +kernel
theorem dX12_isBefore_38 : decode cX12_isBefore 38 = .ok (.aload_n 0, 1) := by decide +kernel
theorem dX12_isBefore_39 : decode cX12_isBefore 39 = .ok (.getfield 43, 3) := by decide +kernel
theorem dX12_isBefore_42 : decode cX12_isBefore 42 = .ok (.iload_n 1, 1) := by decide +kernel
theorem dX12_isBefore_43 : decode cX12_isBefore 43 = .ok (.iaload, 1) := by decide +kernel
theorem dX12_isBefore_44 : decode cX12_isBefore 44 = .ok (.aload_n 0, 1) := by decide +kernel
theorem dX12_isBefore_45 : decode cX12_isBefore 45 = .ok (.getfield 43, 3) := by decide +kernel
theorem dX12_isBefore_48 : decode cX12_isBefore 48 = .ok (.iload_n 2, 1) := by decide +kernel
theorem dX12_isBefore_49 : decode cX12_isBefore 49 = .ok (.iaload, 1) := by decide +kernel
theorem dX12_isBefore_50 : decode cX12_isBefore 50 = .ok (.if_icmp .eq 26, 3) := by decide +kernel
theorem dX12_isBefore_53 : decode cX12_isBefore 53 = .ok (.aload_n 0, 1) := by decide +kernel
theorem dX12_isBefore_54 : decode cX12_isBefore 54 = .ok (.getfield 43, 3) := by decide +kernel
theorem dX12_isBefore_57 : decode cX12_isBefore 57 = .ok (.iload_n 1, 1) := by decide +kernel
theorem dX12_isBefore_58 : decode cX12_isBefore 58 = .ok (.iaload, 1) := by decide +kernel
theorem dX12_isBefore_59 : decode cX12_isBefore 59 = .ok (.aload_n 0, 1) := by decide +kernel
theorem dX12_isBefore_60 : decode cX12_isBefore 60 = .ok (.getfield 43, 3) := by decide +kernel
theorem dX12_isBefore_63 : decode cX12_isBefore 63 = .ok (.iload_n 2, 1) := by decide +kernel
theorem dX12_isBefore_64 : decode cX12_isBefore 64 = .ok (.iaload, 1) := by decide +kernel
theorem dX12_isBefore_65 : decode cX12_isBefore 65 = .ok (.if_icmp .ge 7, 3) := by decide +kernel
theorem dX12_isBefore_68 : decode cX12_isBefore 68 = .ok (.iconst 1, 1) := by decide +kernel
theorem dX12_isBefore_69 : decode cX12_isBefore 69 = .ok (.goto 17, 3) := by decide +kernel
theorem dX12_isBefore_72 : decode cX12_isBefore 72 = .ok (.iconst 0, 1) := by decide +kernel
theorem dX12_isBefore_73 : decode cX12_isBefore 73 = .ok (.goto 13, 3) := by decide +kernel
theorem dX12_isBefore_76 : decode cX12_isBefore 76 = .ok (.iload_n 1, 1) := by decide +kernel
theorem dX12_isBefore_77 : decode cX12_isBefore 77 = .ok (.iload_n 2, 1) := by decide +kernel
theorem dX12_isBefore_78 : decode cX12_isBefore 78 = .ok (.if_icmp .ge 7, 3) := by decide +kernel
theorem dX12_isBefore_81 : decode cX12_isBefore 81 = .ok (.iconst 1, 1) := by decide +kernel
theorem dX12_isBefore_82 : decode cX12_isBefore 82 = .ok (.goto 4, 3) := by decide +kernel
theorem dX12_isBefore_85 : decode cX12_isBefore 85 = .ok (.iconst 0, 1) := by decide +kernel
theorem dX12_isBefore_86 : decode cX12_isBefore 86 = .ok (.ireturn, 1) := by decide +kernel
theorem dX12_isRecord_0 : decode cX12_isRecord 0 = .ok (.aload_n 0, 1) := by decide +kernel
theorem dX12_isRecord_1 : decode cX12_isRecord 1 = .ok (.iload_n 1, 1) := by decide +kernel
theorem dX12_isRecord_2 : decode cX12_isRecord 2 = .ok (.iload_n 2, 1) := by decide +kernel
theorem dX12_isRecord_3 : decode cX12_isRecord 3 = .ok (.invokevirtual 328, 3) := by decide +kernel
theorem dX12_isRecord_6 : decode cX12_isRecord 6 = .ok (.ifCond .eq 5, 3) := by decide +kernel
theorem dX12_isRecord_9 : decode cX12_isRecord 9 = .ok (.iconst 0, 1) := by decide +kernel
theorem dX12_isRecord_10 : decode cX12_isRecord 10 = .ok (.ireturn, 1) := by decide +kernel
theorem dX12_isRecord_11 : decode cX12_isRecord 11 = .ok (.iconst 0, 1) := by decide +kernel
theorem dX12_isRecord_12 : decode cX12_isRecord 12 = .ok (.istore_n 3, 1) := by decide +kernel
theorem dX12_isRecord_13 : decode cX12_isRecord 13 = .ok (.iload_n 3, 1) := by decide +kernel
theorem dX12_isRecord_14 : decode cX12_isRecord 14 = .ok (.aload_n 0, 1) := by decide +kernel
theorem dX12_isRecord_15 : decode cX12_isRecord 15 = .ok (.getfield 128, 3) := by decide +kernel
theorem dX12_isRecord_18 : decode cX12_isRecord 18 = .ok (.if_icmp .ge 59, 3) := by decide +kernel
theorem dX12_isRecord_21 : decode cX12_isRecord 21 = .ok (.aload_n 0, 1) := by decide +kernel
theorem dX12_isRecord_22 : decode cX12_isRecord 22 = .ok (.getfield 37, 3) := by decide +kernel
theorem dX12_isRecord_25 : decode cX12_isRecord 25 = .ok (.iload_n 3, 1) := by decide +kernel
theorem dX12_isRecord_26 : decode cX12_isRecord 26 = .ok (.iaload, 1) := by decide +kernel
theorem dX12_isRecord_27 : decode cX12_isRecord 27 = .ok (.aload_n 0, 1) := by decide +kernel
theorem dX12_isRecord_28 : decode cX12_isRecord 28 = .ok (.getfield 37, 3) := by decide +kernel
theorem dX12_isRecord_31 : decode cX12_isRecord 31 = .ok (.iload_n 1, 1) := by decide +kernel
theorem dX12_isRecord_32 : decode cX12_isRecord 32 = .ok (.iaload, 1) := by decide +kernel
theorem dX12_isRecord_33 : decode cX12_isRecord 33 = .ok (.if_icmp .ne 38, 3) := by decide +kernel
theorem dX12_isRecord_36 : decode cX12_isRecord 36 = .ok (.aload_n 0, 1) := by decide +kernel
theorem dX12_isRecord_37 : decode cX12_isRecord 37 = .ok (.iload_n 3, 1) := by decide +kernel
theorem dX12_isRecord_38 : decode cX12_isRecord 38 = .ok (.iload_n 2, 1) := by decide +kernel
theorem dX12_isRecord_39 : decode cX12_isRecord 39 = .ok (.invokevirtual 328, 3) := by decide +kernel
theorem dX12_isRecord_42 : decode cX12_isRecord 42 = .ok (.ifCond .ne 29, 3) := by decide +kernel
theorem dX12_isRecord_45 : decode cX12_isRecord 45 = .ok (.aload_n 0, 1) := by decide +kernel
theorem dX12_isRecord_46 : decode cX12_isRecord 46 = .ok (.iload_n 3, 1) := by decide +kernel
theorem dX12_isRecord_47 : decode cX12_isRecord 47 = .ok (.iload_n 1, 1) := by decide +kernel
theorem dX12_isRecord_48 : decode cX12_isRecord 48 = .ok (.invokevirtual 331, 3) := by decide +kernel
theorem dX12_isRecord_51 : decode cX12_isRecord 51 = .ok (.ifCond .eq 20, 3) := by decide +kernel
theorem dX12_isRecord_54 : decode cX12_isRecord 54 = .ok (.aload_n 0, 1) := by decide +kernel
theorem dX12_isRecord_55 : decode cX12_isRecord 55 = .ok (.getfield 43, 3) := by decide +kernel
theorem dX12_isRecord_58 : decode cX12_isRecord 58 = .ok (.iload_n 3, 1) := by decide +kernel
theorem dX12_isRecord_59 : decode cX12_isRecord 59 = .ok (.iaload, 1) := by decide +kernel
theorem dX12_isRecord_60 : decode cX12_isRecord 60 = .ok (.aload_n 0, 1) := by decide +kernel
theorem dX12_isRecord_61 : decode cX12_isRecord 61 = .ok (.getfield 43, 3) := by decide +kernel
theorem dX12_isRecord_64 : decode cX12_isRecord 64 = .ok (.iload_n 1, 1) := by decide +kernel
theorem dX12_isRecord_65 : decode cX12_isRecord 65 = .ok (.iaload, 1) := by decide +kernel
theorem dX12_isRecord_66 : decode cX12_isRecord 66 = .ok (.if_icmp .gt 5, 3) := by decide +kernel
theorem dX12_isRecord_69 : decode cX12_isRecord 69 = .ok (.iconst 0, 1) := by decide +kernel
theorem dX12_isRecord_70 : decode cX12_isRecord 70 = .ok (.ireturn, 1) := by decide +kernel
theorem dX12_isRecord_71 : decode cX12_isRecord 71 = .ok (.iinc 3 1, 3) := by decide +kernel
theorem dX12_isRecord_74 : decode cX12_isRecord 74 = .ok (.goto (-61), 3) := by decide +kernel
theorem dX12_isRecord_77 : decode cX12_isRecord 77 = .ok (.iconst 1, 1) := by decide +kernel
theorem dX12_isRecord_78 : decode cX12_isRecord 78 = .ok (.ireturn, 1) := by decide +kernel
theorem dX12_records_0 : decode cX12_records 0 = .ok (.aload_n 0, 1) := by decide +kernel
theorem dX12_records_1 : decode cX12_records 1 = .ok (.iload_n 1, 1) := by decide +kernel
theorem dX12_records_2 : decode cX12_records 2 = .ok (.invokevirtual 135, 3) := by decide +kernel
theorem dX12_records_5 : decode cX12_records 5 = .ok (.ifCond .eq 18, 3) := by decide +kernel
theorem dX12_records_8 : decode cX12_records 8 = .ok (.iload_n 2, 1) := by decide +kernel
theorem dX12_records_9 : decode cX12_records 9 = .ok (.iconst 0, 1) := by decide +kernel
theorem dX12_records_10 : decode cX12_records 10 = .ok (.bipush 99, 2) := by decide +kernel
theorem dX12_records_12 : decode cX12_records 12 = .ok (.invokestatic 117, 3) := by decide +kernel
theorem dX12_records_15 : decode cX12_records 15 = .ok (.ifCond .eq 8, 3) := by decide +kernel
theorem dX12_records_18 : decode cX12_records 18 = .ok (.iload_n 3, 1) := by decide +kernel
theorem dX12_records_19 : decode cX12_records 19 = .ok (.iconst (-1), 1) := by decide +kernel
theorem dX12_records_20 : decode cX12_records 20 = .ok (.if_icmp .ge 5, 3) := by decide +kernel
theorem dX12_records_23 : decode cX12_records 23 = .ok (.iconst (-1), 1) := by decide +kernel
theorem dX12_records_24 : decode cX12_records 24 = .ok (.ireturn, 1) := by decide +kernel
theorem dX12_records_25 : decode cX12_records 25 = .ok (.iconst 0, 1) := by decide +kernel
theorem dX12_records_26 : decode cX12_records 26 = .ok (.istore 4, 2) := by decide +kernel
theorem dX12_records_28 : decode cX12_records 28 = .ok (.iconst (-1), 1) := by decide +kernel
theorem dX12_records_29 : decode cX12_records 29 = .ok (.istore 5, 2) := by decide +kernel
theorem dX12_records_31 : decode cX12_records 31 = .ok (.iconst (-1), 1) := by decide +kernel
theorem dX12_records_32 : decode cX12_records 32 = .ok (.istore 6, 2) := by decide +kernel
theorem dX12_records_34 : decode cX12_records 34 = .ok (.iconst 0, 1) := by decide +kernel
theorem dX12_records_35 : decode cX12_records 35 = .ok (.istore 7, 2) := by decide +kernel
theorem dX12_records_37 : decode cX12_records 37 = .ok (.iload 7, 2) := by decide +kernel
theorem dX12_records_39 : decode cX12_records 39 = .ok (.aload_n 0, 1) := by decide +kernel
theorem dX12_records_40 : decode cX12_records 40 = .ok (.getfield 128, 3) := by decide +kernel
theorem dX12_records_43 : decode cX12_records 43 = .ok (.if_icmp .ge 66, 3) := by decide +kernel
theorem dX12_records_46 : decode cX12_records 46 = .ok (.aload_n 0, 1) := by decide +kernel
theorem dX12_records_47 : decode cX12_records 47 = .ok (.getfield 37, 3) := by decide +kernel
theorem dX12_records_50 : decode cX12_records 50 = .ok (.iload 7, 2) := by decide +kernel
theorem dX12_records_52 : decode cX12_records 52 = .ok (.iaload, 1) := by decide +kernel
theorem dX12_records_53 : decode cX12_records 53 = .ok (.iload_n 1, 1) := by decide +kernel
theorem dX12_records_54 : decode cX12_records 54 = .ok (.if_icmp .ne 49, 3) := by decide +kernel
theorem dX12_records_57 : decode cX12_records 57 = .ok (.aload_n 0, 1) := by decide +kernel
theorem dX12_records_58 : decode cX12_records 58 = .ok (.iload 7, 2) := by decide +kernel
theorem dX12_records_60 : decode cX12_records 60 = .ok (.iload_n 2, 1) := by decide +kernel
theorem dX12_records_61 : decode cX12_records 61 = .ok (.invokevirtual 334, 3) := by decide +kernel
theorem dX12_records_64 : decode cX12_records 64 = .ok (.ifCond .eq 39, 3) := by decide +kernel
theorem dX12_records_67 : decode cX12_records 67 = .ok (.iload 5, 2) := by decide +kernel
theorem dX12_records_69 : decode cX12_records 69 = .ok (.ifCond .lt 14, 3) := by decide +kernel
theorem dX12_records_72 : decode cX12_records 72 = .ok (.aload_n 0, 1) := by decide +kernel
theorem dX12_records_73 : decode cX12_records 73 = .ok (.iload 5, 2) := by decide +kernel
theorem dX12_records_75 : decode cX12_records 75 = .ok (.iload 7, 2) := by decide +kernel
theorem dX12_records_77 : decode cX12_records 77 = .ok (.invokevirtual 331, 3) := by decide +kernel
theorem dX12_records_80 : decode cX12_records 80 = .ok (.ifCond .eq 23, 3) := by decide +kernel
theorem dX12_records_83 : decode cX12_records 83 = .ok (.iload 6, 2) := by decide +kernel
theorem dX12_records_85 : decode cX12_records 85 = .ok (.ifCond .lt 14, 3) := by decide +kernel
theorem dX12_records_88 : decode cX12_records 88 = .ok (.aload_n 0, 1) := by decide +kernel
theorem dX12_records_89 : decode cX12_records 89 = .ok (.iload 7, 2) := by decide +kernel
theorem dX12_records_91 : decode cX12_records 91 = .ok (.iload 6, 2) := by decide +kernel
theorem dX12_records_93 : decode cX12_records 93 = .ok (.invokevirtual 331, 3) := by decide +kernel
theorem dX12_records_96 : decode cX12_records 96 = .ok (.ifCond .eq 7, 3) := by decide +kernel
theorem dX12_records_99 : decode cX12_records 99 = .ok (.iload 7, 2) := by decide +kernel
theorem dX12_records_101 : decode cX12_records 101 = .ok (.istore 6, 2) := by decide +kernel
theorem dX12_records_103 : decode cX12_records 103 = .ok (.iinc 7 1, 3) := by decide +kernel
theorem dX12_records_106 : decode cX12_records 106 = .ok (.goto (-69), 3) := by decide +kernel
theorem dX12_records_109 : decode cX12_records 109 = .ok (.iload 6, 2) := by decide +kernel
theorem dX12_records_111 : decode cX12_records 111 = .ok (.ifCond .ge 15, 3) := by decide +kernel
theorem dX12_records_114 : decode cX12_records 114 = .ok (.iload_n 3, 1) := by decide +kernel
theorem dX12_records_115 : decode cX12_records 115 = .ok (.iconst (-1), 1) := by decide +kernel
theorem dX12_records_116 : decode cX12_records 116 = .ok (.if_icmp .ne 8, 3) := by decide +kernel
theorem dX12_records_119 : decode cX12_records 119 = .ok (.iload 4, 2) := by decide +kernel
theorem dX12_records_121 : decode cX12_records 121 = .ok (.goto 4, 3) := by decide +kernel
theorem dX12_records_124 : decode cX12_records 124 = .ok (.iconst (-1), 1) := by decide +kernel
theorem dX12_records_125 : decode cX12_records 125 = .ok (.ireturn, 1) := by decide +kernel
theorem dX12_records_126 : decode cX12_records 126 = .ok (.iload 4, 2) := by decide +kernel
theorem dX12_records_128 : decode cX12_records 128 = .ok (.iload_n 3, 1) := by decide +kernel
theorem dX12_records_129 : decode cX12_records 129 = .ok (.if_icmp .ne 6, 3) := by decide +kernel
theorem dX12_records_132 : decode cX12_records 132 = .ok (.iload 6, 2) := by decide +kernel
theorem dX12_records_134 : decode cX12_records 134 = .ok (.ireturn, 1) := by decide +kernel
theorem dX12_records_135 : decode cX12_records 135 = .ok (.iinc 4 1, 3) := by decide +kernel
theorem dX12_records_138 : decode cX12_records 138 = .ok (.iload 6, 2) := by decide +kernel
theorem dX12_records_140 : decode cX12_records 140 = .ok (.istore 5, 2) := by decide +kernel
theorem dX12_records_142 : decode cX12_records 142 = .ok (.goto (-111), 3) := by decide +kernel
theorem dX12_best_0 : decode cX12_best 0 = .ok (.aload_n 0, 1) := by decide +kernel
theorem dX12_best_1 : decode cX12_best 1 = .ok (.iload_n 1, 1) := by decide +kernel
theorem dX12_best_2 : decode cX12_best 2 = .ok (.invokevirtual 135, 3) := by decide +kernel
theorem dX12_best_5 : decode cX12_best 5 = .ok (.ifCond .eq 22, 3) := by decide +kernel
theorem dX12_best_8 : decode cX12_best 8 = .ok (.iload_n 2, 1) := by decide +kernel
theorem dX12_best_9 : decode cX12_best 9 = .ok (.iconst 0, 1) := by decide +kernel
theorem dX12_best_10 : decode cX12_best 10 = .ok (.bipush 99, 2) := by decide +kernel
theorem dX12_best_12 : decode cX12_best 12 = .ok (.invokestatic 117, 3) := by decide +kernel
theorem dX12_best_15 : decode cX12_best 15 = .ok (.ifCond .eq 12, 3) := by decide +kernel
theorem dX12_best_18 : decode cX12_best 18 = .ok (.iload_n 3, 1) := by decide +kernel
theorem dX12_best_19 : decode cX12_best 19 = .ok (.iconst 0, 1) := by decide +kernel
theorem dX12_best_20 : decode cX12_best 20 = .ok (.iconst 1, 1) := by decide +kernel
theorem dX12_best_21 : decode cX12_best 21 = .ok (.invokestatic 117, 3) := by decide +kernel
theorem dX12_best_24 : decode cX12_best 24 = .ok (.ifCond .ne 5, 3) := by decide +kernel
theorem dX12_best_27 : decode cX12_best 27 = .ok (.iconst (-1), 1) := by decide +kernel
theorem dX12_best_28 : decode cX12_best 28 = .ok (.ireturn, 1) := by decide +kernel
theorem dX12_best_29 : decode cX12_best 29 = .ok (.iconst (-1), 1) := by decide +kernel
theorem dX12_best_30 : decode cX12_best 30 = .ok (.istore 4, 2) := by decide +kernel
theorem dX12_best_32 : decode cX12_best 32 = .ok (.iconst 0, 1) := by decide +kernel
theorem dX12_best_33 : decode cX12_best 33 = .ok (.istore 5, 2) := by decide +kernel
theorem dX12_best_35 : decode cX12_best 35 = .ok (.iload 5, 2) := by decide +kernel
theorem dX12_best_37 : decode cX12_best 37 = .ok (.aload_n 0, 1) := by decide +kernel
theorem dX12_best_38 : decode cX12_best 38 = .ok (.getfield 128, 3) := by decide +kernel
theorem dX12_best_41 : decode cX12_best 41 = .ok (.if_icmp .ge 44, 3) := by decide +kernel
theorem dX12_best_44 : decode cX12_best 44 = .ok (.aload_n 0, 1) := by decide +kernel
theorem dX12_best_45 : decode cX12_best 45 = .ok (.getfield 37, 3) := by decide +kernel
theorem dX12_best_48 : decode cX12_best 48 = .ok (.iload 5, 2) := by decide +kernel
theorem dX12_best_50 : decode cX12_best 50 = .ok (.iaload, 1) := by decide +kernel
theorem dX12_best_51 : decode cX12_best 51 = .ok (.iload_n 1, 1) := by decide +kernel
theorem dX12_best_52 : decode cX12_best 52 = .ok (.if_icmp .ne 27, 3) := by decide +kernel
theorem dX12_best_55 : decode cX12_best 55 = .ok (.iload 4, 2) := by decide +kernel
theorem dX12_best_57 : decode cX12_best 57 = .ok (.ifCond .lt 18, 3) := by decide +kernel
theorem dX12_best_60 : decode cX12_best 60 = .ok (.aload_n 0, 1) := by decide +kernel
theorem dX12_best_61 : decode cX12_best 61 = .ok (.iload 5, 2) := by decide +kernel
theorem dX12_best_63 : decode cX12_best 63 = .ok (.invokevirtual 161, 3) := by decide +kernel
theorem dX12_best_66 : decode cX12_best 66 = .ok (.aload_n 0, 1) := by decide +kernel
theorem dX12_best_67 : decode cX12_best 67 = .ok (.iload 4, 2) := by decide +kernel
theorem dX12_best_69 : decode cX12_best 69 = .ok (.invokevirtual 161, 3) := by decide +kernel
theorem dX12_best_72 : decode cX12_best 72 = .ok (.if_icmp .ge 7, 3) := by decide +kernel
theorem dX12_best_75 : decode cX12_best 75 = .ok (.iload 5, 2) := by decide +kernel
theorem dX12_best_77 : decode cX12_best 77 = .ok (.istore 4, 2) := by decide +kernel
theorem dX12_best_79 : decode cX12_best 79 = .ok (.iinc 5 1, 3) := by decide +kernel
theorem dX12_best_82 : decode cX12_best 82 = .ok (.goto (-47), 3) := by decide +kernel
theorem dX12_best_85 : decode cX12_best 85 = .ok (.iload 4, 2) := by decide +kernel
theorem dX12_best_87 : decode cX12_best 87 = .ok (.ifCond .ge 8, 3) := by decide +kernel
theorem dX12_best_90 : decode cX12_best 90 = .ok (.bipush (-2), 2) := by decide +kernel
theorem dX12_best_92 : decode cX12_best 92 = .ok (.goto 21, 3) := by decide +kernel
theorem dX12_best_95 : decode cX12_best 95 = .ok (.iload_n 3, 1) := by decide +kernel
theorem dX12_best_96 : decode cX12_best 96 = .ok (.ifCond .ne 8, 3) := by decide +kernel
theorem dX12_best_99 : decode cX12_best 99 = .ok (.iload 4, 2) := by decide +kernel
theorem dX12_best_101 : decode cX12_best 101 = .ok (.goto 12, 3) := by decide +kernel
theorem dX12_best_104 : decode cX12_best 104 = .ok (.iload_n 2, 1) := by decide +kernel
theorem dX12_best_105 : decode cX12_best 105 = .ok (.aload_n 0, 1) := by decide +kernel
theorem dX12_best_106 : decode cX12_best 106 = .ok (.getfield 40, 3) := by decide +kernel
theorem dX12_best_109 : decode cX12_best 109 = .ok (.iload 4, 2) := by decide +kernel
theorem dX12_best_111 : decode cX12_best 111 = .ok (.iaload, 1) := by decide +kernel
theorem dX12_best_112 : decode cX12_best 112 = .ok (.isub, 1) := by decide +kernel
theorem dX12_best_113 : decode cX12_best 113 = .ok (.ireturn, 1) := by decide +kernel
theorem dX12_rule_0 : decode cX12_rule 0 = .ok (.iload_n 1, 1) := by decide +kernel
theorem dX12_rule_1 : decode cX12_rule 1 = .ok (.iconst 0, 1) := by decide +kernel
theorem dX12_rule_2 : decode cX12_rule 2 = .ok (.bipush 99, 2) := by decide +kernel
theorem dX12_rule_4 : decode cX12_rule 4 = .ok (.invokestatic 117, 3) := by decide +kernel
theorem dX12_rule_7 : decode cX12_rule 7 = .ok (.ifCond .ne 5, 3) := by decide +kernel
theorem dX12_rule_10 : decode cX12_rule 10 = .ok (.iconst (-1), 1) := by decide +kernel
theorem dX12_rule_11 : decode cX12_rule 11 = .ok (.ireturn, 1) := by decide +kernel
theorem dX12_rule_12 : decode cX12_rule 12 = .ok (.iconst 0, 1) := by decide +kernel
theorem dX12_rule_13 : decode cX12_rule 13 = .ok (.istore_n 2, 1) := by decide +kernel
theorem dX12_rule_14 : decode cX12_rule 14 = .ok (.iconst 0, 1) := by decide +kernel
theorem dX12_rule_15 : decode cX12_rule 15 = .ok (.istore_n 3, 1) := by decide +kernel
theorem dX12_rule_16 : decode cX12_rule 16 = .ok (.iload_n 3, 1) := by decide +kernel
theorem dX12_rule_17 : decode cX12_rule 17 = .ok (.aload_n 0, 1) := by decide +kernel
theorem dX12_rule_18 : decode cX12_rule 18 = .ok (.getfield 128, 3) := by decide +kernel
theorem dX12_rule_21 : decode cX12_rule 21 = .ok (.if_icmp .ge 26, 3) := by decide +kernel
theorem dX12_rule_24 : decode cX12_rule 24 = .ok (.iload_n 2, 1) := by decide +kernel
theorem dX12_rule_25 : decode cX12_rule 25 = .ok (.aload_n 0, 1) := by decide +kernel
theorem dX12_rule_26 : decode cX12_rule 26 = .ok (.iload_n 3, 1) := by decide +kernel
theorem dX12_rule_27 : decode cX12_rule 27 = .ok (.iload_n 1, 1) := by decide +kernel
theorem dX12_rule_28 : decode cX12_rule 28 = .ok (.invokevirtual 328, 3) := by decide +kernel
theorem dX12_rule_31 : decode cX12_rule 31 = .ok (.ifCond .eq 7, 3) := by decide +kernel
theorem dX12_rule_34 : decode cX12_rule 34 = .ok (.iconst 1, 1) := by decide +kernel
theorem dX12_rule_35 : decode cX12_rule 35 = .ok (.goto 4, 3) := by decide +kernel
theorem dX12_rule_38 : decode cX12_rule 38 = .ok (.iconst 0, 1) := by decide +kernel
theorem dX12_rule_39 : decode cX12_rule 39 = .ok (.iadd, 1) := by decide +kernel
theorem dX12_rule_40 : decode cX12_rule 40 = .ok (.istore_n 2, 1) := by decide +kernel
theorem dX12_rule_41 : decode cX12_rule 41 = .ok (.iinc 3 1, 3) := by decide +kernel
theorem dX12_rule_44 : decode cX12_rule 44 = .ok (.goto (-28), 3) := by decide +kernel
theorem dX12_rule_47 : decode cX12_rule 47 = .ok (.iload_n 2, 1) := by decide +kernel
theorem dX12_rule_48 : decode cX12_rule 48 = .ok (.ireturn, 1) := by decide +kernel
theorem dX12_dead_0 : decode cX12_dead 0 = .ok (.aload_n 0, 1) := by decide +kernel
theorem dX12_dead_1 : decode cX12_dead 1 = .ok (.iload_n 1, 1) := by decide +kernel
theorem dX12_dead_2 : decode cX12_dead 2 = .ok (.invokevirtual 138, 3) := by decide +kernel
theorem dX12_dead_5 : decode cX12_dead 5 = .ok (.ifCond .eq 13, 3) := by decide +kernel
theorem dX12_dead_8 : decode cX12_dead 8 = .ok (.iload_n 2, 1) := by decide +kernel
theorem dX12_dead_9 : decode cX12_dead 9 = .ok (.iconst 0, 1) := by decide +kernel
theorem dX12_dead_10 : decode cX12_dead 10 = .ok (.bipush 99, 2) := by decide +kernel
theorem dX12_dead_12 : decode cX12_dead 12 = .ok (.invokestatic 117, 3) := by decide +kernel
theorem dX12_dead_15 : decode cX12_dead 15 = .ok (.ifCond .ne 6, 3) := by decide +kernel
theorem dX12_dead_18 : decode cX12_dead 18 = .ok (.ldc 156, 2) := by decide +kernel
theorem dX12_dead_20 : decode cX12_dead 20 = .ok (.ireturn, 1) := by decide +kernel
theorem dX12_dead_21 : decode cX12_dead 21 = .ok (.iload_n 2, 1) := by decide +kernel
theorem dX12_dead_22 : decode cX12_dead 22 = .ok (.bipush 10, 2) := by decide +kernel
theorem dX12_dead_24 : decode cX12_dead 24 = .ok (.if_icmp .lt 7, 3) := by decide +kernel
theorem dX12_dead_27 : decode cX12_dead 27 = .ok (.iconst 0, 1) := by decide +kernel
theorem dX12_dead_28 : decode cX12_dead 28 = .ok (.goto 17, 3) := by decide +kernel
theorem dX12_dead_31 : decode cX12_dead 31 = .ok (.aload_n 0, 1) := by decide +kernel
theorem dX12_dead_32 : decode cX12_dead 32 = .ok (.getfield 25, 3) := by decide +kernel
theorem dX12_dead_35 : decode cX12_dead 35 = .ok (.iload_n 1, 1) := by decide +kernel
theorem dX12_dead_36 : decode cX12_dead 36 = .ok (.iaload, 1) := by decide +kernel
theorem dX12_dead_37 : decode cX12_dead 37 = .ok (.bipush 10, 2) := by decide +kernel
theorem dX12_dead_39 : decode cX12_dead 39 = .ok (.iload_n 2, 1) := by decide +kernel
theorem dX12_dead_40 : decode cX12_dead 40 = .ok (.isub, 1) := by decide +kernel
theorem dX12_dead_41 : decode cX12_dead 41 = .ok (.imul, 1) := by decide +kernel
theorem dX12_dead_42 : decode cX12_dead 42 = .ok (.bipush 10, 2) := by decide +kernel
theorem dX12_dead_44 : decode cX12_dead 44 = .ok (.idiv, 1) := by decide +kernel
theorem dX12_dead_45 : decode cX12_dead 45 = .ok (.ireturn, 1) := by decide +kernel
theorem dX12_needed_0 : decode cX12_needed 0 = .ok (.aload_n 0, 1) := by decide +kernel
theorem dX12_needed_1 : decode cX12_needed 1 = .ok (.iload_n 1, 1) := by decide +kernel
theorem dX12_needed_2 : decode cX12_needed 2 = .ok (.invokevirtual 138, 3) := by decide +kernel
theorem dX12_needed_5 : decode cX12_needed 5 = .ok (.ifCond .ne 5, 3) := by decide +kernel
theorem dX12_needed_8 : decode cX12_needed 8 = .ok (.iconst (-1), 1) := by decide +kernel
theorem dX12_needed_9 : decode cX12_needed 9 = .ok (.ireturn, 1) := by decide +kernel
theorem dX12_needed_10 : decode cX12_needed 10 = .ok (.aload_n 0, 1) := by decide +kernel
theorem dX12_needed_11 : decode cX12_needed 11 = .ok (.iconst 2, 1) := by decide +kernel
theorem dX12_needed_12 : decode cX12_needed 12 = .ok (.invokevirtual 277, 3) := by decide +kernel
theorem dX12_needed_15 : decode cX12_needed 15 = .ok (.istore_n 2, 1) := by decide +kernel
theorem dX12_needed_16 : decode cX12_needed 16 = .ok (.iload_n 2, 1) := by decide +kernel
theorem dX12_needed_17 : decode cX12_needed 17 = .ok (.ldc 156, 2) := by decide +kernel
theorem dX12_needed_19 : decode cX12_needed 19 = .ok (.if_icmp .eq 12, 3) := by decide +kernel
theorem dX12_needed_22 : decode cX12_needed 22 = .ok (.aload_n 0, 1) := by decide +kernel
theorem dX12_needed_23 : decode cX12_needed 23 = .ok (.getfield 25, 3) := by decide +kernel
theorem dX12_needed_26 : decode cX12_needed 26 = .ok (.iload_n 1, 1) := by decide +kernel
theorem dX12_needed_27 : decode cX12_needed 27 = .ok (.iaload, 1) := by decide +kernel
theorem dX12_needed_28 : decode cX12_needed 28 = .ok (.ifCond .ne 6, 3) := by decide +kernel
theorem dX12_needed_31 : decode cX12_needed 31 = .ok (.bipush (-2), 2) := by decide +kernel
theorem dX12_needed_33 : decode cX12_needed 33 = .ok (.ireturn, 1) := by decide +kernel
theorem dX12_needed_34 : decode cX12_needed 34 = .ok (.aload_n 0, 1) := by decide +kernel
theorem dX12_needed_35 : decode cX12_needed 35 = .ok (.getfield 259, 3) := by decide +kernel
theorem dX12_needed_38 : decode cX12_needed 38 = .ok (.istore_n 3, 1) := by decide +kernel
theorem dX12_needed_39 : decode cX12_needed 39 = .ok (.lconst 0, 1) := by decide +kernel
theorem dX12_needed_40 : decode cX12_needed 40 = .ok (.lstore 4, 2) := by decide +kernel
theorem dX12_needed_42 : decode cX12_needed 42 = .ok (.iconst 0, 1) := by decide +kernel
theorem dX12_needed_43 : decode cX12_needed 43 = .ok (.istore 6, 2) := by decide +kernel
theorem dX12_needed_45 : decode cX12_needed 45 = .ok (.iload 6, 2) := by decide +kernel
theorem dX12_needed_47 : decode cX12_needed 47 = .ok (.aload_n 0, 1) := by decide +kernel
theorem dX12_needed_48 : decode cX12_needed 48 = .ok (.getfield 128, 3) := by decide +kernel
theorem dX12_needed_51 : decode cX12_needed 51 = .ok (.if_icmp .ge 55, 3) := by decide +kernel
theorem dX12_needed_54 : decode cX12_needed 54 = .ok (.aload_n 0, 1) := by decide +kernel
theorem dX12_needed_55 : decode cX12_needed 55 = .ok (.iload 6, 2) := by decide +kernel
theorem dX12_needed_57 : decode cX12_needed 57 = .ok (.invokevirtual 265, 3) := by decide +kernel
theorem dX12_needed_60 : decode cX12_needed 60 = .ok (.istore 7, 2) := by decide +kernel
theorem dX12_needed_62 : decode cX12_needed 62 = .ok (.aload_n 0, 1) := by decide +kernel
theorem dX12_needed_63 : decode cX12_needed 63 = .ok (.iload 6, 2) := by decide +kernel
theorem dX12_needed_65 : decode cX12_needed 65 = .ok (.iload 7, 2) := by decide +kernel
theorem dX12_needed_67 : decode cX12_needed 67 = .ok (.invokevirtual 268, 3) := by decide +kernel
theorem dX12_needed_70 : decode cX12_needed 70 = .ok (.iconst 2, 1) := by decide +kernel
theorem dX12_needed_71 : decode cX12_needed 71 = .ok (.if_icmp .eq 6, 3) := by decide +kernel
theorem dX12_needed_74 : decode cX12_needed 74 = .ok (.goto 26, 3) := by decide +kernel
theorem dX12_needed_77 : decode cX12_needed 77 = .ok (.aload_n 0, 1) := by decide +kernel
theorem dX12_needed_78 : decode cX12_needed 78 = .ok (.iload 6, 2) := by decide +kernel
theorem dX12_needed_80 : decode cX12_needed 80 = .ok (.iload 7, 2) := by decide +kernel
theorem dX12_needed_82 : decode cX12_needed 82 = .ok (.invokevirtual 271, 3) := by decide +kernel
theorem dX12_needed_85 : decode cX12_needed 85 = .ok (.iload_n 2, 1) := by decide +kernel
theorem dX12_needed_86 : decode cX12_needed 86 = .ok (.isub, 1) := by decide +kernel
theorem dX12_needed_87 : decode cX12_needed 87 = .ok (.i2l, 1) := by decide +kernel
theorem dX12_needed_88 : decode cX12_needed 88 = .ok (.lstore 8, 2) := by decide +kernel
theorem dX12_needed_90 : decode cX12_needed 90 = .ok (.lload 4, 2) := by decide +kernel
theorem dX12_needed_92 : decode cX12_needed 92 = .ok (.lload 8, 2) := by decide +kernel
theorem dX12_needed_94 : decode cX12_needed 94 = .ok (.lload 8, 2) := by decide +kernel
theorem dX12_needed_96 : decode cX12_needed 96 = .ok (.lmul, 1) := by decide +kernel
theorem dX12_needed_97 : decode cX12_needed 97 = .ok (.ladd, 1) := by decide +kernel
theorem dX12_needed_98 : decode cX12_needed 98 = .ok (.lstore 4, 2) := by decide +kernel
theorem dX12_needed_100 : decode cX12_needed 100 = .ok (.iinc 6 1, 3) := by decide +kernel
theorem dX12_needed_103 : decode cX12_needed 103 = .ok (.goto (-58), 3) := by decide +kernel
theorem dX12_needed_106 : decode cX12_needed 106 = .ok (.ldc2_w 337, 3) := by decide +kernel
theorem dX12_needed_109 : decode cX12_needed 109 = .ok (.lload 4, 2) := by decide +kernel
theorem dX12_needed_111 : decode cX12_needed 111 = .ok (.iload_n 3, 1) := by decide +kernel
theorem dX12_needed_112 : decode cX12_needed 112 = .ok (.i2l, 1) := by decide +kernel
theorem dX12_needed_113 : decode cX12_needed 113 = .ok (.ldiv, 1) := by decide +kernel
theorem dX12_needed_114 : decode cX12_needed 114 = .ok (.lmul, 1) := by decide +kernel
theorem dX12_needed_115 : decode cX12_needed 115 = .ok (.lstore 6, 2) := by decide +kernel
theorem dX12_needed_117 : decode cX12_needed 117 = .ok (.aload_n 0, 1) := by decide +kernel
theorem dX12_needed_118 : decode cX12_needed 118 = .ok (.getfield 25, 3) := by decide +kernel
theorem dX12_needed_121 : decode cX12_needed 121 = .ok (.iload_n 1, 1) := by decide +kernel
theorem dX12_needed_122 : decode cX12_needed 122 = .ok (.iaload, 1) := by decide +kernel
theorem dX12_needed_123 : decode cX12_needed 123 = .ok (.aload_n 0, 1) := by decide +kernel
theorem dX12_needed_124 : decode cX12_needed 124 = .ok (.getfield 25, 3) := by decide +kernel
theorem dX12_needed_127 : decode cX12_needed 127 = .ok (.iload_n 1, 1) := by decide +kernel
theorem dX12_needed_128 : decode cX12_needed 128 = .ok (.iaload, 1) := by decide +kernel
theorem dX12_needed_129 : decode cX12_needed 129 = .ok (.imul, 1) := by decide +kernel
theorem dX12_needed_130 : decode cX12_needed 130 = .ok (.i2l, 1) := by decide +kernel
theorem dX12_needed_131 : decode cX12_needed 131 = .ok (.lstore 8, 2) := by decide +kernel
theorem dX12_needed_133 : decode cX12_needed 133 = .ok (.iconst 1, 1) := by decide +kernel
theorem dX12_needed_134 : decode cX12_needed 134 = .ok (.istore 10, 2) := by decide +kernel
theorem dX12_needed_136 : decode cX12_needed 136 = .ok (.iload 10, 2) := by decide +kernel
theorem dX12_needed_138 : decode cX12_needed 138 = .ok (.sipush 1000, 3) := by decide +kernel
theorem dX12_needed_141 : decode cX12_needed 141 = .ok (.if_icmp .ge 24, 3) := by decide +kernel
theorem dX12_needed_144 : decode cX12_needed 144 = .ok (.lload 8, 2) := by decide +kernel
theorem dX12_needed_146 : decode cX12_needed 146 = .ok (.iload 10, 2) := by decide +kernel
theorem dX12_needed_148 : decode cX12_needed 148 = .ok (.i2l, 1) := by decide +kernel
theorem dX12_needed_149 : decode cX12_needed 149 = .ok (.lmul, 1) := by decide +kernel
theorem dX12_needed_150 : decode cX12_needed 150 = .ok (.lload 6, 2) := by decide +kernel
theorem dX12_needed_152 : decode cX12_needed 152 = .ok (.lcmp, 1) := by decide +kernel
theorem dX12_needed_153 : decode cX12_needed 153 = .ok (.ifCond .le 6, 3) := by decide +kernel
theorem dX12_needed_156 : decode cX12_needed 156 = .ok (.iload 10, 2) := by decide +kernel
theorem dX12_needed_158 : decode cX12_needed 158 = .ok (.ireturn, 1) := by decide +kernel
theorem dX12_needed_159 : decode cX12_needed 159 = .ok (.iinc 10 1, 3) := by decide +kernel
theorem dX12_needed_162 : decode cX12_needed 162 = .ok (.goto (-26), 3) := by decide +kernel
theorem dX12_needed_165 : decode cX12_needed 165 = .ok (.bipush (-2), 2) := by decide +kernel
theorem dX12_needed_167 : decode cX12_needed 167 = .ok (.ireturn, 1) := by decide +kernel
theorem dX12_body_0 : decode cX12_body 0 = .ok (.iload_n 1, 1) := by decide +kernel
theorem dX12_body_1 : decode cX12_body 1 = .ok (.iconst 0, 1) := by decide +kernel
theorem dX12_body_2 : decode cX12_body 2 = .ok (.bipush 7, 2) := by decide +kernel
theorem dX12_body_4 : decode cX12_body 4 = .ok (.invokestatic 117, 3) := by decide +kernel
theorem dX12_body_7 : decode cX12_body 7 = .ok (.ifCond .ne 5, 3) := by decide +kernel
theorem dX12_body_10 : decode cX12_body 10 = .ok (.iconst (-1), 1) := by decide +kernel
theorem dX12_body_11 : decode cX12_body 11 = .ok (.ireturn, 1) := by decide +kernel
theorem dX12_body_12 : decode cX12_body 12 = .ok (.aload_n 0, 1) := by decide +kernel
theorem dX12_body_13 : decode cX12_body 13 = .ok (.getfield 339, 3) := by decide +kernel
theorem dX12_body_16 : decode cX12_body 16 = .ok (.bipush 50, 2) := by decide +kernel
theorem dX12_body_18 : decode cX12_body 18 = .ok (.if_icmp .ne 6, 3) := by decide +kernel
theorem dX12_body_21 : decode cX12_body 21 = .ok (.bipush (-3), 2) := by decide +kernel
theorem dX12_body_23 : decode cX12_body 23 = .ok (.ireturn, 1) := by decide +kernel
theorem dX12_body_24 : decode cX12_body 24 = .ok (.aload_n 0, 1) := by decide +kernel
theorem dX12_body_25 : decode cX12_body 25 = .ok (.getfield 92, 3) := by decide +kernel
theorem dX12_body_28 : decode cX12_body 28 = .ok (.aload_n 0, 1) := by decide +kernel
theorem dX12_body_29 : decode cX12_body 29 = .ok (.getfield 339, 3) := by decide +kernel
theorem dX12_body_32 : decode cX12_body 32 = .ok (.iload_n 1, 1) := by decide +kernel
theorem dX12_body_33 : decode cX12_body 33 = .ok (.iastore, 1) := by decide +kernel
theorem dX12_body_34 : decode cX12_body 34 = .ok (.aload_n 0, 1) := by decide +kernel
theorem dX12_body_35 : decode cX12_body 35 = .ok (.dup, 1) := by decide +kernel
theorem dX12_body_36 : decode cX12_body 36 = .ok (.getfield 339, 3) := by decide +kernel
theorem dX12_body_39 : decode cX12_body 39 = .ok (.iconst 1, 1) := by decide +kernel
theorem dX12_body_40 : decode cX12_body 40 = .ok (.iadd, 1) := by decide +kernel
theorem dX12_body_41 : decode cX12_body 41 = .ok (.putfield 339, 3) := by decide +kernel
theorem dX12_body_44 : decode cX12_body 44 = .ok (.aload_n 0, 1) := by decide +kernel
theorem dX12_body_45 : decode cX12_body 45 = .ok (.getfield 339, 3) := by decide +kernel
theorem dX12_body_48 : decode cX12_body 48 = .ok (.iconst 1, 1) := by decide +kernel
theorem dX12_body_49 : decode cX12_body 49 = .ok (.isub, 1) := by decide +kernel
theorem dX12_body_50 : decode cX12_body 50 = .ok (.ireturn, 1) := by decide +kernel
theorem dX12_begins_0 : decode cX12_begins 0 = .ok (.aload_n 0, 1) := by decide +kernel
theorem dX12_begins_1 : decode cX12_begins 1 = .ok (.getfield 342, 3) := by decide +kernel
theorem dX12_begins_4 : decode cX12_begins 4 = .ok (.bipush 24, 2) := by decide +kernel
theorem dX12_begins_6 : decode cX12_begins 6 = .ok (.if_icmp .ge 13, 3) := by decide +kernel
theorem dX12_begins_9 : decode cX12_begins 9 = .ok (.aload_n 0, 1) := by decide +kernel
theorem dX12_begins_10 : decode cX12_begins 10 = .ok (.getfield 95, 3) := by decide +kernel
theorem dX12_begins_13 : decode cX12_begins 13 = .ok (.aload_n 0, 1) := by decide +kernel
theorem dX12_begins_14 : decode cX12_begins 14 = .ok (.getfield 342, 3) := by decide +kernel
theorem dX12_begins_17 : decode cX12_begins 17 = .ok (.iload_n 1, 1) := by decide +kernel
theorem dX12_begins_18 : decode cX12_begins 18 = .ok (.iastore, 1) := by decide +kernel
theorem dX12_begins_19 : decode cX12_begins 19 = .ok (.aload_n 0, 1) := by decide +kernel
theorem dX12_begins_20 : decode cX12_begins 20 = .ok (.dup, 1) := by decide +kernel
theorem dX12_begins_21 : decode cX12_begins 21 = .ok (.getfield 342, 3) := by decide +kernel
theorem dX12_begins_24 : decode cX12_begins 24 = .ok (.iconst 1, 1) := by decide +kernel
theorem dX12_begins_25 : decode cX12_begins 25 = .ok (.iadd, 1) := by decide +kernel
theorem dX12_begins_26 : decode cX12_begins 26 = .ok (.putfield 342, 3) := by decide +kernel
theorem dX12_begins_29 : decode cX12_begins 29 = .ok (.return_, 1) := by decide +kernel
theorem dX12_givesOf_0 : decode cX12_givesOf 0 = .ok (.iload_n 3, 1) := by decide +kernel
theorem dX12_givesOf_1 : decode cX12_givesOf 1 = .ok (.istore 4, 2) := by decide +kernel
theorem dX12_givesOf_3 : decode cX12_givesOf 3 = .ok (.iload_n 1, 1) := by decide +kernel
theorem dX12_givesOf_4 : decode cX12_givesOf 4 = .ok (.iconst 3, 1) := by decide +kernel
theorem dX12_givesOf_5 : decode cX12_givesOf 5 = .ok (.if_icmp .ne 12, 3) := by decide +kernel
theorem dX12_givesOf_8 : decode cX12_givesOf 8 = .ok (.aload_n 0, 1) := by decide +kernel
theorem dX12_givesOf_9 : decode cX12_givesOf 9 = .ok (.bipush 41, 2) := by decide +kernel
theorem dX12_givesOf_11 : decode cX12_givesOf 11 = .ok (.invokevirtual 345, 3) := by decide +kernel
theorem dX12_givesOf_14 : decode cX12_givesOf 14 = .ok (.iinc 4 1, 3) := by decide +kernel
theorem dX12_givesOf_17 : decode cX12_givesOf 17 = .ok (.iload_n 1, 1) := by decide +kernel
theorem dX12_givesOf_18 : decode cX12_givesOf 18 = .ok (.iconst 1, 1) := by decide +kernel
theorem dX12_givesOf_19 : decode cX12_givesOf 19 = .ok (.if_icmp .eq 8, 3) := by decide +kernel
theorem dX12_givesOf_22 : decode cX12_givesOf 22 = .ok (.iload_n 1, 1) := by decide +kernel
theorem dX12_givesOf_23 : decode cX12_givesOf 23 = .ok (.iconst 3, 1) := by decide +kernel
theorem dX12_givesOf_24 : decode cX12_givesOf 24 = .ok (.if_icmp .ne 9, 3) := by decide +kernel
theorem dX12_givesOf_27 : decode cX12_givesOf 27 = .ok (.aload_n 0, 1) := by decide +kernel
theorem dX12_givesOf_28 : decode cX12_givesOf 28 = .ok (.bipush 20, 2) := by decide +kernel
theorem dX12_givesOf_30 : decode cX12_givesOf 30 = .ok (.invokevirtual 345, 3) := by decide +kernel
theorem dX12_givesOf_33 : decode cX12_givesOf 33 = .ok (.iload_n 1, 1) := by decide +kernel
theorem dX12_givesOf_34 : decode cX12_givesOf 34 = .ok (.bipush 6, 2) := by decide +kernel
theorem dX12_givesOf_36 : decode cX12_givesOf 36 = .ok (.if_icmp .ne 9, 3) := by decide +kernel
theorem dX12_givesOf_39 : decode cX12_givesOf 39 = .ok (.aload_n 0, 1) := by decide +kernel
theorem dX12_givesOf_40 : decode cX12_givesOf 40 = .ok (.bipush 70, 2) := by decide +kernel
theorem dX12_givesOf_42 : decode cX12_givesOf 42 = .ok (.invokevirtual 345, 3) := by decide +kernel
theorem dX12_givesOf_45 : decode cX12_givesOf 45 = .ok (.aload_n 0, 1) := by decide +kernel
theorem dX12_givesOf_46 : decode cX12_givesOf 46 = .ok (.iconst 1, 1) := by decide +kernel
theorem dX12_givesOf_47 : decode cX12_givesOf 47 = .ok (.invokevirtual 345, 3) := by decide +kernel
theorem dX12_givesOf_50 : decode cX12_givesOf 50 = .ok (.iload 4, 2) := by decide +kernel
theorem dX12_givesOf_52 : decode cX12_givesOf 52 = .ok (.iload_n 2, 1) := by decide +kernel
theorem dX12_givesOf_53 : decode cX12_givesOf 53 = .ok (.iadd, 1) := by decide +kernel
theorem dX12_givesOf_54 : decode cX12_givesOf 54 = .ok (.istore 4, 2) := by decide +kernel
theorem dX12_givesOf_56 : decode cX12_givesOf 56 = .ok (.iload_n 1, 1) := by decide +kernel
theorem dX12_givesOf_57 : decode cX12_givesOf 57 = .ok (.iconst 1, 1) := by decide +kernel
theorem dX12_givesOf_58 : decode cX12_givesOf 58 = .ok (.if_icmp .eq 8, 3) := by decide +kernel
theorem dX12_givesOf_61 : decode cX12_givesOf 61 = .ok (.iload_n 1, 1) := by decide +kernel
theorem dX12_givesOf_62 : decode cX12_givesOf 62 = .ok (.iconst 3, 1) := by decide +kernel
theorem dX12_givesOf_63 : decode cX12_givesOf 63 = .ok (.if_icmp .ne 10, 3) := by decide +kernel
theorem dX12_givesOf_66 : decode cX12_givesOf 66 = .ok (.iload 4, 2) := by decide +kernel
theorem dX12_givesOf_68 : decode cX12_givesOf 68 = .ok (.iconst 3, 1) := by decide +kernel
theorem dX12_givesOf_69 : decode cX12_givesOf 69 = .ok (.iadd, 1) := by decide +kernel
theorem dX12_givesOf_70 : decode cX12_givesOf 70 = .ok (.goto 18, 3) := by decide +kernel
theorem dX12_givesOf_73 : decode cX12_givesOf 73 = .ok (.iload_n 1, 1) := by decide +kernel
theorem dX12_givesOf_74 : decode cX12_givesOf 74 = .ok (.bipush 6, 2) := by decide +kernel
theorem dX12_givesOf_76 : decode cX12_givesOf 76 = .ok (.if_icmp .ne 10, 3) := by decide +kernel
theorem dX12_givesOf_79 : decode cX12_givesOf 79 = .ok (.iload 4, 2) := by decide +kernel
theorem dX12_givesOf_81 : decode cX12_givesOf 81 = .ok (.iconst 2, 1) := by decide +kernel
theorem dX12_givesOf_82 : decode cX12_givesOf 82 = .ok (.imul, 1) := by decide +kernel
theorem dX12_givesOf_83 : decode cX12_givesOf 83 = .ok (.goto 5, 3) := by decide +kernel
theorem dX12_givesOf_86 : decode cX12_givesOf 86 = .ok (.iload 4, 2) := by decide +kernel
theorem dX12_givesOf_88 : decode cX12_givesOf 88 = .ok (.ireturn, 1) := by decide +kernel
theorem dX12_partsOf_0 : decode cX12_partsOf 0 = .ok (.iload_n 1, 1) := by decide +kernel
theorem dX12_partsOf_1 : decode cX12_partsOf 1 = .ok (.iconst 3, 1) := by decide +kernel
theorem dX12_partsOf_2 : decode cX12_partsOf 2 = .ok (.if_icmp .ne 9, 3) := by decide +kernel
theorem dX12_partsOf_5 : decode cX12_partsOf 5 = .ok (.aload_n 0, 1) := by decide +kernel
theorem dX12_partsOf_6 : decode cX12_partsOf 6 = .ok (.bipush 40, 2) := by decide +kernel
theorem dX12_partsOf_8 : decode cX12_partsOf 8 = .ok (.invokevirtual 345, 3) := by decide +kernel
theorem dX12_partsOf_11 : decode cX12_partsOf 11 = .ok (.iload_n 1, 1) := by decide +kernel
theorem dX12_partsOf_12 : decode cX12_partsOf 12 = .ok (.iconst 4, 1) := by decide +kernel
theorem dX12_partsOf_13 : decode cX12_partsOf 13 = .ok (.if_icmp .eq 9, 3) := by decide +kernel
theorem dX12_partsOf_16 : decode cX12_partsOf 16 = .ok (.iload_n 1, 1) := by decide +kernel
theorem dX12_partsOf_17 : decode cX12_partsOf 17 = .ok (.bipush 7, 2) := by decide +kernel
theorem dX12_partsOf_19 : decode cX12_partsOf 19 = .ok (.if_icmp .ne 9, 3) := by decide +kernel
theorem dX12_partsOf_22 : decode cX12_partsOf 22 = .ok (.aload_n 0, 1) := by decide +kernel
theorem dX12_partsOf_23 : decode cX12_partsOf 23 = .ok (.bipush 50, 2) := by decide +kernel
theorem dX12_partsOf_25 : decode cX12_partsOf 25 = .ok (.invokevirtual 345, 3) := by decide +kernel
theorem dX12_partsOf_28 : decode cX12_partsOf 28 = .ok (.aload_n 0, 1) := by decide +kernel
theorem dX12_partsOf_29 : decode cX12_partsOf 29 = .ok (.bipush 11, 2) := by decide +kernel
theorem dX12_partsOf_31 : decode cX12_partsOf 31 = .ok (.invokevirtual 345, 3) := by decide +kernel
theorem dX12_partsOf_34 : decode cX12_partsOf 34 = .ok (.iload_n 3, 1) := by decide +kernel
theorem dX12_partsOf_35 : decode cX12_partsOf 35 = .ok (.iload_n 2, 1) := by decide +kernel
theorem dX12_partsOf_36 : decode cX12_partsOf 36 = .ok (.ixor, 1) := by decide +kernel
theorem dX12_partsOf_37 : decode cX12_partsOf 37 = .ok (.istore 4, 2) := by decide +kernel
theorem dX12_partsOf_39 : decode cX12_partsOf 39 = .ok (.iload_n 1, 1) := by decide +kernel
theorem dX12_partsOf_40 : decode cX12_partsOf 40 = .ok (.iconst 3, 1) := by decide +kernel
theorem dX12_partsOf_41 : decode cX12_partsOf 41 = .ok (.if_icmp .ne 10, 3) := by decide +kernel
theorem dX12_partsOf_44 : decode cX12_partsOf 44 = .ok (.iload 4, 2) := by decide +kernel
theorem dX12_partsOf_46 : decode cX12_partsOf 46 = .ok (.iconst 3, 1) := by decide +kernel
theorem dX12_partsOf_47 : decode cX12_partsOf 47 = .ok (.imul, 1) := by decide +kernel
theorem dX12_partsOf_48 : decode cX12_partsOf 48 = .ok (.goto 29, 3) := by decide +kernel
theorem dX12_partsOf_51 : decode cX12_partsOf 51 = .ok (.iload_n 1, 1) := by decide +kernel
theorem dX12_partsOf_52 : decode cX12_partsOf 52 = .ok (.iconst 4, 1) := by decide +kernel
theorem dX12_partsOf_53 : decode cX12_partsOf 53 = .ok (.if_icmp .eq 9, 3) := by decide +kernel
theorem dX12_partsOf_56 : decode cX12_partsOf 56 = .ok (.iload_n 1, 1) := by decide +kernel
theorem dX12_partsOf_57 : decode cX12_partsOf 57 = .ok (.bipush 7, 2) := by decide +kernel
theorem dX12_partsOf_59 : decode cX12_partsOf 59 = .ok (.if_icmp .ne 16, 3) := by decide +kernel
theorem dX12_partsOf_62 : decode cX12_partsOf 62 = .ok (.iload 4, 2) := by decide +kernel
theorem dX12_partsOf_64 : decode cX12_partsOf 64 = .ok (.aload_n 0, 1) := by decide +kernel
theorem dX12_partsOf_65 : decode cX12_partsOf 65 = .ok (.iload_n 1, 1) := by decide +kernel
theorem dX12_partsOf_66 : decode cX12_partsOf 66 = .ok (.iload_n 2, 1) := by decide +kernel
theorem dX12_partsOf_67 : decode cX12_partsOf 67 = .ok (.iconst 2, 1) := by decide +kernel
theorem dX12_partsOf_68 : decode cX12_partsOf 68 = .ok (.invokevirtual 348, 3) := by decide +kernel
theorem dX12_partsOf_71 : decode cX12_partsOf 71 = .ok (.isub, 1) := by decide +kernel
theorem dX12_partsOf_72 : decode cX12_partsOf 72 = .ok (.goto 5, 3) := by decide +kernel
theorem dX12_partsOf_75 : decode cX12_partsOf 75 = .ok (.iload 4, 2) := by decide +kernel
theorem dX12_partsOf_77 : decode cX12_partsOf 77 = .ok (.ireturn, 1) := by decide +kernel
theorem dX12_choosesOf_0 : decode cX12_choosesOf 0 = .ok (.iload_n 1, 1) := by decide +kernel
theorem dX12_choosesOf_1 : decode cX12_choosesOf 1 = .ok (.iconst 2, 1) := by decide +kernel
theorem dX12_choosesOf_2 : decode cX12_choosesOf 2 = .ok (.if_icmp .eq 8, 3) := by decide +kernel
theorem dX12_choosesOf_5 : decode cX12_choosesOf 5 = .ok (.iload_n 1, 1) := by decide +kernel
theorem dX12_choosesOf_6 : decode cX12_choosesOf 6 = .ok (.iconst 5, 1) := by decide +kernel
theorem dX12_choosesOf_7 : decode cX12_choosesOf 7 = .ok (.if_icmp .ne 9, 3) := by decide +kernel
theorem dX12_choosesOf_10 : decode cX12_choosesOf 10 = .ok (.aload_n 0, 1) := by decide +kernel
theorem dX12_choosesOf_11 : decode cX12_choosesOf 11 = .ok (.bipush 30, 2) := by decide +kernel
theorem dX12_choosesOf_13 : decode cX12_choosesOf 13 = .ok (.invokevirtual 345, 3) := by decide +kernel
theorem dX12_choosesOf_16 : decode cX12_choosesOf 16 = .ok (.iload_n 1, 1) := by decide +kernel
theorem dX12_choosesOf_17 : decode cX12_choosesOf 17 = .ok (.bipush 7, 2) := by decide +kernel
theorem dX12_choosesOf_19 : decode cX12_choosesOf 19 = .ok (.if_icmp .ne 9, 3) := by decide +kernel
theorem dX12_choosesOf_22 : decode cX12_choosesOf 22 = .ok (.aload_n 0, 1) := by decide +kernel
theorem dX12_choosesOf_23 : decode cX12_choosesOf 23 = .ok (.bipush 80, 2) := by decide +kernel
theorem dX12_choosesOf_25 : decode cX12_choosesOf 25 = .ok (.invokevirtual 345, 3) := by decide +kernel
theorem dX12_choosesOf_28 : decode cX12_choosesOf 28 = .ok (.aload_n 0, 1) := by decide +kernel
theorem dX12_choosesOf_29 : decode cX12_choosesOf 29 = .ok (.bipush 10, 2) := by decide +kernel
theorem dX12_choosesOf_31 : decode cX12_choosesOf 31 = .ok (.invokevirtual 345, 3) := by decide +kernel
theorem dX12_choosesOf_34 : decode cX12_choosesOf 34 = .ok (.aload_n 0, 1) := by decide +kernel
theorem dX12_choosesOf_35 : decode cX12_choosesOf 35 = .ok (.iload_n 1, 1) := by decide +kernel
theorem dX12_choosesOf_36 : decode cX12_choosesOf 36 = .ok (.iload_n 2, 1) := by decide +kernel
theorem dX12_choosesOf_37 : decode cX12_choosesOf 37 = .ok (.iload_n 3, 1) := by decide +kernel
theorem dX12_choosesOf_38 : decode cX12_choosesOf 38 = .ok (.invokevirtual 348, 3) := by decide +kernel
theorem dX12_choosesOf_41 : decode cX12_choosesOf 41 = .ok (.iconst 2, 1) := by decide +kernel
theorem dX12_choosesOf_42 : decode cX12_choosesOf 42 = .ok (.imul, 1) := by decide +kernel
theorem dX12_choosesOf_43 : decode cX12_choosesOf 43 = .ok (.istore 4, 2) := by decide +kernel
theorem dX12_choosesOf_45 : decode cX12_choosesOf 45 = .ok (.iload_n 1, 1) := by decide +kernel
theorem dX12_choosesOf_46 : decode cX12_choosesOf 46 = .ok (.iconst 2, 1) := by decide +kernel
theorem dX12_choosesOf_47 : decode cX12_choosesOf 47 = .ok (.if_icmp .eq 8, 3) := by decide +kernel
theorem dX12_choosesOf_50 : decode cX12_choosesOf 50 = .ok (.iload_n 1, 1) := by decide +kernel
theorem dX12_choosesOf_51 : decode cX12_choosesOf 51 = .ok (.iconst 5, 1) := by decide +kernel
theorem dX12_choosesOf_52 : decode cX12_choosesOf 52 = .ok (.if_icmp .ne 9, 3) := by decide +kernel
theorem dX12_choosesOf_55 : decode cX12_choosesOf 55 = .ok (.iload 4, 2) := by decide +kernel
theorem dX12_choosesOf_57 : decode cX12_choosesOf 57 = .ok (.ineg, 1) := by decide +kernel
theorem dX12_choosesOf_58 : decode cX12_choosesOf 58 = .ok (.goto 24, 3) := by decide +kernel
theorem dX12_choosesOf_61 : decode cX12_choosesOf 61 = .ok (.iload_n 1, 1) := by decide +kernel
theorem dX12_choosesOf_62 : decode cX12_choosesOf 62 = .ok (.bipush 7, 2) := by decide +kernel
theorem dX12_choosesOf_64 : decode cX12_choosesOf 64 = .ok (.if_icmp .ne 16, 3) := by decide +kernel
theorem dX12_choosesOf_67 : decode cX12_choosesOf 67 = .ok (.iload 4, 2) := by decide +kernel
theorem dX12_choosesOf_69 : decode cX12_choosesOf 69 = .ok (.aload_n 0, 1) := by decide +kernel
theorem dX12_choosesOf_70 : decode cX12_choosesOf 70 = .ok (.iload_n 1, 1) := by decide +kernel
theorem dX12_choosesOf_71 : decode cX12_choosesOf 71 = .ok (.iload_n 2, 1) := by decide +kernel
theorem dX12_choosesOf_72 : decode cX12_choosesOf 72 = .ok (.iconst 2, 1) := by decide +kernel
theorem dX12_choosesOf_73 : decode cX12_choosesOf 73 = .ok (.invokevirtual 351, 3) := by decide +kernel
theorem dX12_choosesOf_76 : decode cX12_choosesOf 76 = .ok (.iadd, 1) := by decide +kernel
theorem dX12_choosesOf_77 : decode cX12_choosesOf 77 = .ok (.goto 5, 3) := by decide +kernel
theorem dX12_choosesOf_80 : decode cX12_choosesOf 80 = .ok (.iload 4, 2) := by decide +kernel
theorem dX12_choosesOf_82 : decode cX12_choosesOf 82 = .ok (.ireturn, 1) := by decide +kernel
theorem dX12_tellsOf_0 : decode cX12_tellsOf 0 = .ok (.iload_n 1, 1) := by decide +kernel
theorem dX12_tellsOf_1 : decode cX12_tellsOf 1 = .ok (.iconst 5, 1) := by decide +kernel
theorem dX12_tellsOf_2 : decode cX12_tellsOf 2 = .ok (.if_icmp .ne 9, 3) := by decide +kernel
theorem dX12_tellsOf_5 : decode cX12_tellsOf 5 = .ok (.aload_n 0, 1) := by decide +kernel
theorem dX12_tellsOf_6 : decode cX12_tellsOf 6 = .ok (.bipush 60, 2) := by decide +kernel
theorem dX12_tellsOf_8 : decode cX12_tellsOf 8 = .ok (.invokevirtual 345, 3) := by decide +kernel
theorem dX12_tellsOf_11 : decode cX12_tellsOf 11 = .ok (.iload_n 1, 1) := by decide +kernel
theorem dX12_tellsOf_12 : decode cX12_tellsOf 12 = .ok (.bipush 7, 2) := by decide +kernel
theorem dX12_tellsOf_14 : decode cX12_tellsOf 14 = .ok (.if_icmp .ne 9, 3) := by decide +kernel
theorem dX12_tellsOf_17 : decode cX12_tellsOf 17 = .ok (.aload_n 0, 1) := by decide +kernel
theorem dX12_tellsOf_18 : decode cX12_tellsOf 18 = .ok (.bipush 81, 2) := by decide +kernel
theorem dX12_tellsOf_20 : decode cX12_tellsOf 20 = .ok (.invokevirtual 345, 3) := by decide +kernel
theorem dX12_tellsOf_23 : decode cX12_tellsOf 23 = .ok (.aload_n 0, 1) := by decide +kernel
theorem dX12_tellsOf_24 : decode cX12_tellsOf 24 = .ok (.iconst 2, 1) := by decide +kernel
theorem dX12_tellsOf_25 : decode cX12_tellsOf 25 = .ok (.invokevirtual 345, 3) := by decide +kernel
theorem dX12_tellsOf_28 : decode cX12_tellsOf 28 = .ok (.aload_n 0, 1) := by decide +kernel
theorem dX12_tellsOf_29 : decode cX12_tellsOf 29 = .ok (.iload_n 1, 1) := by decide +kernel
theorem dX12_tellsOf_30 : decode cX12_tellsOf 30 = .ok (.iload_n 2, 1) := by decide +kernel
theorem dX12_tellsOf_31 : decode cX12_tellsOf 31 = .ok (.iload_n 3, 1) := by decide +kernel
theorem dX12_tellsOf_32 : decode cX12_tellsOf 32 = .ok (.invokevirtual 354, 3) := by decide +kernel
theorem dX12_tellsOf_35 : decode cX12_tellsOf 35 = .ok (.istore 4, 2) := by decide +kernel
theorem dX12_tellsOf_37 : decode cX12_tellsOf 37 = .ok (.iload 4, 2) := by decide +kernel
theorem dX12_tellsOf_39 : decode cX12_tellsOf 39 = .ok (.aload_n 0, 1) := by decide +kernel
theorem dX12_tellsOf_40 : decode cX12_tellsOf 40 = .ok (.iload_n 1, 1) := by decide +kernel
theorem dX12_tellsOf_41 : decode cX12_tellsOf 41 = .ok (.iload_n 2, 1) := by decide +kernel
theorem dX12_tellsOf_42 : decode cX12_tellsOf 42 = .ok (.iconst 1, 1) := by decide +kernel
theorem dX12_tellsOf_43 : decode cX12_tellsOf 43 = .ok (.invokevirtual 351, 3) := by decide +kernel
theorem dX12_tellsOf_46 : decode cX12_tellsOf 46 = .ok (.isub, 1) := by decide +kernel
theorem dX12_tellsOf_47 : decode cX12_tellsOf 47 = .ok (.istore 4, 2) := by decide +kernel
theorem dX12_tellsOf_49 : decode cX12_tellsOf 49 = .ok (.iload_n 1, 1) := by decide +kernel
theorem dX12_tellsOf_50 : decode cX12_tellsOf 50 = .ok (.iconst 5, 1) := by decide +kernel
theorem dX12_tellsOf_51 : decode cX12_tellsOf 51 = .ok (.if_icmp .ne 10, 3) := by decide +kernel
theorem dX12_tellsOf_54 : decode cX12_tellsOf 54 = .ok (.iload 4, 2) := by decide +kernel
theorem dX12_tellsOf_56 : decode cX12_tellsOf 56 = .ok (.iconst 5, 1) := by decide +kernel
theorem dX12_tellsOf_57 : decode cX12_tellsOf 57 = .ok (.ixor, 1) := by decide +kernel
theorem dX12_tellsOf_58 : decode cX12_tellsOf 58 = .ok (.goto 18, 3) := by decide +kernel
theorem dX12_tellsOf_61 : decode cX12_tellsOf 61 = .ok (.iload_n 1, 1) := by decide +kernel
theorem dX12_tellsOf_62 : decode cX12_tellsOf 62 = .ok (.bipush 7, 2) := by decide +kernel
theorem dX12_tellsOf_64 : decode cX12_tellsOf 64 = .ok (.if_icmp .ne 10, 3) := by decide +kernel
theorem dX12_tellsOf_67 : decode cX12_tellsOf 67 = .ok (.iload 4, 2) := by decide +kernel
theorem dX12_tellsOf_69 : decode cX12_tellsOf 69 = .ok (.iconst 1, 1) := by decide +kernel
theorem dX12_tellsOf_70 : decode cX12_tellsOf 70 = .ok (.isub, 1) := by decide +kernel
theorem dX12_tellsOf_71 : decode cX12_tellsOf 71 = .ok (.goto 5, 3) := by decide +kernel
theorem dX12_tellsOf_74 : decode cX12_tellsOf 74 = .ok (.iload 4, 2) := by decide +kernel
theorem dX12_tellsOf_76 : decode cX12_tellsOf 76 = .ok (.ireturn, 1) := by decide +kernel
theorem dX12_act_0 : decode cX12_act 0 = .ok (.aload_n 0, 1) := by decide +kernel
theorem dX12_act_1 : decode cX12_act 1 = .ok (.iconst 0, 1) := by decide +kernel
theorem dX12_act_2 : decode cX12_act 2 = .ok (.putfield 342, 3) := by decide +kernel
theorem dX12_act_5 : decode cX12_act 5 = .ok (.iload_n 1, 1) := by decide +kernel
theorem dX12_act_6 : decode cX12_act 6 = .ok (.iconst 0, 1) := by decide +kernel
theorem dX12_act_7 : decode cX12_act 7 = .ok (.aload_n 0, 1) := by decide +kernel
theorem dX12_act_8 : decode cX12_act 8 = .ok (.getfield 339, 3) := by decide +kernel
theorem dX12_act_11 : decode cX12_act 11 = .ok (.iconst 1, 1) := by decide +kernel
theorem dX12_act_12 : decode cX12_act 12 = .ok (.isub, 1) := by decide +kernel
theorem dX12_act_13 : decode cX12_act 13 = .ok (.invokestatic 117, 3) := by decide +kernel
theorem dX12_act_16 : decode cX12_act 16 = .ok (.ifCond .ne 5, 3) := by decide +kernel
theorem dX12_act_19 : decode cX12_act 19 = .ok (.iconst 0, 1) := by decide +kernel
theorem dX12_act_20 : decode cX12_act 20 = .ok (.ireturn, 1) := by decide +kernel
theorem dX12_act_21 : decode cX12_act 21 = .ok (.aload_n 0, 1) := by decide +kernel
theorem dX12_act_22 : decode cX12_act 22 = .ok (.getfield 92, 3) := by decide +kernel
theorem dX12_act_25 : decode cX12_act 25 = .ok (.iload_n 1, 1) := by decide +kernel
theorem dX12_act_26 : decode cX12_act 26 = .ok (.iaload, 1) := by decide +kernel
theorem dX12_act_27 : decode cX12_act 27 = .ok (.istore 4, 2) := by decide +kernel
theorem dX12_act_29 : decode cX12_act 29 = .ok (.iload_n 2, 1) := by decide +kernel
theorem dX12_act_30 : decode cX12_act 30 = .ok (.tableswitch 66 0 3 #[30, 39, 48, 57], 30) := by decide +kernel
theorem dX12_act_60 : decode cX12_act 60 = .ok (.aload_n 0, 1) := by decide +kernel
theorem dX12_act_61 : decode cX12_act 61 = .ok (.iload 4, 2) := by decide +kernel
theorem dX12_act_63 : decode cX12_act 63 = .ok (.iload_n 1, 1) := by decide +kernel
theorem dX12_act_64 : decode cX12_act 64 = .ok (.iload_n 3, 1) := by decide +kernel
theorem dX12_act_65 : decode cX12_act 65 = .ok (.invokevirtual 348, 3) := by decide +kernel
theorem dX12_act_68 : decode cX12_act 68 = .ok (.ireturn, 1) := by decide +kernel
theorem dX12_act_69 : decode cX12_act 69 = .ok (.aload_n 0, 1) := by decide +kernel
theorem dX12_act_70 : decode cX12_act 70 = .ok (.iload 4, 2) := by decide +kernel
theorem dX12_act_72 : decode cX12_act 72 = .ok (.iload_n 1, 1) := by decide +kernel
theorem dX12_act_73 : decode cX12_act 73 = .ok (.iload_n 3, 1) := by decide +kernel
theorem dX12_act_74 : decode cX12_act 74 = .ok (.invokevirtual 354, 3) := by decide +kernel
theorem dX12_act_77 : decode cX12_act 77 = .ok (.ireturn, 1) := by decide +kernel
theorem dX12_act_78 : decode cX12_act 78 = .ok (.aload_n 0, 1) := by decide +kernel
theorem dX12_act_79 : decode cX12_act 79 = .ok (.iload 4, 2) := by decide +kernel
theorem dX12_act_81 : decode cX12_act 81 = .ok (.iload_n 1, 1) := by decide +kernel
theorem dX12_act_82 : decode cX12_act 82 = .ok (.iload_n 3, 1) := by decide +kernel
theorem dX12_act_83 : decode cX12_act 83 = .ok (.invokevirtual 351, 3) := by decide +kernel
theorem dX12_act_86 : decode cX12_act 86 = .ok (.ireturn, 1) := by decide +kernel
theorem dX12_act_87 : decode cX12_act 87 = .ok (.aload_n 0, 1) := by decide +kernel
theorem dX12_act_88 : decode cX12_act 88 = .ok (.iload 4, 2) := by decide +kernel
theorem dX12_act_90 : decode cX12_act 90 = .ok (.iload_n 1, 1) := by decide +kernel
theorem dX12_act_91 : decode cX12_act 91 = .ok (.iload_n 3, 1) := by decide +kernel
theorem dX12_act_92 : decode cX12_act 92 = .ok (.invokevirtual 357, 3) := by decide +kernel
theorem dX12_act_95 : decode cX12_act 95 = .ok (.ireturn, 1) := by decide +kernel
theorem dX12_act_96 : decode cX12_act 96 = .ok (.iconst 0, 1) := by decide +kernel
theorem dX12_act_97 : decode cX12_act 97 = .ok (.ireturn, 1) := by decide +kernel
theorem dX12_trace_0 : decode cX12_trace 0 = .ok (.iload_n 1, 1) := by decide +kernel
theorem dX12_trace_1 : decode cX12_trace 1 = .ok (.ifCond .lt 26, 3) := by decide +kernel
theorem dX12_trace_4 : decode cX12_trace 4 = .ok (.iload_n 1, 1) := by decide +kernel
theorem dX12_trace_5 : decode cX12_trace 5 = .ok (.aload_n 0, 1) := by decide +kernel
theorem dX12_trace_6 : decode cX12_trace 6 = .ok (.getfield 342, 3) := by decide +kernel
theorem dX12_trace_9 : decode cX12_trace 9 = .ok (.if_icmp .ge 18, 3) := by decide +kernel
theorem dX12_trace_12 : decode cX12_trace 12 = .ok (.iload_n 1, 1) := by decide +kernel
theorem dX12_trace_13 : decode cX12_trace 13 = .ok (.bipush 24, 2) := by decide +kernel
theorem dX12_trace_15 : decode cX12_trace 15 = .ok (.if_icmp .ge 12, 3) := by decide +kernel
theorem dX12_trace_18 : decode cX12_trace 18 = .ok (.aload_n 0, 1) := by decide +kernel
theorem dX12_trace_19 : decode cX12_trace 19 = .ok (.getfield 95, 3) := by decide +kernel
theorem dX12_trace_22 : decode cX12_trace 22 = .ok (.iload_n 1, 1) := by decide +kernel
theorem dX12_trace_23 : decode cX12_trace 23 = .ok (.iaload, 1) := by decide +kernel
theorem dX12_trace_24 : decode cX12_trace 24 = .ok (.goto 4, 3) := by decide +kernel
theorem dX12_trace_27 : decode cX12_trace 27 = .ok (.iconst (-1), 1) := by decide +kernel
theorem dX12_trace_28 : decode cX12_trace 28 = .ok (.ireturn, 1) := by decide +kernel
theorem dX12_isShelf_0 : decode cX12_isShelf 0 = .ok (.iload_n 0, 1) := by decide +kernel
theorem dX12_isShelf_1 : decode cX12_isShelf 1 = .ok (.ifCond .lt 13, 3) := by decide +kernel
theorem dX12_isShelf_4 : decode cX12_isShelf 4 = .ok (.iload_n 0, 1) := by decide +kernel
theorem dX12_isShelf_5 : decode cX12_isShelf 5 = .ok (.bipush 6, 2) := by decide +kernel
theorem dX12_isShelf_7 : decode cX12_isShelf 7 = .ok (.if_icmp .ge 7, 3) := by decide +kernel
theorem dX12_isShelf_10 : decode cX12_isShelf 10 = .ok (.iconst 1, 1) := by decide +kernel
theorem dX12_isShelf_11 : decode cX12_isShelf 11 = .ok (.goto 4, 3) := by decide +kernel
theorem dX12_isShelf_14 : decode cX12_isShelf 14 = .ok (.iconst 0, 1) := by decide +kernel
theorem dX12_isShelf_15 : decode cX12_isShelf 15 = .ok (.ireturn, 1) := by decide +kernel
theorem dX12_keep_0 : decode cX12_keep 0 = .ok (.iload_n 1, 1) := by decide +kernel
theorem dX12_keep_1 : decode cX12_keep 1 = .ok (.invokestatic 360, 3) := by decide +kernel
theorem dX12_keep_4 : decode cX12_keep 4 = .ok (.ifCond .eq 16, 3) := by decide +kernel
theorem dX12_keep_7 : decode cX12_keep 7 = .ok (.iload_n 2, 1) := by decide +kernel
theorem dX12_keep_8 : decode cX12_keep 8 = .ok (.iconst (-1), 1) := by decide +kernel
theorem dX12_keep_9 : decode cX12_keep 9 = .ok (.if_icmp .lt 11, 3) := by decide +kernel
theorem dX12_keep_12 : decode cX12_keep 12 = .ok (.iload_n 2, 1) := by decide +kernel
theorem dX12_keep_13 : decode cX12_keep 13 = .ok (.aload_n 0, 1) := by decide +kernel
theorem dX12_keep_14 : decode cX12_keep 14 = .ok (.getfield 339, 3) := by decide +kernel
theorem dX12_keep_17 : decode cX12_keep 17 = .ok (.if_icmp .lt 5, 3) := by decide +kernel
theorem dX12_keep_20 : decode cX12_keep 20 = .ok (.iconst (-1), 1) := by decide +kernel
theorem dX12_keep_21 : decode cX12_keep 21 = .ok (.ireturn, 1) := by decide +kernel
theorem dX12_keep_22 : decode cX12_keep 22 = .ok (.aload_n 0, 1) := by decide +kernel
theorem dX12_keep_23 : decode cX12_keep 23 = .ok (.getfield 98, 3) := by decide +kernel
theorem dX12_keep_26 : decode cX12_keep 26 = .ok (.iload_n 1, 1) := by decide +kernel
theorem dX12_keep_27 : decode cX12_keep 27 = .ok (.iload_n 2, 1) := by decide +kernel
theorem dX12_keep_28 : decode cX12_keep 28 = .ok (.iconst (-1), 1) := by decide +kernel
theorem dX12_keep_29 : decode cX12_keep 29 = .ok (.if_icmp .ne 8, 3) := by decide +kernel
theorem dX12_keep_32 : decode cX12_keep 32 = .ok (.bipush (-2), 2) := by decide +kernel
theorem dX12_keep_34 : decode cX12_keep 34 = .ok (.goto 4, 3) := by decide +kernel
theorem dX12_keep_37 : decode cX12_keep 37 = .ok (.iconst (-1), 1) := by decide +kernel
theorem dX12_keep_38 : decode cX12_keep 38 = .ok (.iastore, 1) := by decide +kernel
theorem dX12_keep_39 : decode cX12_keep 39 = .ok (.aload_n 0, 1) := by decide +kernel
theorem dX12_keep_40 : decode cX12_keep 40 = .ok (.getfield 101, 3) := by decide +kernel
theorem dX12_keep_43 : decode cX12_keep 43 = .ok (.iload_n 1, 1) := by decide +kernel
theorem dX12_keep_44 : decode cX12_keep 44 = .ok (.iload_n 2, 1) := by decide +kernel
theorem dX12_keep_45 : decode cX12_keep 45 = .ok (.iastore, 1) := by decide +kernel
theorem dX12_keep_46 : decode cX12_keep 46 = .ok (.iconst 1, 1) := by decide +kernel
theorem dX12_keep_47 : decode cX12_keep 47 = .ok (.ireturn, 1) := by decide +kernel
theorem dX12_row_0 : decode cX12_row 0 = .ok (.iload_n 1, 1) := by decide +kernel
theorem dX12_row_1 : decode cX12_row 1 = .ok (.invokestatic 360, 3) := by decide +kernel
theorem dX12_row_4 : decode cX12_row 4 = .ok (.ifCond .eq 18, 3) := by decide +kernel
theorem dX12_row_7 : decode cX12_row 7 = .ok (.iload_n 2, 1) := by decide +kernel
theorem dX12_row_8 : decode cX12_row 8 = .ok (.iconst 0, 1) := by decide +kernel
theorem dX12_row_9 : decode cX12_row 9 = .ok (.iconst 4, 1) := by decide +kernel
theorem dX12_row_10 : decode cX12_row 10 = .ok (.invokestatic 117, 3) := by decide +kernel
theorem dX12_row_13 : decode cX12_row 13 = .ok (.ifCond .eq 9, 3) := by decide +kernel
theorem dX12_row_16 : decode cX12_row 16 = .ok (.iload_n 3, 1) := by decide +kernel
theorem dX12_row_17 : decode cX12_row 17 = .ok (.bipush 60, 2) := by decide +kernel
theorem dX12_row_19 : decode cX12_row 19 = .ok (.if_icmp .le 5, 3) := by decide +kernel
theorem dX12_row_22 : decode cX12_row 22 = .ok (.iconst (-1), 1) := by decide +kernel
theorem dX12_row_23 : decode cX12_row 23 = .ok (.ireturn, 1) := by decide +kernel
theorem dX12_row_24 : decode cX12_row 24 = .ok (.iload_n 3, 1) := by decide +kernel
theorem dX12_row_25 : decode cX12_row 25 = .ok (.ifCond .ge 6, 3) := by decide +kernel
theorem dX12_row_28 : decode cX12_row 28 = .ok (.bipush (-14), 2) := by decide +kernel
theorem dX12_row_30 : decode cX12_row 30 = .ok (.ireturn, 1) := by decide +kernel
theorem dX12_row_31 : decode cX12_row 31 = .ok (.aload_n 0, 1) := by decide +kernel
theorem dX12_row_32 : decode cX12_row 32 = .ok (.getfield 98, 3) := by decide +kernel
theorem dX12_row_35 : decode cX12_row 35 = .ok (.iload_n 1, 1) := by decide +kernel
theorem dX12_row_36 : decode cX12_row 36 = .ok (.iload_n 2, 1) := by decide +kernel
theorem dX12_row_37 : decode cX12_row 37 = .ok (.iastore, 1) := by decide +kernel
theorem dX12_row_38 : decode cX12_row 38 = .ok (.aload_n 0, 1) := by decide +kernel
theorem dX12_row_39 : decode cX12_row 39 = .ok (.getfield 104, 3) := by decide +kernel
theorem dX12_row_42 : decode cX12_row 42 = .ok (.iload_n 1, 1) := by decide +kernel
theorem dX12_row_43 : decode cX12_row 43 = .ok (.iload_n 3, 1) := by decide +kernel
theorem dX12_row_44 : decode cX12_row 44 = .ok (.iastore, 1) := by decide +kernel
theorem dX12_row_45 : decode cX12_row 45 = .ok (.iconst 0, 1) := by decide +kernel
theorem dX12_row_46 : decode cX12_row 46 = .ok (.istore 4, 2) := by decide +kernel
theorem dX12_row_48 : decode cX12_row 48 = .ok (.iload 4, 2) := by decide +kernel
theorem dX12_row_50 : decode cX12_row 50 = .ok (.iload_n 3, 1) := by decide +kernel
theorem dX12_row_51 : decode cX12_row 51 = .ok (.if_icmp .ge 22, 3) := by decide +kernel
theorem dX12_row_54 : decode cX12_row 54 = .ok (.aload_n 0, 1) := by decide +kernel
theorem dX12_row_55 : decode cX12_row 55 = .ok (.getfield 107, 3) := by decide +kernel
theorem dX12_row_58 : decode cX12_row 58 = .ok (.bipush 60, 2) := by decide +kernel
theorem dX12_row_60 : decode cX12_row 60 = .ok (.iload_n 1, 1) := by decide +kernel
theorem dX12_row_61 : decode cX12_row 61 = .ok (.imul, 1) := by decide +kernel
theorem dX12_row_62 : decode cX12_row 62 = .ok (.iload 4, 2) := by decide +kernel
theorem dX12_row_64 : decode cX12_row 64 = .ok (.iadd, 1) := by decide +kernel
theorem dX12_row_65 : decode cX12_row 65 = .ok (.lconst 0, 1) := by decide +kernel
theorem dX12_row_66 : decode cX12_row 66 = .ok (.lastore, 1) := by decide +kernel
theorem dX12_row_67 : decode cX12_row 67 = .ok (.iinc 4 1, 3) := by decide +kernel
theorem dX12_row_70 : decode cX12_row 70 = .ok (.goto (-22), 3) := by decide +kernel
theorem dX12_row_73 : decode cX12_row 73 = .ok (.iconst 1, 1) := by decide +kernel
theorem dX12_row_74 : decode cX12_row 74 = .ok (.ireturn, 1) := by decide +kernel
theorem dX12_kept_0 : decode cX12_kept 0 = .ok (.iload_n 0, 1) := by decide +kernel
theorem dX12_kept_1 : decode cX12_kept 1 = .ok (.ifCond .ne 10, 3) := by decide +kernel
theorem dX12_kept_4 : decode cX12_kept 4 = .ok (.lload_n 1, 1) := by decide +kernel
theorem dX12_kept_5 : decode cX12_kept 5 = .ok (.l2i, 1) := by decide +kernel
theorem dX12_kept_6 : decode cX12_kept 6 = .ok (.i2b, 1) := by decide +kernel
theorem dX12_kept_7 : decode cX12_kept 7 = .ok (.i2l, 1) := by decide +kernel
theorem dX12_kept_8 : decode cX12_kept 8 = .ok (.goto 46, 3) := by decide +kernel
theorem dX12_kept_11 : decode cX12_kept 11 = .ok (.iload_n 0, 1) := by decide +kernel
theorem dX12_kept_12 : decode cX12_kept 12 = .ok (.iconst 1, 1) := by decide +kernel
theorem dX12_kept_13 : decode cX12_kept 13 = .ok (.if_icmp .ne 10, 3) := by decide +kernel
theorem dX12_kept_16 : decode cX12_kept 16 = .ok (.lload_n 1, 1) := by decide +kernel
theorem dX12_kept_17 : decode cX12_kept 17 = .ok (.l2i, 1) := by decide +kernel
theorem dX12_kept_18 : decode cX12_kept 18 = .ok (.i2s, 1) := by decide +kernel
theorem dX12_kept_19 : decode cX12_kept 19 = .ok (.i2l, 1) := by decide +kernel
theorem dX12_kept_20 : decode cX12_kept 20 = .ok (.goto 34, 3) := by decide +kernel
theorem dX12_kept_23 : decode cX12_kept 23 = .ok (.iload_n 0, 1) := by decide +kernel
theorem dX12_kept_24 : decode cX12_kept 24 = .ok (.iconst 2, 1) := by decide +kernel
theorem dX12_kept_25 : decode cX12_kept 25 = .ok (.if_icmp .ne 9, 3) := by decide +kernel
theorem dX12_kept_28 : decode cX12_kept 28 = .ok (.lload_n 1, 1) := by decide +kernel
theorem dX12_kept_29 : decode cX12_kept 29 = .ok (.l2i, 1) := by decide +kernel
theorem dX12_kept_30 : decode cX12_kept 30 = .ok (.i2l, 1) := by decide +kernel
theorem dX12_kept_31 : decode cX12_kept 31 = .ok (.goto 23, 3) := by decide +kernel
theorem dX12_kept_34 : decode cX12_kept 34 = .ok (.iload_n 0, 1) := by decide +kernel
theorem dX12_kept_35 : decode cX12_kept 35 = .ok (.iconst 3, 1) := by decide +kernel
theorem dX12_kept_36 : decode cX12_kept 36 = .ok (.if_icmp .ne 7, 3) := by decide +kernel
theorem dX12_kept_39 : decode cX12_kept 39 = .ok (.lload_n 1, 1) := by decide +kernel
theorem dX12_kept_40 : decode cX12_kept 40 = .ok (.goto 14, 3) := by decide +kernel
theorem dX12_kept_43 : decode cX12_kept 43 = .ok (.lload_n 1, 1) := by decide +kernel
theorem dX12_kept_44 : decode cX12_kept 44 = .ok (.lconst 0, 1) := by decide +kernel
theorem dX12_kept_45 : decode cX12_kept 45 = .ok (.lcmp, 1) := by decide +kernel
theorem dX12_kept_46 : decode cX12_kept 46 = .ok (.ifCond .eq 7, 3) := by decide +kernel
theorem dX12_kept_49 : decode cX12_kept 49 = .ok (.lconst 1, 1) := by decide +kernel
theorem dX12_kept_50 : decode cX12_kept 50 = .ok (.goto 4, 3) := by decide +kernel
theorem dX12_kept_53 : decode cX12_kept 53 = .ok (.lconst 0, 1) := by decide +kernel
theorem dX12_kept_54 : decode cX12_kept 54 = .ok (.lreturn, 1) := by decide +kernel
theorem dX12_why_0 : decode cX12_why 0 = .ok (.iload_n 1, 1) := by decide +kernel
theorem dX12_why_1 : decode cX12_why 1 = .ok (.invokestatic 360, 3) := by decide +kernel
theorem dX12_why_4 : decode cX12_why 4 = .ok (.ifCond .ne 5, 3) := by decide +kernel
theorem dX12_why_7 : decode cX12_why 7 = .ok (.iconst (-1), 1) := by decide +kernel
theorem dX12_why_8 : decode cX12_why 8 = .ok (.ireturn, 1) := by decide +kernel
theorem dX12_why_9 : decode cX12_why 9 = .ok (.aload_n 0, 1) := by decide +kernel
theorem dX12_why_10 : decode cX12_why 10 = .ok (.getfield 98, 3) := by decide +kernel
theorem dX12_why_13 : decode cX12_why 13 = .ok (.iload_n 1, 1) := by decide +kernel
theorem dX12_why_14 : decode cX12_why 14 = .ok (.iaload, 1) := by decide +kernel
theorem dX12_why_15 : decode cX12_why 15 = .ok (.bipush (-2), 2) := by decide +kernel
theorem dX12_why_17 : decode cX12_why 17 = .ok (.if_icmp .ne 6, 3) := by decide +kernel
theorem dX12_why_20 : decode cX12_why 20 = .ok (.bipush (-11), 2) := by decide +kernel
theorem dX12_why_22 : decode cX12_why 22 = .ok (.ireturn, 1) := by decide +kernel
theorem dX12_why_23 : decode cX12_why 23 = .ok (.aload_n 0, 1) := by decide +kernel
theorem dX12_why_24 : decode cX12_why 24 = .ok (.getfield 98, 3) := by decide +kernel
theorem dX12_why_27 : decode cX12_why 27 = .ok (.iload_n 1, 1) := by decide +kernel
theorem dX12_why_28 : decode cX12_why 28 = .ok (.iaload, 1) := by decide +kernel
theorem dX12_why_29 : decode cX12_why 29 = .ok (.iconst (-1), 1) := by decide +kernel
theorem dX12_why_30 : decode cX12_why 30 = .ok (.if_icmp .ne 6, 3) := by decide +kernel
theorem dX12_why_33 : decode cX12_why 33 = .ok (.bipush (-12), 2) := by decide +kernel
theorem dX12_why_35 : decode cX12_why 35 = .ok (.ireturn, 1) := by decide +kernel
theorem dX12_why_36 : decode cX12_why 36 = .ok (.iload_n 2, 1) := by decide +kernel
theorem dX12_why_37 : decode cX12_why 37 = .ok (.ifCond .lt 17, 3) := by decide +kernel
theorem dX12_why_40 : decode cX12_why 40 = .ok (.iload_n 2, 1) := by decide +kernel
theorem dX12_why_41 : decode cX12_why 41 = .ok (.aload_n 0, 1) := by decide +kernel
theorem dX12_why_42 : decode cX12_why 42 = .ok (.getfield 104, 3) := by decide +kernel
theorem dX12_why_45 : decode cX12_why 45 = .ok (.iload_n 1, 1) := by decide +kernel
theorem dX12_why_46 : decode cX12_why 46 = .ok (.iaload, 1) := by decide +kernel
theorem dX12_why_47 : decode cX12_why 47 = .ok (.if_icmp .ge 7, 3) := by decide +kernel
theorem dX12_why_50 : decode cX12_why 50 = .ok (.iconst 1, 1) := by decide +kernel
theorem dX12_why_51 : decode cX12_why 51 = .ok (.goto 5, 3) := by decide +kernel
theorem dX12_why_54 : decode cX12_why 54 = .ok (.bipush (-13), 2) := by decide +kernel
theorem dX12_why_56 : decode cX12_why 56 = .ok (.ireturn, 1) := by decide +kernel
theorem dX12_put_0 : decode cX12_put 0 = .ok (.aload_n 0, 1) := by decide +kernel
theorem dX12_put_1 : decode cX12_put 1 = .ok (.iload_n 1, 1) := by decide +kernel
theorem dX12_put_2 : decode cX12_put 2 = .ok (.iload_n 2, 1) := by decide +kernel
theorem dX12_put_3 : decode cX12_put 3 = .ok (.invokevirtual 363, 3) := by decide +kernel
theorem dX12_put_6 : decode cX12_put 6 = .ok (.istore 5, 2) := by decide +kernel
theorem dX12_put_8 : decode cX12_put 8 = .ok (.iload 5, 2) := by decide +kernel
theorem dX12_put_10 : decode cX12_put 10 = .ok (.iconst 1, 1) := by decide +kernel
theorem dX12_put_11 : decode cX12_put 11 = .ok (.if_icmp .ne 24, 3) := by decide +kernel
theorem dX12_put_14 : decode cX12_put 14 = .ok (.aload_n 0, 1) := by decide +kernel
theorem dX12_put_15 : decode cX12_put 15 = .ok (.getfield 107, 3) := by decide +kernel
theorem dX12_put_18 : decode cX12_put 18 = .ok (.bipush 60, 2) := by decide +kernel
theorem dX12_put_20 : decode cX12_put 20 = .ok (.iload_n 1, 1) := by decide +kernel
theorem dX12_put_21 : decode cX12_put 21 = .ok (.imul, 1) := by decide +kernel
theorem dX12_put_22 : decode cX12_put 22 = .ok (.iload_n 2, 1) := by decide +kernel
theorem dX12_put_23 : decode cX12_put 23 = .ok (.iadd, 1) := by decide +kernel
theorem dX12_put_24 : decode cX12_put 24 = .ok (.aload_n 0, 1) := by decide +kernel
theorem dX12_put_25 : decode cX12_put 25 = .ok (.getfield 98, 3) := by decide +kernel
theorem dX12_put_28 : decode cX12_put 28 = .ok (.iload_n 1, 1) := by decide +kernel
theorem dX12_put_29 : decode cX12_put 29 = .ok (.iaload, 1) := by decide +kernel
theorem dX12_put_30 : decode cX12_put 30 = .ok (.lload_n 3, 1) := by decide +kernel
theorem dX12_put_31 : decode cX12_put 31 = .ok (.invokestatic 366, 3) := by decide +kernel
theorem dX12_put_34 : decode cX12_put 34 = .ok (.lastore, 1) := by decide +kernel
theorem dX12_put_35 : decode cX12_put 35 = .ok (.iload 5, 2) := by decide +kernel
theorem dX12_put_37 : decode cX12_put 37 = .ok (.ireturn, 1) := by decide +kernel
theorem dX12_element_0 : decode cX12_element 0 = .ok (.aload_n 0, 1) := by decide +kernel
theorem dX12_element_1 : decode cX12_element 1 = .ok (.iload_n 1, 1) := by decide +kernel
theorem dX12_element_2 : decode cX12_element 2 = .ok (.iload_n 2, 1) := by decide +kernel
theorem dX12_element_3 : decode cX12_element 3 = .ok (.invokevirtual 363, 3) := by decide +kernel
theorem dX12_element_6 : decode cX12_element 6 = .ok (.iconst 1, 1) := by decide +kernel
theorem dX12_element_7 : decode cX12_element 7 = .ok (.if_icmp .ne 17, 3) := by decide +kernel
theorem dX12_element_10 : decode cX12_element 10 = .ok (.aload_n 0, 1) := by decide +kernel
theorem dX12_element_11 : decode cX12_element 11 = .ok (.getfield 107, 3) := by decide +kernel
theorem dX12_element_14 : decode cX12_element 14 = .ok (.bipush 60, 2) := by decide +kernel
theorem dX12_element_16 : decode cX12_element 16 = .ok (.iload_n 1, 1) := by decide +kernel
theorem dX12_element_17 : decode cX12_element 17 = .ok (.imul, 1) := by decide +kernel
theorem dX12_element_18 : decode cX12_element 18 = .ok (.iload_n 2, 1) := by decide +kernel
theorem dX12_element_19 : decode cX12_element 19 = .ok (.iadd, 1) := by decide +kernel
theorem dX12_element_20 : decode cX12_element 20 = .ok (.laload, 1) := by decide +kernel
theorem dX12_element_21 : decode cX12_element 21 = .ok (.goto 6, 3) := by decide +kernel
theorem dX12_element_24 : decode cX12_element 24 = .ok (.ldc2_w 370, 3) := by decide +kernel
theorem dX12_element_27 : decode cX12_element 27 = .ok (.lreturn, 1) := by decide +kernel
theorem dX12_shift_0 : decode cX12_shift 0 = .ok (.iload_n 1, 1) := by decide +kernel
theorem dX12_shift_1 : decode cX12_shift 1 = .ok (.invokestatic 360, 3) := by decide +kernel
theorem dX12_shift_4 : decode cX12_shift 4 = .ok (.ifCond .eq 10, 3) := by decide +kernel
theorem dX12_shift_7 : decode cX12_shift 7 = .ok (.iload_n 3, 1) := by decide +kernel
theorem dX12_shift_8 : decode cX12_shift 8 = .ok (.invokestatic 360, 3) := by decide +kernel
theorem dX12_shift_11 : decode cX12_shift 11 = .ok (.ifCond .ne 5, 3) := by decide +kernel
theorem dX12_shift_14 : decode cX12_shift 14 = .ok (.iconst (-1), 1) := by decide +kernel
theorem dX12_shift_15 : decode cX12_shift 15 = .ok (.ireturn, 1) := by decide +kernel
theorem dX12_shift_16 : decode cX12_shift 16 = .ok (.aload_n 0, 1) := by decide +kernel
theorem dX12_shift_17 : decode cX12_shift 17 = .ok (.getfield 98, 3) := by decide +kernel
theorem dX12_shift_20 : decode cX12_shift 20 = .ok (.iload_n 1, 1) := by decide +kernel
theorem dX12_shift_21 : decode cX12_shift 21 = .ok (.iaload, 1) := by decide +kernel
theorem dX12_shift_22 : decode cX12_shift 22 = .ok (.bipush (-2), 2) := by decide +kernel
theorem dX12_shift_24 : decode cX12_shift 24 = .ok (.if_icmp .eq 14, 3) := by decide +kernel
theorem dX12_shift_27 : decode cX12_shift 27 = .ok (.aload_n 0, 1) := by decide +kernel
theorem dX12_shift_28 : decode cX12_shift 28 = .ok (.getfield 98, 3) := by decide +kernel
theorem dX12_shift_31 : decode cX12_shift 31 = .ok (.iload_n 3, 1) := by decide +kernel
theorem dX12_shift_32 : decode cX12_shift 32 = .ok (.iaload, 1) := by decide +kernel
theorem dX12_shift_33 : decode cX12_shift 33 = .ok (.bipush (-2), 2) := by decide +kernel
theorem dX12_shift_35 : decode cX12_shift 35 = .ok (.if_icmp .ne 6, 3) := by decide +kernel
theorem dX12_shift_38 : decode cX12_shift 38 = .ok (.bipush (-11), 2) := by decide +kernel
theorem dX12_shift_40 : decode cX12_shift 40 = .ok (.ireturn, 1) := by decide +kernel
theorem dX12_shift_41 : decode cX12_shift 41 = .ok (.aload_n 0, 1) := by decide +kernel
theorem dX12_shift_42 : decode cX12_shift 42 = .ok (.getfield 98, 3) := by decide +kernel
theorem dX12_shift_45 : decode cX12_shift 45 = .ok (.iload_n 1, 1) := by decide +kernel
theorem dX12_shift_46 : decode cX12_shift 46 = .ok (.iaload, 1) := by decide +kernel
theorem dX12_shift_47 : decode cX12_shift 47 = .ok (.ifCond .lt 18, 3) := by decide +kernel
theorem dX12_shift_50 : decode cX12_shift 50 = .ok (.aload_n 0, 1) := by decide +kernel
theorem dX12_shift_51 : decode cX12_shift 51 = .ok (.getfield 98, 3) := by decide +kernel
theorem dX12_shift_54 : decode cX12_shift 54 = .ok (.iload_n 1, 1) := by decide +kernel
theorem dX12_shift_55 : decode cX12_shift 55 = .ok (.iaload, 1) := by decide +kernel
theorem dX12_shift_56 : decode cX12_shift 56 = .ok (.aload_n 0, 1) := by decide +kernel
theorem dX12_shift_57 : decode cX12_shift 57 = .ok (.getfield 98, 3) := by decide +kernel
theorem dX12_shift_60 : decode cX12_shift 60 = .ok (.iload_n 3, 1) := by decide +kernel
theorem dX12_shift_61 : decode cX12_shift 61 = .ok (.iaload, 1) := by decide +kernel
theorem dX12_shift_62 : decode cX12_shift 62 = .ok (.if_icmp .eq 6, 3) := by decide +kernel
theorem dX12_shift_65 : decode cX12_shift 65 = .ok (.bipush (-12), 2) := by decide +kernel
theorem dX12_shift_67 : decode cX12_shift 67 = .ok (.ireturn, 1) := by decide +kernel
theorem dX12_shift_68 : decode cX12_shift 68 = .ok (.iload_n 2, 1) := by decide +kernel
theorem dX12_shift_69 : decode cX12_shift 69 = .ok (.ifCond .lt 40, 3) := by decide +kernel
theorem dX12_shift_72 : decode cX12_shift 72 = .ok (.iload 4, 2) := by decide +kernel
theorem dX12_shift_74 : decode cX12_shift 74 = .ok (.ifCond .lt 35, 3) := by decide +kernel
theorem dX12_shift_77 : decode cX12_shift 77 = .ok (.iload 5, 2) := by decide +kernel
theorem dX12_shift_79 : decode cX12_shift 79 = .ok (.ifCond .lt 30, 3) := by decide +kernel
theorem dX12_shift_82 : decode cX12_shift 82 = .ok (.iload_n 2, 1) := by decide +kernel
theorem dX12_shift_83 : decode cX12_shift 83 = .ok (.aload_n 0, 1) := by decide +kernel
theorem dX12_shift_84 : decode cX12_shift 84 = .ok (.getfield 104, 3) := by decide +kernel
theorem dX12_shift_87 : decode cX12_shift 87 = .ok (.iload_n 1, 1) := by decide +kernel
theorem dX12_shift_88 : decode cX12_shift 88 = .ok (.iaload, 1) := by decide +kernel
theorem dX12_shift_89 : decode cX12_shift 89 = .ok (.iload 5, 2) := by decide +kernel
theorem dX12_shift_91 : decode cX12_shift 91 = .ok (.isub, 1) := by decide +kernel
theorem dX12_shift_92 : decode cX12_shift 92 = .ok (.if_icmp .gt 17, 3) := by decide +kernel
theorem dX12_shift_95 : decode cX12_shift 95 = .ok (.iload 4, 2) := by decide +kernel
theorem dX12_shift_97 : decode cX12_shift 97 = .ok (.aload_n 0, 1) := by decide +kernel
theorem dX12_shift_98 : decode cX12_shift 98 = .ok (.getfield 104, 3) := by decide +kernel
theorem dX12_shift_101 : decode cX12_shift 101 = .ok (.iload_n 3, 1) := by decide +kernel
theorem dX12_shift_102 : decode cX12_shift 102 = .ok (.iaload, 1) := by decide +kernel
theorem dX12_shift_103 : decode cX12_shift 103 = .ok (.iload 5, 2) := by decide +kernel
theorem dX12_shift_105 : decode cX12_shift 105 = .ok (.isub, 1) := by decide +kernel
theorem dX12_shift_106 : decode cX12_shift 106 = .ok (.if_icmp .le 6, 3) := by decide +kernel
theorem dX12_shift_109 : decode cX12_shift 109 = .ok (.bipush (-13), 2) := by decide +kernel
theorem dX12_shift_111 : decode cX12_shift 111 = .ok (.ireturn, 1) := by decide +kernel
theorem dX12_shift_112 : decode cX12_shift 112 = .ok (.iconst 0, 1) := by decide +kernel
theorem dX12_shift_113 : decode cX12_shift 113 = .ok (.istore 6, 2) := by decide +kernel
theorem dX12_shift_115 : decode cX12_shift 115 = .ok (.iload 6, 2) := by decide +kernel
theorem dX12_shift_117 : decode cX12_shift 117 = .ok (.iload 5, 2) := by decide +kernel
theorem dX12_shift_119 : decode cX12_shift 119 = .ok (.if_icmp .ge 30, 3) := by decide +kernel
theorem dX12_shift_122 : decode cX12_shift 122 = .ok (.aload_n 0, 1) := by decide +kernel
theorem dX12_shift_123 : decode cX12_shift 123 = .ok (.getfield 111, 3) := by decide +kernel
theorem dX12_shift_126 : decode cX12_shift 126 = .ok (.iload 6, 2) := by decide +kernel
theorem dX12_shift_128 : decode cX12_shift 128 = .ok (.aload_n 0, 1) := by decide +kernel
theorem dX12_shift_129 : decode cX12_shift 129 = .ok (.getfield 107, 3) := by decide +kernel
theorem dX12_shift_132 : decode cX12_shift 132 = .ok (.bipush 60, 2) := by decide +kernel
theorem dX12_shift_134 : decode cX12_shift 134 = .ok (.iload_n 1, 1) := by decide +kernel
theorem dX12_shift_135 : decode cX12_shift 135 = .ok (.imul, 1) := by decide +kernel
theorem dX12_shift_136 : decode cX12_shift 136 = .ok (.iload_n 2, 1) := by decide +kernel
theorem dX12_shift_137 : decode cX12_shift 137 = .ok (.iadd, 1) := by decide +kernel
theorem dX12_shift_138 : decode cX12_shift 138 = .ok (.iload 6, 2) := by decide +kernel
theorem dX12_shift_140 : decode cX12_shift 140 = .ok (.iadd, 1) := by decide +kernel
theorem dX12_shift_141 : decode cX12_shift 141 = .ok (.laload, 1) := by decide +kernel
theorem dX12_shift_142 : decode cX12_shift 142 = .ok (.lastore, 1) := by decide +kernel
theorem dX12_shift_143 : decode cX12_shift 143 = .ok (.iinc 6 1, 3) := by decide +kernel
theorem dX12_shift_146 : decode cX12_shift 146 = .ok (.goto (-31), 3) := by decide +kernel
theorem dX12_shift_149 : decode cX12_shift 149 = .ok (.iconst 0, 1) := by decide +kernel
theorem dX12_shift_150 : decode cX12_shift 150 = .ok (.istore 6, 2) := by decide +kernel
theorem dX12_shift_152 : decode cX12_shift 152 = .ok (.iload 6, 2) := by decide +kernel
theorem dX12_shift_154 : decode cX12_shift 154 = .ok (.iload 5, 2) := by decide +kernel
theorem dX12_shift_156 : decode cX12_shift 156 = .ok (.if_icmp .ge 31, 3) := by decide +kernel
theorem dX12_shift_159 : decode cX12_shift 159 = .ok (.aload_n 0, 1) := by decide +kernel
theorem dX12_shift_160 : decode cX12_shift 160 = .ok (.getfield 107, 3) := by decide +kernel
theorem dX12_shift_163 : decode cX12_shift 163 = .ok (.bipush 60, 2) := by decide +kernel
theorem dX12_shift_165 : decode cX12_shift 165 = .ok (.iload_n 3, 1) := by decide +kernel
theorem dX12_shift_166 : decode cX12_shift 166 = .ok (.imul, 1) := by decide +kernel
theorem dX12_shift_167 : decode cX12_shift 167 = .ok (.iload 4, 2) := by decide +kernel
theorem dX12_shift_169 : decode cX12_shift 169 = .ok (.iadd, 1) := by decide +kernel
theorem dX12_shift_170 : decode cX12_shift 170 = .ok (.iload 6, 2) := by decide +kernel
theorem dX12_shift_172 : decode cX12_shift 172 = .ok (.iadd, 1) := by decide +kernel
theorem dX12_shift_173 : decode cX12_shift 173 = .ok (.aload_n 0, 1) := by decide +kernel
theorem dX12_shift_174 : decode cX12_shift 174 = .ok (.getfield 111, 3) := by decide +kernel
theorem dX12_shift_177 : decode cX12_shift 177 = .ok (.iload 6, 2) := by decide +kernel
theorem dX12_shift_179 : decode cX12_shift 179 = .ok (.laload, 1) := by decide +kernel
theorem dX12_shift_180 : decode cX12_shift 180 = .ok (.lastore, 1) := by decide +kernel
theorem dX12_shift_181 : decode cX12_shift 181 = .ok (.iinc 6 1, 3) := by decide +kernel
theorem dX12_shift_184 : decode cX12_shift 184 = .ok (.goto (-32), 3) := by decide +kernel
theorem dX12_shift_187 : decode cX12_shift 187 = .ok (.iload 5, 2) := by decide +kernel
theorem dX12_shift_189 : decode cX12_shift 189 = .ok (.ireturn, 1) := by decide +kernel
theorem dX12_above_0 : decode cX12_above 0 = .ok (.iload_n 0, 1) := by decide +kernel
theorem dX12_above_1 : decode cX12_above 1 = .ok (.iconst 3, 1) := by decide +kernel
theorem dX12_above_2 : decode cX12_above 2 = .ok (.if_icmp .ne 7, 3) := by decide +kernel
theorem dX12_above_5 : decode cX12_above 5 = .ok (.iconst 1, 1) := by decide +kernel
theorem dX12_above_6 : decode cX12_above 6 = .ok (.goto 31, 3) := by decide +kernel
theorem dX12_above_9 : decode cX12_above 9 = .ok (.iload_n 0, 1) := by decide +kernel
theorem dX12_above_10 : decode cX12_above 10 = .ok (.iconst 5, 1) := by decide +kernel
theorem dX12_above_11 : decode cX12_above 11 = .ok (.if_icmp .ne 7, 3) := by decide +kernel
theorem dX12_above_14 : decode cX12_above 14 = .ok (.iconst 2, 1) := by decide +kernel
theorem dX12_above_15 : decode cX12_above 15 = .ok (.goto 22, 3) := by decide +kernel
theorem dX12_above_18 : decode cX12_above 18 = .ok (.iload_n 0, 1) := by decide +kernel
theorem dX12_above_19 : decode cX12_above 19 = .ok (.bipush 7, 2) := by decide +kernel
theorem dX12_above_21 : decode cX12_above 21 = .ok (.if_icmp .ne 7, 3) := by decide +kernel
theorem dX12_above_24 : decode cX12_above 24 = .ok (.iconst 4, 1) := by decide +kernel
theorem dX12_above_25 : decode cX12_above 25 = .ok (.goto 12, 3) := by decide +kernel
theorem dX12_above_28 : decode cX12_above 28 = .ok (.iload_n 0, 1) := by decide +kernel
theorem dX12_above_29 : decode cX12_above 29 = .ok (.ifCond .ne 7, 3) := by decide +kernel
theorem dX12_above_32 : decode cX12_above 32 = .ok (.iconst (-1), 1) := by decide +kernel
theorem dX12_above_33 : decode cX12_above 33 = .ok (.goto 4, 3) := by decide +kernel
theorem dX12_above_36 : decode cX12_above 36 = .ok (.iconst 0, 1) := by decide +kernel
theorem dX12_above_37 : decode cX12_above 37 = .ok (.ireturn, 1) := by decide +kernel
theorem dX12_taken_0 : decode cX12_taken 0 = .ok (.iload_n 1, 1) := by decide +kernel
theorem dX12_taken_1 : decode cX12_taken 1 = .ok (.invokestatic 360, 3) := by decide +kernel
theorem dX12_taken_4 : decode cX12_taken 4 = .ok (.ifCond .eq 13, 3) := by decide +kernel
theorem dX12_taken_7 : decode cX12_taken 7 = .ok (.iload_n 2, 1) := by decide +kernel
theorem dX12_taken_8 : decode cX12_taken 8 = .ok (.iconst 0, 1) := by decide +kernel
theorem dX12_taken_9 : decode cX12_taken 9 = .ok (.bipush 7, 2) := by decide +kernel
theorem dX12_taken_11 : decode cX12_taken 11 = .ok (.invokestatic 117, 3) := by decide +kernel
theorem dX12_taken_14 : decode cX12_taken 14 = .ok (.ifCond .ne 5, 3) := by decide +kernel
theorem dX12_taken_17 : decode cX12_taken 17 = .ok (.iconst (-1), 1) := by decide +kernel
theorem dX12_taken_18 : decode cX12_taken 18 = .ok (.ireturn, 1) := by decide +kernel
theorem dX12_taken_19 : decode cX12_taken 19 = .ok (.aload_n 0, 1) := by decide +kernel
theorem dX12_taken_20 : decode cX12_taken 20 = .ok (.getfield 98, 3) := by decide +kernel
theorem dX12_taken_23 : decode cX12_taken 23 = .ok (.iload_n 1, 1) := by decide +kernel
theorem dX12_taken_24 : decode cX12_taken 24 = .ok (.iaload, 1) := by decide +kernel
theorem dX12_taken_25 : decode cX12_taken 25 = .ok (.bipush (-2), 2) := by decide +kernel
theorem dX12_taken_27 : decode cX12_taken 27 = .ok (.if_icmp .ne 6, 3) := by decide +kernel
theorem dX12_taken_30 : decode cX12_taken 30 = .ok (.bipush (-11), 2) := by decide +kernel
theorem dX12_taken_32 : decode cX12_taken 32 = .ok (.ireturn, 1) := by decide +kernel
theorem dX12_taken_33 : decode cX12_taken 33 = .ok (.aload_n 0, 1) := by decide +kernel
theorem dX12_taken_34 : decode cX12_taken 34 = .ok (.getfield 98, 3) := by decide +kernel
theorem dX12_taken_37 : decode cX12_taken 37 = .ok (.iload_n 1, 1) := by decide +kernel
theorem dX12_taken_38 : decode cX12_taken 38 = .ok (.iaload, 1) := by decide +kernel
theorem dX12_taken_39 : decode cX12_taken 39 = .ok (.ifCond .lt 6, 3) := by decide +kernel
theorem dX12_taken_42 : decode cX12_taken 42 = .ok (.bipush (-12), 2) := by decide +kernel
theorem dX12_taken_44 : decode cX12_taken 44 = .ok (.ireturn, 1) := by decide +kernel
theorem dX12_taken_45 : decode cX12_taken 45 = .ok (.aload_n 0, 1) := by decide +kernel
theorem dX12_taken_46 : decode cX12_taken 46 = .ok (.getfield 92, 3) := by decide +kernel
theorem dX12_taken_49 : decode cX12_taken 49 = .ok (.aload_n 0, 1) := by decide +kernel
theorem dX12_taken_50 : decode cX12_taken 50 = .ok (.getfield 101, 3) := by decide +kernel
theorem dX12_taken_53 : decode cX12_taken 53 = .ok (.iload_n 1, 1) := by decide +kernel
theorem dX12_taken_54 : decode cX12_taken 54 = .ok (.iaload, 1) := by decide +kernel
theorem dX12_taken_55 : decode cX12_taken 55 = .ok (.iaload, 1) := by decide +kernel
theorem dX12_taken_56 : decode cX12_taken 56 = .ok (.istore_n 3, 1) := by decide +kernel
theorem dX12_taken_57 : decode cX12_taken 57 = .ok (.iload_n 3, 1) := by decide +kernel
theorem dX12_taken_58 : decode cX12_taken 58 = .ok (.istore 4, 2) := by decide +kernel
theorem dX12_taken_60 : decode cX12_taken 60 = .ok (.iload 4, 2) := by decide +kernel
theorem dX12_taken_62 : decode cX12_taken 62 = .ok (.ifCond .lt 21, 3) := by decide +kernel
theorem dX12_taken_65 : decode cX12_taken 65 = .ok (.iload 4, 2) := by decide +kernel
theorem dX12_taken_67 : decode cX12_taken 67 = .ok (.iload_n 2, 1) := by decide +kernel
theorem dX12_taken_68 : decode cX12_taken 68 = .ok (.if_icmp .ne 5, 3) := by decide +kernel
theorem dX12_taken_71 : decode cX12_taken 71 = .ok (.iload_n 3, 1) := by decide +kernel
theorem dX12_taken_72 : decode cX12_taken 72 = .ok (.ireturn, 1) := by decide +kernel
theorem dX12_taken_73 : decode cX12_taken 73 = .ok (.iload 4, 2) := by decide +kernel
theorem dX12_taken_75 : decode cX12_taken 75 = .ok (.invokestatic 372, 3) := by decide +kernel
theorem dX12_taken_78 : decode cX12_taken 78 = .ok (.istore 4, 2) := by decide +kernel
theorem dX12_taken_80 : decode cX12_taken 80 = .ok (.goto (-20), 3) := by decide +kernel
theorem dX12_taken_83 : decode cX12_taken 83 = .ok (.bipush (-12), 2) := by decide +kernel
theorem dX12_taken_85 : decode cX12_taken 85 = .ok (.ireturn, 1) := by decide +kernel
theorem dX12_runs_0 : decode cX12_runs 0 = .ok (.iload_n 1, 1) := by decide +kernel
theorem dX12_runs_1 : decode cX12_runs 1 = .ok (.invokestatic 360, 3) := by decide +kernel
theorem dX12_runs_4 : decode cX12_runs 4 = .ok (.ifCond .eq 13, 3) := by decide +kernel
theorem dX12_runs_7 : decode cX12_runs 7 = .ok (.iload_n 3, 1) := by decide +kernel
theorem dX12_runs_8 : decode cX12_runs 8 = .ok (.iconst 1, 1) := by decide +kernel
theorem dX12_runs_9 : decode cX12_runs 9 = .ok (.bipush 12, 2) := by decide +kernel
theorem dX12_runs_11 : decode cX12_runs 11 = .ok (.invokestatic 117, 3) := by decide +kernel
theorem dX12_runs_14 : decode cX12_runs 14 = .ok (.ifCond .ne 5, 3) := by decide +kernel
theorem dX12_runs_17 : decode cX12_runs 17 = .ok (.iconst (-1), 1) := by decide +kernel
theorem dX12_runs_18 : decode cX12_runs 18 = .ok (.ireturn, 1) := by decide +kernel
theorem dX12_runs_19 : decode cX12_runs 19 = .ok (.aload_n 0, 1) := by decide +kernel
theorem dX12_runs_20 : decode cX12_runs 20 = .ok (.getfield 98, 3) := by decide +kernel
theorem dX12_runs_23 : decode cX12_runs 23 = .ok (.iload_n 1, 1) := by decide +kernel
theorem dX12_runs_24 : decode cX12_runs 24 = .ok (.iaload, 1) := by decide +kernel
theorem dX12_runs_25 : decode cX12_runs 25 = .ok (.bipush (-2), 2) := by decide +kernel
theorem dX12_runs_27 : decode cX12_runs 27 = .ok (.if_icmp .ne 5, 3) := by decide +kernel
theorem dX12_runs_30 : decode cX12_runs 30 = .ok (.iconst 0, 1) := by decide +kernel
theorem dX12_runs_31 : decode cX12_runs 31 = .ok (.ireturn, 1) := by decide +kernel
theorem dX12_runs_32 : decode cX12_runs 32 = .ok (.aload_n 0, 1) := by decide +kernel
theorem dX12_runs_33 : decode cX12_runs 33 = .ok (.getfield 98, 3) := by decide +kernel
theorem dX12_runs_36 : decode cX12_runs 36 = .ok (.iload_n 1, 1) := by decide +kernel
theorem dX12_runs_37 : decode cX12_runs 37 = .ok (.iaload, 1) := by decide +kernel
theorem dX12_runs_38 : decode cX12_runs 38 = .ok (.iconst 2, 1) := by decide +kernel
theorem dX12_runs_39 : decode cX12_runs 39 = .ok (.if_icmp .eq 6, 3) := by decide +kernel
theorem dX12_runs_42 : decode cX12_runs 42 = .ok (.bipush (-12), 2) := by decide +kernel
theorem dX12_runs_44 : decode cX12_runs 44 = .ok (.ireturn, 1) := by decide +kernel
theorem dX12_runs_45 : decode cX12_runs 45 = .ok (.iconst 0, 1) := by decide +kernel
theorem dX12_runs_46 : decode cX12_runs 46 = .ok (.istore 4, 2) := by decide +kernel
theorem dX12_runs_48 : decode cX12_runs 48 = .ok (.iconst 0, 1) := by decide +kernel
theorem dX12_runs_49 : decode cX12_runs 49 = .ok (.istore 5, 2) := by decide +kernel
theorem dX12_runs_51 : decode cX12_runs 51 = .ok (.iload 5, 2) := by decide +kernel
theorem dX12_runs_53 : decode cX12_runs 53 = .ok (.iload_n 3, 1) := by decide +kernel
theorem dX12_runs_54 : decode cX12_runs 54 = .ok (.if_icmp .ge 150, 3) := by decide +kernel
theorem dX12_runs_57 : decode cX12_runs 57 = .ok (.iload_n 2, 1) := by decide +kernel
theorem dX12_runs_58 : decode cX12_runs 58 = .ok (.ifCond .lt 146, 3) := by decide +kernel
theorem dX12_runs_61 : decode cX12_runs 61 = .ok (.iload_n 2, 1) := by decide +kernel
theorem dX12_runs_62 : decode cX12_runs 62 = .ok (.aload_n 0, 1) := by decide +kernel
theorem dX12_runs_63 : decode cX12_runs 63 = .ok (.getfield 104, 3) := by decide +kernel
theorem dX12_runs_66 : decode cX12_runs 66 = .ok (.iload_n 1, 1) := by decide +kernel
theorem dX12_runs_67 : decode cX12_runs 67 = .ok (.iaload, 1) := by decide +kernel
theorem dX12_runs_68 : decode cX12_runs 68 = .ok (.iconst 5, 1) := by decide +kernel
theorem dX12_runs_69 : decode cX12_runs 69 = .ok (.iload 5, 2) := by decide +kernel
theorem dX12_runs_71 : decode cX12_runs 71 = .ok (.iconst 1, 1) := by decide +kernel
theorem dX12_runs_72 : decode cX12_runs 72 = .ok (.iadd, 1) := by decide +kernel
theorem dX12_runs_73 : decode cX12_runs 73 = .ok (.imul, 1) := by decide +kernel
theorem dX12_runs_74 : decode cX12_runs 74 = .ok (.isub, 1) := by decide +kernel
theorem dX12_runs_75 : decode cX12_runs 75 = .ok (.if_icmp .gt 12, 3) := by decide +kernel
theorem dX12_runs_78 : decode cX12_runs 78 = .ok (.aload_n 0, 1) := by decide +kernel
theorem dX12_runs_79 : decode cX12_runs 79 = .ok (.getfield 128, 3) := by decide +kernel
theorem dX12_runs_82 : decode cX12_runs 82 = .ok (.bipush 120, 2) := by decide +kernel
theorem dX12_runs_84 : decode cX12_runs 84 = .ok (.if_icmp .ne 6, 3) := by decide +kernel
theorem dX12_runs_87 : decode cX12_runs 87 = .ok (.iload 4, 2) := by decide +kernel
theorem dX12_runs_89 : decode cX12_runs 89 = .ok (.ireturn, 1) := by decide +kernel
theorem dX12_runs_90 : decode cX12_runs 90 = .ok (.bipush 60, 2) := by decide +kernel
theorem dX12_runs_92 : decode cX12_runs 92 = .ok (.iload_n 1, 1) := by decide +kernel
theorem dX12_runs_93 : decode cX12_runs 93 = .ok (.imul, 1) := by decide +kernel
theorem dX12_runs_94 : decode cX12_runs 94 = .ok (.iload_n 2, 1) := by decide +kernel
theorem dX12_runs_95 : decode cX12_runs 95 = .ok (.iadd, 1) := by decide +kernel
theorem dX12_runs_96 : decode cX12_runs 96 = .ok (.iconst 5, 1) := by decide +kernel
theorem dX12_runs_97 : decode cX12_runs 97 = .ok (.iload 5, 2) := by decide +kernel
theorem dX12_runs_99 : decode cX12_runs 99 = .ok (.imul, 1) := by decide +kernel
theorem dX12_runs_100 : decode cX12_runs 100 = .ok (.iadd, 1) := by decide +kernel
theorem dX12_runs_101 : decode cX12_runs 101 = .ok (.istore 6, 2) := by decide +kernel
theorem dX12_runs_103 : decode cX12_runs 103 = .ok (.aload_n 0, 1) := by decide +kernel
theorem dX12_runs_104 : decode cX12_runs 104 = .ok (.getfield 107, 3) := by decide +kernel
theorem dX12_runs_107 : decode cX12_runs 107 = .ok (.iload 6, 2) := by decide +kernel
theorem dX12_runs_109 : decode cX12_runs 109 = .ok (.laload, 1) := by decide +kernel
theorem dX12_runs_110 : decode cX12_runs 110 = .ok (.l2i, 1) := by decide +kernel
theorem dX12_runs_111 : decode cX12_runs 111 = .ok (.istore 7, 2) := by decide +kernel
theorem dX12_runs_113 : decode cX12_runs 113 = .ok (.aload_n 0, 1) := by decide +kernel
theorem dX12_runs_114 : decode cX12_runs 114 = .ok (.getfield 107, 3) := by decide +kernel
theorem dX12_runs_117 : decode cX12_runs 117 = .ok (.iload 6, 2) := by decide +kernel
theorem dX12_runs_119 : decode cX12_runs 119 = .ok (.iconst 1, 1) := by decide +kernel
theorem dX12_runs_120 : decode cX12_runs 120 = .ok (.iadd, 1) := by decide +kernel
theorem dX12_runs_121 : decode cX12_runs 121 = .ok (.laload, 1) := by decide +kernel
theorem dX12_runs_122 : decode cX12_runs 122 = .ok (.l2i, 1) := by decide +kernel
theorem dX12_runs_123 : decode cX12_runs 123 = .ok (.istore 8, 2) := by decide +kernel
theorem dX12_runs_125 : decode cX12_runs 125 = .ok (.aload_n 0, 1) := by decide +kernel
theorem dX12_runs_126 : decode cX12_runs 126 = .ok (.getfield 107, 3) := by decide +kernel
theorem dX12_runs_129 : decode cX12_runs 129 = .ok (.iload 6, 2) := by decide +kernel
theorem dX12_runs_131 : decode cX12_runs 131 = .ok (.iconst 2, 1) := by decide +kernel
theorem dX12_runs_132 : decode cX12_runs 132 = .ok (.iadd, 1) := by decide +kernel
theorem dX12_runs_133 : decode cX12_runs 133 = .ok (.laload, 1) := by decide +kernel
theorem dX12_runs_134 : decode cX12_runs 134 = .ok (.l2i, 1) := by decide +kernel
theorem dX12_runs_135 : decode cX12_runs 135 = .ok (.istore 9, 2) := by decide +kernel
theorem dX12_runs_137 : decode cX12_runs 137 = .ok (.aload_n 0, 1) := by decide +kernel
theorem dX12_runs_138 : decode cX12_runs 138 = .ok (.getfield 107, 3) := by decide +kernel
theorem dX12_runs_141 : decode cX12_runs 141 = .ok (.iload 6, 2) := by decide +kernel
theorem dX12_runs_143 : decode cX12_runs 143 = .ok (.iconst 3, 1) := by decide +kernel
theorem dX12_runs_144 : decode cX12_runs 144 = .ok (.iadd, 1) := by decide +kernel
theorem dX12_runs_145 : decode cX12_runs 145 = .ok (.laload, 1) := by decide +kernel
theorem dX12_runs_146 : decode cX12_runs 146 = .ok (.l2i, 1) := by decide +kernel
theorem dX12_runs_147 : decode cX12_runs 147 = .ok (.istore 10, 2) := by decide +kernel
theorem dX12_runs_149 : decode cX12_runs 149 = .ok (.aload_n 0, 1) := by decide +kernel
theorem dX12_runs_150 : decode cX12_runs 150 = .ok (.getfield 107, 3) := by decide +kernel
theorem dX12_runs_153 : decode cX12_runs 153 = .ok (.iload 6, 2) := by decide +kernel
theorem dX12_runs_155 : decode cX12_runs 155 = .ok (.iconst 4, 1) := by decide +kernel
theorem dX12_runs_156 : decode cX12_runs 156 = .ok (.iadd, 1) := by decide +kernel
theorem dX12_runs_157 : decode cX12_runs 157 = .ok (.laload, 1) := by decide +kernel
theorem dX12_runs_158 : decode cX12_runs 158 = .ok (.l2i, 1) := by decide +kernel
theorem dX12_runs_159 : decode cX12_runs 159 = .ok (.istore 11, 2) := by decide +kernel
theorem dX12_runs_161 : decode cX12_runs 161 = .ok (.aload_n 0, 1) := by decide +kernel
theorem dX12_runs_162 : decode cX12_runs 162 = .ok (.iload 7, 2) := by decide +kernel
theorem dX12_runs_164 : decode cX12_runs 164 = .ok (.iload 8, 2) := by decide +kernel
theorem dX12_runs_166 : decode cX12_runs 166 = .ok (.iload 9, 2) := by decide +kernel
theorem dX12_runs_168 : decode cX12_runs 168 = .ok (.iload 10, 2) := by decide +kernel
theorem dX12_runs_170 : decode cX12_runs 170 = .ok (.iload 11, 2) := by decide +kernel
theorem dX12_runs_172 : decode cX12_runs 172 = .ok (.invokevirtual 141, 3) := by decide +kernel
theorem dX12_runs_175 : decode cX12_runs 175 = .ok (.ifCond .ne 6, 3) := by decide +kernel
theorem dX12_runs_178 : decode cX12_runs 178 = .ok (.iload 4, 2) := by decide +kernel
theorem dX12_runs_180 : decode cX12_runs 180 = .ok (.ireturn, 1) := by decide +kernel
theorem dX12_runs_181 : decode cX12_runs 181 = .ok (.aload_n 0, 1) := by decide +kernel
theorem dX12_runs_182 : decode cX12_runs 182 = .ok (.iload 7, 2) := by decide +kernel
theorem dX12_runs_184 : decode cX12_runs 184 = .ok (.iload 8, 2) := by decide +kernel
theorem dX12_runs_186 : decode cX12_runs 186 = .ok (.iload 9, 2) := by decide +kernel
theorem dX12_runs_188 : decode cX12_runs 188 = .ok (.iload 10, 2) := by decide +kernel
theorem dX12_runs_190 : decode cX12_runs 190 = .ok (.iload 11, 2) := by decide +kernel
theorem dX12_runs_192 : decode cX12_runs 192 = .ok (.invokevirtual 145, 3) := by decide +kernel
theorem dX12_runs_195 : decode cX12_runs 195 = .ok (.iinc 4 1, 3) := by decide +kernel
theorem dX12_runs_198 : decode cX12_runs 198 = .ok (.iinc 5 1, 3) := by decide +kernel
theorem dX12_runs_201 : decode cX12_runs 201 = .ok (.goto (-150), 3) := by decide +kernel
theorem dX12_runs_204 : decode cX12_runs 204 = .ok (.iload 4, 2) := by decide +kernel
theorem dX12_runs_206 : decode cX12_runs 206 = .ok (.ireturn, 1) := by decide +kernel
theorem dX12_count_0 : decode cX12_count 0 = .ok (.iload_n 1, 1) := by decide +kernel
theorem dX12_count_1 : decode cX12_count 1 = .ok (.tableswitch 105 0 9 #[55, 60, 65, 70, 75, 80, 85, 90, 95, 100], 55) := by decide +kernel
theorem dX12_count_56 : decode cX12_count 56 = .ok (.aload_n 0, 1) := by decide +kernel
theorem dX12_count_57 : decode cX12_count 57 = .ok (.getfield 122, 3) := by decide +kernel
theorem dX12_count_60 : decode cX12_count 60 = .ok (.ireturn, 1) := by decide +kernel
theorem dX12_count_61 : decode cX12_count 61 = .ok (.aload_n 0, 1) := by decide +kernel
theorem dX12_count_62 : decode cX12_count 62 = .ok (.getfield 114, 3) := by decide +kernel
theorem dX12_count_65 : decode cX12_count 65 = .ok (.ireturn, 1) := by decide +kernel
theorem dX12_count_66 : decode cX12_count 66 = .ok (.aload_n 0, 1) := by decide +kernel
theorem dX12_count_67 : decode cX12_count 67 = .ok (.getfield 125, 3) := by decide +kernel
theorem dX12_count_70 : decode cX12_count 70 = .ok (.ireturn, 1) := by decide +kernel
theorem dX12_count_71 : decode cX12_count 71 = .ok (.aload_n 0, 1) := by decide +kernel
theorem dX12_count_72 : decode cX12_count 72 = .ok (.getfield 128, 3) := by decide +kernel
theorem dX12_count_75 : decode cX12_count 75 = .ok (.ireturn, 1) := by decide +kernel
theorem dX12_count_76 : decode cX12_count 76 = .ok (.aload_n 0, 1) := by decide +kernel
theorem dX12_count_77 : decode cX12_count 77 = .ok (.getfield 181, 3) := by decide +kernel
theorem dX12_count_80 : decode cX12_count 80 = .ok (.ireturn, 1) := by decide +kernel
theorem dX12_count_81 : decode cX12_count 81 = .ok (.aload_n 0, 1) := by decide +kernel
theorem dX12_count_82 : decode cX12_count 82 = .ok (.getfield 223, 3) := by decide +kernel
theorem dX12_count_85 : decode cX12_count 85 = .ok (.ireturn, 1) := by decide +kernel
theorem dX12_count_86 : decode cX12_count 86 = .ok (.aload_n 0, 1) := by decide +kernel
theorem dX12_count_87 : decode cX12_count 87 = .ok (.getfield 322, 3) := by decide +kernel
theorem dX12_count_90 : decode cX12_count 90 = .ok (.ireturn, 1) := by decide +kernel
theorem dX12_count_91 : decode cX12_count 91 = .ok (.aload_n 0, 1) := by decide +kernel
theorem dX12_count_92 : decode cX12_count 92 = .ok (.getfield 171, 3) := by decide +kernel
theorem dX12_count_95 : decode cX12_count 95 = .ok (.ireturn, 1) := by decide +kernel
theorem dX12_count_96 : decode cX12_count 96 = .ok (.aload_n 0, 1) := by decide +kernel
theorem dX12_count_97 : decode cX12_count 97 = .ok (.getfield 339, 3) := by decide +kernel
theorem dX12_count_100 : decode cX12_count 100 = .ok (.ireturn, 1) := by decide +kernel
theorem dX12_count_101 : decode cX12_count 101 = .ok (.aload_n 0, 1) := by decide +kernel
theorem dX12_count_102 : decode cX12_count 102 = .ok (.getfield 342, 3) := by decide +kernel
theorem dX12_count_105 : decode cX12_count 105 = .ok (.ireturn, 1) := by decide +kernel
theorem dX12_count_106 : decode cX12_count 106 = .ok (.iconst (-1), 1) := by decide +kernel
theorem dX12_count_107 : decode cX12_count 107 = .ok (.ireturn, 1) := by decide +kernel
theorem dJ11_isValidCodePoint_9a6ad_0 : decode cJ11_isValidCodePoint_9a6ad 0 = .ok (.iload_n 0, 1) := by decide +kernel
theorem dJ11_isValidCodePoint_9a6ad_1 : decode cJ11_isValidCodePoint_9a6ad 1 = .ok (.bipush 16, 2) := by decide +kernel
theorem dJ11_isValidCodePoint_9a6ad_3 : decode cJ11_isValidCodePoint_9a6ad 3 = .ok (.iushr, 1) := by decide +kernel
theorem dJ11_isValidCodePoint_9a6ad_4 : decode cJ11_isValidCodePoint_9a6ad 4 = .ok (.istore_n 1, 1) := by decide +kernel
theorem dJ11_isValidCodePoint_9a6ad_5 : decode cJ11_isValidCodePoint_9a6ad 5 = .ok (.iload_n 1, 1) := by decide +kernel
theorem dJ11_isValidCodePoint_9a6ad_6 : decode cJ11_isValidCodePoint_9a6ad 6 = .ok (.bipush 17, 2) := by decide +kernel
theorem dJ11_isValidCodePoint_9a6ad_8 : decode cJ11_isValidCodePoint_9a6ad 8 = .ok (.if_icmp .ge 7, 3) := by decide +kernel
theorem dJ11_isValidCodePoint_9a6ad_11 : decode cJ11_isValidCodePoint_9a6ad 11 = .ok (.iconst 1, 1) := by decide +kernel
theorem dJ11_isValidCodePoint_9a6ad_12 : decode cJ11_isValidCodePoint_9a6ad 12 = .ok (.goto 4, 3) := by decide +kernel
theorem dJ11_isValidCodePoint_9a6ad_15 : decode cJ11_isValidCodePoint_9a6ad 15 = .ok (.iconst 0, 1) := by decide +kernel
theorem dJ11_isValidCodePoint_9a6ad_16 : decode cJ11_isValidCodePoint_9a6ad 16 = .ok (.ireturn, 1) := by decide +kernel
theorem dJ11_highSurrogate_5068e_0 : decode cJ11_highSurrogate_5068e 0 = .ok (.iload_n 0, 1) := by decide +kernel
theorem dJ11_highSurrogate_5068e_1 : decode cJ11_highSurrogate_5068e 1 = .ok (.bipush 10, 2) := by decide +kernel
theorem dJ11_highSurrogate_5068e_3 : decode cJ11_highSurrogate_5068e 3 = .ok (.iushr, 1) := by decide +kernel
theorem dJ11_highSurrogate_5068e_4 : decode cJ11_highSurrogate_5068e 4 = .ok (.ldc 110, 2) := by decide +kernel
theorem dJ11_highSurrogate_5068e_6 : decode cJ11_highSurrogate_5068e 6 = .ok (.iadd, 1) := by decide +kernel
theorem dJ11_highSurrogate_5068e_7 : decode cJ11_highSurrogate_5068e 7 = .ok (.i2c, 1) := by decide +kernel
theorem dJ11_highSurrogate_5068e_8 : decode cJ11_highSurrogate_5068e 8 = .ok (.ireturn, 1) := by decide +kernel
theorem dJ11_lowSurrogate_5068e_0 : decode cJ11_lowSurrogate_5068e 0 = .ok (.iload_n 0, 1) := by decide +kernel
theorem dJ11_lowSurrogate_5068e_1 : decode cJ11_lowSurrogate_5068e 1 = .ok (.sipush 1023, 3) := by decide +kernel
theorem dJ11_lowSurrogate_5068e_4 : decode cJ11_lowSurrogate_5068e 4 = .ok (.iand, 1) := by decide +kernel
theorem dJ11_lowSurrogate_5068e_5 : decode cJ11_lowSurrogate_5068e 5 = .ok (.ldc 76, 2) := by decide +kernel
theorem dJ11_lowSurrogate_5068e_7 : decode cJ11_lowSurrogate_5068e 7 = .ok (.iadd, 1) := by decide +kernel
theorem dJ11_lowSurrogate_5068e_8 : decode cJ11_lowSurrogate_5068e 8 = .ok (.i2c, 1) := by decide +kernel
theorem dJ11_lowSurrogate_5068e_9 : decode cJ11_lowSurrogate_5068e 9 = .ok (.ireturn, 1) := by decide +kernel
theorem dJ9_max_7cf53_0 : decode cJ9_max_7cf53 0 = .ok (.iload_n 0, 1) := by decide +kernel
theorem dJ9_max_7cf53_1 : decode cJ9_max_7cf53 1 = .ok (.iload_n 1, 1) := by decide +kernel
theorem dJ9_max_7cf53_2 : decode cJ9_max_7cf53 2 = .ok (.if_icmp .lt 7, 3) := by decide +kernel
theorem dJ9_max_7cf53_5 : decode cJ9_max_7cf53 5 = .ok (.iload_n 0, 1) := by decide +kernel
theorem dJ9_max_7cf53_6 : decode cJ9_max_7cf53 6 = .ok (.goto 4, 3) := by decide +kernel
theorem dJ9_max_7cf53_9 : decode cJ9_max_7cf53 9 = .ok (.iload_n 1, 1) := by decide +kernel
theorem dJ9_max_7cf53_10 : decode cJ9_max_7cf53 10 = .ok (.ireturn, 1) := by decide +kernel
theorem dJ9_min_7cf53_0 : decode cJ9_min_7cf53 0 = .ok (.iload_n 0, 1) := by decide +kernel
theorem dJ9_min_7cf53_1 : decode cJ9_min_7cf53 1 = .ok (.iload_n 1, 1) := by decide +kernel
theorem dJ9_min_7cf53_2 : decode cJ9_min_7cf53 2 = .ok (.if_icmp .gt 7, 3) := by decide +kernel
theorem dJ9_min_7cf53_5 : decode cJ9_min_7cf53 5 = .ok (.iload_n 0, 1) := by decide +kernel
theorem dJ9_min_7cf53_6 : decode cJ9_min_7cf53 6 = .ok (.goto 4, 3) := by decide +kernel
theorem dJ9_min_7cf53_9 : decode cJ9_min_7cf53 9 = .ok (.iload_n 1, 1) := by decide +kernel
theorem dJ9_min_7cf53_10 : decode cJ9_min_7cf53 10 = .ok (.ireturn, 1) := by decide +kernel
theorem dJ0_length_8abf5_0 : decode cJ0_length_8abf5 0 = .ok (.aload_n 0, 1) := by decide +kernel
theorem dJ0_length_8abf5_1 : decode cJ0_length_8abf5 1 = .ok (.getfield 9, 3) := by decide +kernel
theorem dJ0_length_8abf5_4 : decode cJ0_length_8abf5 4 = .ok (.arraylength, 1) := by decide +kernel
theorem dJ0_length_8abf5_5 : decode cJ0_length_8abf5 5 = .ok (.aload_n 0, 1) := by decide +kernel
theorem dJ0_length_8abf5_6 : decode cJ0_length_8abf5 6 = .ok (.invokevirtual 335, 3) := by decide +kernel
theorem dJ0_length_8abf5_9 : decode cJ0_length_8abf5 9 = .ok (.ishr, 1) := by decide +kernel
theorem dJ0_length_8abf5_10 : decode cJ0_length_8abf5 10 = .ok (.ireturn, 1) := by decide +kernel
theorem dJ0_indexOf_0f7a4_0 : decode cJ0_indexOf_0f7a4 0 = .ok (.aload_n 0, 1) := by decide +kernel
theorem dJ0_indexOf_0f7a4_1 : decode cJ0_indexOf_0f7a4 1 = .ok (.iload_n 1, 1) := by decide +kernel
theorem dJ0_indexOf_0f7a4_2 : decode cJ0_indexOf_0f7a4 2 = .ok (.iconst 0, 1) := by decide +kernel
theorem dJ0_indexOf_0f7a4_3 : decode cJ0_indexOf_0f7a4 3 = .ok (.invokevirtual 633, 3) := by decide +kernel
theorem dJ0_indexOf_0f7a4_6 : decode cJ0_indexOf_0f7a4 6 = .ok (.ireturn, 1) := by decide +kernel
theorem dJ0_indexOf_7cf53_0 : decode cJ0_indexOf_7cf53 0 = .ok (.aload_n 0, 1) := by decide +kernel
theorem dJ0_indexOf_7cf53_1 : decode cJ0_indexOf_7cf53 1 = .ok (.invokevirtual 492, 3) := by decide +kernel
theorem dJ0_indexOf_7cf53_4 : decode cJ0_indexOf_7cf53 4 = .ok (.ifCond .eq 19, 3) := by decide +kernel
theorem dJ0_indexOf_7cf53_7 : decode cJ0_indexOf_7cf53 7 = .ok (.aload_n 0, 1) := by decide +kernel
theorem dJ0_indexOf_7cf53_8 : decode cJ0_indexOf_7cf53 8 = .ok (.getfield 9, 3) := by decide +kernel
theorem dJ0_indexOf_7cf53_11 : decode cJ0_indexOf_7cf53 11 = .ok (.iload_n 1, 1) := by decide +kernel
theorem dJ0_indexOf_7cf53_12 : decode cJ0_indexOf_7cf53 12 = .ok (.iload_n 2, 1) := by decide +kernel
theorem dJ0_indexOf_7cf53_13 : decode cJ0_indexOf_7cf53 13 = .ok (.aload_n 0, 1) := by decide +kernel
theorem dJ0_indexOf_7cf53_14 : decode cJ0_indexOf_7cf53 14 = .ok (.invokevirtual 505, 3) := by decide +kernel
theorem dJ0_indexOf_7cf53_17 : decode cJ0_indexOf_7cf53 17 = .ok (.invokestatic 637, 3) := by decide +kernel
theorem dJ0_indexOf_7cf53_20 : decode cJ0_indexOf_7cf53 20 = .ok (.goto 16, 3) := by decide +kernel
theorem dJ0_indexOf_7cf53_23 : decode cJ0_indexOf_7cf53 23 = .ok (.aload_n 0, 1) := by decide +kernel
theorem dJ0_indexOf_7cf53_24 : decode cJ0_indexOf_7cf53 24 = .ok (.getfield 9, 3) := by decide +kernel
theorem dJ0_indexOf_7cf53_27 : decode cJ0_indexOf_7cf53 27 = .ok (.iload_n 1, 1) := by decide +kernel
theorem dJ0_indexOf_7cf53_28 : decode cJ0_indexOf_7cf53 28 = .ok (.iload_n 2, 1) := by decide +kernel
theorem dJ0_indexOf_7cf53_29 : decode cJ0_indexOf_7cf53 29 = .ok (.aload_n 0, 1) := by decide +kernel
theorem dJ0_indexOf_7cf53_30 : decode cJ0_indexOf_7cf53 30 = .ok (.invokevirtual 505, 3) := by decide +kernel
theorem dJ0_indexOf_7cf53_33 : decode cJ0_indexOf_7cf53 33 = .ok (.invokestatic 640, 3) := by decide +kernel
theorem dJ0_indexOf_7cf53_36 : decode cJ0_indexOf_7cf53 36 = .ok (.ireturn, 1) := by decide +kernel
theorem dJ0_coder_7d493_0 : decode cJ0_coder_7d493 0 = .ok (.getstatic 38, 3) := by decide +kernel
theorem dJ0_coder_7d493_3 : decode cJ0_coder_7d493 3 = .ok (.ifCond .eq 10, 3) := by decide +kernel
theorem dJ0_coder_7d493_6 : decode cJ0_coder_7d493 6 = .ok (.aload_n 0, 1) := by decide +kernel
theorem dJ0_coder_7d493_7 : decode cJ0_coder_7d493 7 = .ok (.getfield 15, 3) := by decide +kernel
theorem dJ0_coder_7d493_10 : decode cJ0_coder_7d493 10 = .ok (.goto 4, 3) := by decide +kernel
theorem dJ0_coder_7d493_13 : decode cJ0_coder_7d493 13 = .ok (.iconst 1, 1) := by decide +kernel
theorem dJ0_coder_7d493_14 : decode cJ0_coder_7d493 14 = .ok (.ireturn, 1) := by decide +kernel
theorem dJ0_isLatin1_aae02_0 : decode cJ0_isLatin1_aae02 0 = .ok (.getstatic 38, 3) := by decide +kernel
theorem dJ0_isLatin1_aae02_3 : decode cJ0_isLatin1_aae02 3 = .ok (.ifCond .eq 14, 3) := by decide +kernel
theorem dJ0_isLatin1_aae02_6 : decode cJ0_isLatin1_aae02 6 = .ok (.aload_n 0, 1) := by decide +kernel
theorem dJ0_isLatin1_aae02_7 : decode cJ0_isLatin1_aae02 7 = .ok (.getfield 15, 3) := by decide +kernel
theorem dJ0_isLatin1_aae02_10 : decode cJ0_isLatin1_aae02 10 = .ok (.ifCond .ne 7, 3) := by decide +kernel
theorem dJ0_isLatin1_aae02_13 : decode cJ0_isLatin1_aae02 13 = .ok (.iconst 1, 1) := by decide +kernel
theorem dJ0_isLatin1_aae02_14 : decode cJ0_isLatin1_aae02 14 = .ok (.goto 4, 3) := by decide +kernel
theorem dJ0_isLatin1_aae02_17 : decode cJ0_isLatin1_aae02 17 = .ok (.iconst 0, 1) := by decide +kernel
theorem dJ0_isLatin1_aae02_18 : decode cJ0_isLatin1_aae02 18 = .ok (.ireturn, 1) := by decide +kernel
theorem dJ0_checkBoundsBeginEnd_23922_0 : decode cJ0_checkBoundsBeginEnd_23922 0 = .ok (.iload_n 0, 1) := by decide +kernel
theorem dJ0_checkBoundsBeginEnd_23922_1 : decode cJ0_checkBoundsBeginEnd_23922 1 = .ok (.iload_n 1, 1) := by decide +kernel
theorem dJ0_checkBoundsBeginEnd_23922_2 : decode cJ0_checkBoundsBeginEnd_23922 2 = .ok (.iload_n 2, 1) := by decide +kernel
theorem dJ0_checkBoundsBeginEnd_23922_3 : decode cJ0_checkBoundsBeginEnd_23922 3 = .ok (.getstatic 1053, 3) := by decide +kernel
theorem dJ0_checkBoundsBeginEnd_23922_6 : decode cJ0_checkBoundsBeginEnd_23922 6 = .ok (.invokestatic 1062, 3) := by decide +kernel
theorem dJ0_checkBoundsBeginEnd_23922_9 : decode cJ0_checkBoundsBeginEnd_23922 9 = .ok (.pop, 1) := by decide +kernel
theorem dJ0_checkBoundsBeginEnd_23922_10 : decode cJ0_checkBoundsBeginEnd_23922 10 = .ok (.return_, 1) := by decide +kernel
theorem dJ1_canEncode_9a6ad_0 : decode cJ1_canEncode_9a6ad 0 = .ok (.iload_n 0, 1) := by decide +kernel
theorem dJ1_canEncode_9a6ad_1 : decode cJ1_canEncode_9a6ad 1 = .ok (.ifCond .lt 14, 3) := by decide +kernel
theorem dJ1_canEncode_9a6ad_4 : decode cJ1_canEncode_9a6ad 4 = .ok (.iload_n 0, 1) := by decide +kernel
theorem dJ1_canEncode_9a6ad_5 : decode cJ1_canEncode_9a6ad 5 = .ok (.sipush 255, 3) := by decide +kernel
theorem dJ1_canEncode_9a6ad_8 : decode cJ1_canEncode_9a6ad 8 = .ok (.if_icmp .gt 7, 3) := by decide +kernel
theorem dJ1_canEncode_9a6ad_11 : decode cJ1_canEncode_9a6ad 11 = .ok (.iconst 1, 1) := by decide +kernel
theorem dJ1_canEncode_9a6ad_12 : decode cJ1_canEncode_9a6ad 12 = .ok (.goto 4, 3) := by decide +kernel
theorem dJ1_canEncode_9a6ad_15 : decode cJ1_canEncode_9a6ad 15 = .ok (.iconst 0, 1) := by decide +kernel
theorem dJ1_canEncode_9a6ad_16 : decode cJ1_canEncode_9a6ad 16 = .ok (.ireturn, 1) := by decide +kernel
theorem dJ1_indexOf_4cfef_0 : decode cJ1_indexOf_4cfef 0 = .ok (.iload_n 1, 1) := by decide +kernel
theorem dJ1_indexOf_4cfef_1 : decode cJ1_indexOf_4cfef 1 = .ok (.invokestatic 88, 3) := by decide +kernel
theorem dJ1_indexOf_4cfef_4 : decode cJ1_indexOf_4cfef 4 = .ok (.ifCond .ne 5, 3) := by decide +kernel
theorem dJ1_indexOf_4cfef_7 : decode cJ1_indexOf_4cfef 7 = .ok (.iconst (-1), 1) := by decide +kernel
theorem dJ1_indexOf_4cfef_8 : decode cJ1_indexOf_4cfef 8 = .ok (.ireturn, 1) := by decide +kernel
theorem dJ1_indexOf_4cfef_9 : decode cJ1_indexOf_4cfef 9 = .ok (.iload_n 2, 1) := by decide +kernel
theorem dJ1_indexOf_4cfef_10 : decode cJ1_indexOf_4cfef 10 = .ok (.iconst 0, 1) := by decide +kernel
theorem dJ1_indexOf_4cfef_11 : decode cJ1_indexOf_4cfef 11 = .ok (.invokestatic 92, 3) := by decide +kernel
theorem dJ1_indexOf_4cfef_14 : decode cJ1_indexOf_4cfef 14 = .ok (.istore_n 2, 1) := by decide +kernel
theorem dJ1_indexOf_4cfef_15 : decode cJ1_indexOf_4cfef 15 = .ok (.iload_n 3, 1) := by decide +kernel
theorem dJ1_indexOf_4cfef_16 : decode cJ1_indexOf_4cfef 16 = .ok (.aload_n 0, 1) := by decide +kernel
theorem dJ1_indexOf_4cfef_17 : decode cJ1_indexOf_4cfef 17 = .ok (.arraylength, 1) := by decide +kernel
theorem dJ1_indexOf_4cfef_18 : decode cJ1_indexOf_4cfef 18 = .ok (.invokestatic 38, 3) := by decide +kernel
theorem dJ1_indexOf_4cfef_21 : decode cJ1_indexOf_4cfef 21 = .ok (.istore_n 3, 1) := by decide +kernel
theorem dJ1_indexOf_4cfef_22 : decode cJ1_indexOf_4cfef 22 = .ok (.iload_n 2, 1) := by decide +kernel
theorem dJ1_indexOf_4cfef_23 : decode cJ1_indexOf_4cfef 23 = .ok (.iload_n 3, 1) := by decide +kernel
theorem dJ1_indexOf_4cfef_24 : decode cJ1_indexOf_4cfef 24 = .ok (.if_icmp .lt 5, 3) := by decide +kernel
theorem dJ1_indexOf_4cfef_27 : decode cJ1_indexOf_4cfef 27 = .ok (.iconst (-1), 1) := by decide +kernel
theorem dJ1_indexOf_4cfef_28 : decode cJ1_indexOf_4cfef 28 = .ok (.ireturn, 1) := by decide +kernel
theorem dJ1_indexOf_4cfef_29 : decode cJ1_indexOf_4cfef 29 = .ok (.aload_n 0, 1) := by decide +kernel
theorem dJ1_indexOf_4cfef_30 : decode cJ1_indexOf_4cfef 30 = .ok (.iload_n 1, 1) := by decide +kernel
theorem dJ1_indexOf_4cfef_31 : decode cJ1_indexOf_4cfef 31 = .ok (.iload_n 2, 1) := by decide +kernel
theorem dJ1_indexOf_4cfef_32 : decode cJ1_indexOf_4cfef 32 = .ok (.iload_n 3, 1) := by decide +kernel
theorem dJ1_indexOf_4cfef_33 : decode cJ1_indexOf_4cfef 33 = .ok (.invokestatic 95, 3) := by decide +kernel
theorem dJ1_indexOf_4cfef_36 : decode cJ1_indexOf_4cfef 36 = .ok (.ireturn, 1) := by decide +kernel
theorem dJ1_indexOfChar_4cfef_0 : decode cJ1_indexOfChar_4cfef 0 = .ok (.iload_n 1, 1) := by decide +kernel
theorem dJ1_indexOfChar_4cfef_1 : decode cJ1_indexOfChar_4cfef 1 = .ok (.i2b, 1) := by decide +kernel
theorem dJ1_indexOfChar_4cfef_2 : decode cJ1_indexOfChar_4cfef 2 = .ok (.istore 4, 2) := by decide +kernel
theorem dJ1_indexOfChar_4cfef_4 : decode cJ1_indexOfChar_4cfef 4 = .ok (.iload_n 2, 1) := by decide +kernel
theorem dJ1_indexOfChar_4cfef_5 : decode cJ1_indexOfChar_4cfef 5 = .ok (.istore 5, 2) := by decide +kernel
theorem dJ1_indexOfChar_4cfef_7 : decode cJ1_indexOfChar_4cfef 7 = .ok (.iload 5, 2) := by decide +kernel
theorem dJ1_indexOfChar_4cfef_9 : decode cJ1_indexOfChar_4cfef 9 = .ok (.iload_n 3, 1) := by decide +kernel
theorem dJ1_indexOfChar_4cfef_10 : decode cJ1_indexOfChar_4cfef 10 = .ok (.if_icmp .ge 21, 3) := by decide +kernel
theorem dJ1_indexOfChar_4cfef_13 : decode cJ1_indexOfChar_4cfef 13 = .ok (.aload_n 0, 1) := by decide +kernel
theorem dJ1_indexOfChar_4cfef_14 : decode cJ1_indexOfChar_4cfef 14 = .ok (.iload 5, 2) := by decide +kernel
theorem dJ1_indexOfChar_4cfef_16 : decode cJ1_indexOfChar_4cfef 16 = .ok (.baload, 1) := by decide +kernel
theorem dJ1_indexOfChar_4cfef_17 : decode cJ1_indexOfChar_4cfef 17 = .ok (.iload 4, 2) := by decide +kernel
theorem dJ1_indexOfChar_4cfef_19 : decode cJ1_indexOfChar_4cfef 19 = .ok (.if_icmp .ne 6, 3) := by decide +kernel
theorem dJ1_indexOfChar_4cfef_22 : decode cJ1_indexOfChar_4cfef 22 = .ok (.iload 5, 2) := by decide +kernel
theorem dJ1_indexOfChar_4cfef_24 : decode cJ1_indexOfChar_4cfef 24 = .ok (.ireturn, 1) := by decide +kernel
theorem dJ1_indexOfChar_4cfef_25 : decode cJ1_indexOfChar_4cfef 25 = .ok (.iinc 5 1, 3) := by decide +kernel
theorem dJ1_indexOfChar_4cfef_28 : decode cJ1_indexOfChar_4cfef 28 = .ok (.goto (-21), 3) := by decide +kernel
theorem dJ1_indexOfChar_4cfef_31 : decode cJ1_indexOfChar_4cfef 31 = .ok (.iconst (-1), 1) := by decide +kernel
theorem dJ1_indexOfChar_4cfef_32 : decode cJ1_indexOfChar_4cfef 32 = .ok (.ireturn, 1) := by decide +kernel
theorem dJ2_getChar_3b067_0 : decode cJ2_getChar_3b067 0 = .ok (.getstatic 44, 3) := by decide +kernel
theorem dJ2_getChar_3b067_3 : decode cJ2_getChar_3b067 3 = .ok (.ifCond .ne 25, 3) := by decide +kernel
theorem dJ2_getChar_3b067_6 : decode cJ2_getChar_3b067 6 = .ok (.iload_n 1, 1) := by decide +kernel
theorem dJ2_getChar_3b067_7 : decode cJ2_getChar_3b067 7 = .ok (.ifCond .lt 11, 3) := by decide +kernel
theorem dJ2_getChar_3b067_10 : decode cJ2_getChar_3b067 10 = .ok (.iload_n 1, 1) := by decide +kernel
theorem dJ2_getChar_3b067_11 : decode cJ2_getChar_3b067 11 = .ok (.aload_n 0, 1) := by decide +kernel
theorem dJ2_getChar_3b067_12 : decode cJ2_getChar_3b067 12 = .ok (.invokestatic 48, 3) := by decide +kernel
theorem dJ2_getChar_3b067_15 : decode cJ2_getChar_3b067 15 = .ok (.if_icmp .lt 13, 3) := by decide +kernel
theorem dJ2_getChar_3b067_18 : decode cJ2_getChar_3b067 18 = .ok (.new 52, 3) := by decide +kernel
theorem dJ2_getChar_3b067_21 : decode cJ2_getChar_3b067 21 = .ok (.dup, 1) := by decide +kernel
theorem dJ2_getChar_3b067_22 : decode cJ2_getChar_3b067 22 = .ok (.ldc 54, 2) := by decide +kernel
theorem dJ2_getChar_3b067_24 : decode cJ2_getChar_3b067 24 = .ok (.invokespecial 56, 3) := by decide +kernel
theorem dJ2_getChar_3b067_27 : decode cJ2_getChar_3b067 27 = .ok (.athrow, 1) := by decide +kernel
theorem dJ2_getChar_3b067_28 : decode cJ2_getChar_3b067 28 = .ok (.iload_n 1, 1) := by decide +kernel
theorem dJ2_getChar_3b067_29 : decode cJ2_getChar_3b067 29 = .ok (.iconst 1, 1) := by decide +kernel
theorem dJ2_getChar_3b067_30 : decode cJ2_getChar_3b067 30 = .ok (.ishl, 1) := by decide +kernel
theorem dJ2_getChar_3b067_31 : decode cJ2_getChar_3b067 31 = .ok (.istore_n 1, 1) := by decide +kernel
theorem dJ2_getChar_3b067_32 : decode cJ2_getChar_3b067 32 = .ok (.aload_n 0, 1) := by decide +kernel
theorem dJ2_getChar_3b067_33 : decode cJ2_getChar_3b067 33 = .ok (.iload_n 1, 1) := by decide +kernel
theorem dJ2_getChar_3b067_34 : decode cJ2_getChar_3b067 34 = .ok (.iinc 1 1, 3) := by decide +kernel
theorem dJ2_getChar_3b067_37 : decode cJ2_getChar_3b067 37 = .ok (.baload, 1) := by decide +kernel
theorem dJ2_getChar_3b067_38 : decode cJ2_getChar_3b067 38 = .ok (.sipush 255, 3) := by decide +kernel
theorem dJ2_getChar_3b067_41 : decode cJ2_getChar_3b067 41 = .ok (.iand, 1) := by decide +kernel
theorem dJ2_getChar_3b067_42 : decode cJ2_getChar_3b067 42 = .ok (.getstatic 59, 3) := by decide +kernel
theorem dJ2_getChar_3b067_45 : decode cJ2_getChar_3b067 45 = .ok (.ishl, 1) := by decide +kernel
theorem dJ2_getChar_3b067_46 : decode cJ2_getChar_3b067 46 = .ok (.aload_n 0, 1) := by decide +kernel
theorem dJ2_getChar_3b067_47 : decode cJ2_getChar_3b067 47 = .ok (.iload_n 1, 1) := by decide +kernel
theorem dJ2_getChar_3b067_48 : decode cJ2_getChar_3b067 48 = .ok (.baload, 1) := by decide +kernel
theorem dJ2_getChar_3b067_49 : decode cJ2_getChar_3b067 49 = .ok (.sipush 255, 3) := by decide +kernel
theorem dJ2_getChar_3b067_52 : decode cJ2_getChar_3b067 52 = .ok (.iand, 1) := by decide +kernel
theorem dJ2_getChar_3b067_53 : decode cJ2_getChar_3b067 53 = .ok (.getstatic 63, 3) := by decide +kernel
theorem dJ2_getChar_3b067_56 : decode cJ2_getChar_3b067 56 = .ok (.ishl, 1) := by decide +kernel
theorem dJ2_getChar_3b067_57 : decode cJ2_getChar_3b067 57 = .ok (.ior, 1) := by decide +kernel
theorem dJ2_getChar_3b067_58 : decode cJ2_getChar_3b067 58 = .ok (.i2c, 1) := by decide +kernel
theorem dJ2_getChar_3b067_59 : decode cJ2_getChar_3b067 59 = .ok (.ireturn, 1) := by decide +kernel
theorem dJ2_length_9d52b_0 : decode cJ2_length_9d52b 0 = .ok (.aload_n 0, 1) := by decide +kernel
theorem dJ2_length_9d52b_1 : decode cJ2_length_9d52b 1 = .ok (.arraylength, 1) := by decide +kernel
theorem dJ2_length_9d52b_2 : decode cJ2_length_9d52b 2 = .ok (.iconst 1, 1) := by decide +kernel
theorem dJ2_length_9d52b_3 : decode cJ2_length_9d52b 3 = .ok (.ishr, 1) := by decide +kernel
theorem dJ2_length_9d52b_4 : decode cJ2_length_9d52b 4 = .ok (.ireturn, 1) := by decide +kernel
theorem dJ2_indexOf_4cfef_0 : decode cJ2_indexOf_4cfef 0 = .ok (.iload_n 2, 1) := by decide +kernel
theorem dJ2_indexOf_4cfef_1 : decode cJ2_indexOf_4cfef 1 = .ok (.iconst 0, 1) := by decide +kernel
theorem dJ2_indexOf_4cfef_2 : decode cJ2_indexOf_4cfef 2 = .ok (.invokestatic 224, 3) := by decide +kernel
theorem dJ2_indexOf_4cfef_5 : decode cJ2_indexOf_4cfef 5 = .ok (.istore_n 2, 1) := by decide +kernel
theorem dJ2_indexOf_4cfef_6 : decode cJ2_indexOf_4cfef 6 = .ok (.iload_n 3, 1) := by decide +kernel
theorem dJ2_indexOf_4cfef_7 : decode cJ2_indexOf_4cfef 7 = .ok (.aload_n 0, 1) := by decide +kernel
theorem dJ2_indexOf_4cfef_8 : decode cJ2_indexOf_4cfef 8 = .ok (.arraylength, 1) := by decide +kernel
theorem dJ2_indexOf_4cfef_9 : decode cJ2_indexOf_4cfef 9 = .ok (.iconst 1, 1) := by decide +kernel
theorem dJ2_indexOf_4cfef_10 : decode cJ2_indexOf_4cfef 10 = .ok (.ishr, 1) := by decide +kernel
theorem dJ2_indexOf_4cfef_11 : decode cJ2_indexOf_4cfef 11 = .ok (.invokestatic 183, 3) := by decide +kernel
theorem dJ2_indexOf_4cfef_14 : decode cJ2_indexOf_4cfef 14 = .ok (.istore_n 3, 1) := by decide +kernel
theorem dJ2_indexOf_4cfef_15 : decode cJ2_indexOf_4cfef 15 = .ok (.iload_n 2, 1) := by decide +kernel
theorem dJ2_indexOf_4cfef_16 : decode cJ2_indexOf_4cfef 16 = .ok (.iload_n 3, 1) := by decide +kernel
theorem dJ2_indexOf_4cfef_17 : decode cJ2_indexOf_4cfef 17 = .ok (.if_icmp .lt 5, 3) := by decide +kernel
theorem dJ2_indexOf_4cfef_20 : decode cJ2_indexOf_4cfef 20 = .ok (.iconst (-1), 1) := by decide +kernel
theorem dJ2_indexOf_4cfef_21 : decode cJ2_indexOf_4cfef 21 = .ok (.ireturn, 1) := by decide +kernel
theorem dJ2_indexOf_4cfef_22 : decode cJ2_indexOf_4cfef 22 = .ok (.iload_n 1, 1) := by decide +kernel
theorem dJ2_indexOf_4cfef_23 : decode cJ2_indexOf_4cfef 23 = .ok (.ldc 227, 2) := by decide +kernel
theorem dJ2_indexOf_4cfef_25 : decode cJ2_indexOf_4cfef 25 = .ok (.if_icmp .ge 11, 3) := by decide +kernel
theorem dJ2_indexOf_4cfef_28 : decode cJ2_indexOf_4cfef 28 = .ok (.aload_n 0, 1) := by decide +kernel
theorem dJ2_indexOf_4cfef_29 : decode cJ2_indexOf_4cfef 29 = .ok (.iload_n 1, 1) := by decide +kernel
theorem dJ2_indexOf_4cfef_30 : decode cJ2_indexOf_4cfef 30 = .ok (.iload_n 2, 1) := by decide +kernel
theorem dJ2_indexOf_4cfef_31 : decode cJ2_indexOf_4cfef 31 = .ok (.iload_n 3, 1) := by decide +kernel
theorem dJ2_indexOf_4cfef_32 : decode cJ2_indexOf_4cfef 32 = .ok (.invokestatic 228, 3) := by decide +kernel
theorem dJ2_indexOf_4cfef_35 : decode cJ2_indexOf_4cfef 35 = .ok (.ireturn, 1) := by decide +kernel
theorem dJ2_indexOf_4cfef_36 : decode cJ2_indexOf_4cfef 36 = .ok (.aload_n 0, 1) := by decide +kernel
theorem dJ2_indexOf_4cfef_37 : decode cJ2_indexOf_4cfef 37 = .ok (.iload_n 1, 1) := by decide +kernel
theorem dJ2_indexOf_4cfef_38 : decode cJ2_indexOf_4cfef 38 = .ok (.iload_n 2, 1) := by decide +kernel
theorem dJ2_indexOf_4cfef_39 : decode cJ2_indexOf_4cfef 39 = .ok (.iload_n 3, 1) := by decide +kernel
theorem dJ2_indexOf_4cfef_40 : decode cJ2_indexOf_4cfef 40 = .ok (.invokestatic 232, 3) := by decide +kernel
theorem dJ2_indexOf_4cfef_43 : decode cJ2_indexOf_4cfef 43 = .ok (.ireturn, 1) := by decide +kernel
theorem dJ2_indexOfChar_4cfef_0 : decode cJ2_indexOfChar_4cfef 0 = .ok (.iload_n 2, 1) := by decide +kernel
theorem dJ2_indexOfChar_4cfef_1 : decode cJ2_indexOfChar_4cfef 1 = .ok (.iload_n 3, 1) := by decide +kernel
theorem dJ2_indexOfChar_4cfef_2 : decode cJ2_indexOfChar_4cfef 2 = .ok (.aload_n 0, 1) := by decide +kernel
theorem dJ2_indexOfChar_4cfef_3 : decode cJ2_indexOfChar_4cfef 3 = .ok (.invokestatic 96, 3) := by decide +kernel
theorem dJ2_indexOfChar_4cfef_6 : decode cJ2_indexOfChar_4cfef 6 = .ok (.aload_n 0, 1) := by decide +kernel
theorem dJ2_indexOfChar_4cfef_7 : decode cJ2_indexOfChar_4cfef 7 = .ok (.iload_n 1, 1) := by decide +kernel
theorem dJ2_indexOfChar_4cfef_8 : decode cJ2_indexOfChar_4cfef 8 = .ok (.iload_n 2, 1) := by decide +kernel
theorem dJ2_indexOfChar_4cfef_9 : decode cJ2_indexOfChar_4cfef 9 = .ok (.iload_n 3, 1) := by decide +kernel
theorem dJ2_indexOfChar_4cfef_10 : decode cJ2_indexOfChar_4cfef 10 = .ok (.invokestatic 244, 3) := by decide +kernel
theorem dJ2_indexOfChar_4cfef_13 : decode cJ2_indexOfChar_4cfef 13 = .ok (.ireturn, 1) := by decide +kernel
theorem dJ2_indexOfCharUnsafe_4cfef_0 : decode cJ2_indexOfCharUnsafe_4cfef 0 = .ok (.iload_n 2, 1) := by decide +kernel
theorem dJ2_indexOfCharUnsafe_4cfef_1 : decode cJ2_indexOfCharUnsafe_4cfef 1 = .ok (.istore 4, 2) := by decide +kernel
theorem dJ2_indexOfCharUnsafe_4cfef_3 : decode cJ2_indexOfCharUnsafe_4cfef 3 = .ok (.iload 4, 2) := by decide +kernel
theorem dJ2_indexOfCharUnsafe_4cfef_5 : decode cJ2_indexOfCharUnsafe_4cfef 5 = .ok (.iload_n 3, 1) := by decide +kernel
theorem dJ2_indexOfCharUnsafe_4cfef_6 : decode cJ2_indexOfCharUnsafe_4cfef 6 = .ok (.if_icmp .ge 22, 3) := by decide +kernel
theorem dJ2_indexOfCharUnsafe_4cfef_9 : decode cJ2_indexOfCharUnsafe_4cfef 9 = .ok (.aload_n 0, 1) := by decide +kernel
theorem dJ2_indexOfCharUnsafe_4cfef_10 : decode cJ2_indexOfCharUnsafe_4cfef 10 = .ok (.iload 4, 2) := by decide +kernel
theorem dJ2_indexOfCharUnsafe_4cfef_12 : decode cJ2_indexOfCharUnsafe_4cfef 12 = .ok (.invokestatic 71, 3) := by decide +kernel
theorem dJ2_indexOfCharUnsafe_4cfef_15 : decode cJ2_indexOfCharUnsafe_4cfef 15 = .ok (.iload_n 1, 1) := by decide +kernel
theorem dJ2_indexOfCharUnsafe_4cfef_16 : decode cJ2_indexOfCharUnsafe_4cfef 16 = .ok (.if_icmp .ne 6, 3) := by decide +kernel
theorem dJ2_indexOfCharUnsafe_4cfef_19 : decode cJ2_indexOfCharUnsafe_4cfef 19 = .ok (.iload 4, 2) := by decide +kernel
theorem dJ2_indexOfCharUnsafe_4cfef_21 : decode cJ2_indexOfCharUnsafe_4cfef 21 = .ok (.ireturn, 1) := by decide +kernel
theorem dJ2_indexOfCharUnsafe_4cfef_22 : decode cJ2_indexOfCharUnsafe_4cfef 22 = .ok (.iinc 4 1, 3) := by decide +kernel
theorem dJ2_indexOfCharUnsafe_4cfef_25 : decode cJ2_indexOfCharUnsafe_4cfef 25 = .ok (.goto (-22), 3) := by decide +kernel
theorem dJ2_indexOfCharUnsafe_4cfef_28 : decode cJ2_indexOfCharUnsafe_4cfef 28 = .ok (.iconst (-1), 1) := by decide +kernel
theorem dJ2_indexOfCharUnsafe_4cfef_29 : decode cJ2_indexOfCharUnsafe_4cfef 29 = .ok (.ireturn, 1) := by decide +kernel
theorem dJ2_indexOfSupplementary_4cfef_0 : decode cJ2_indexOfSupplementary_4cfef 0 = .ok (.iload_n 1, 1) := by decide +kernel
theorem dJ2_indexOfSupplementary_4cfef_1 : decode cJ2_indexOfSupplementary_4cfef 1 = .ok (.invokestatic 164, 3) := by decide +kernel
theorem dJ2_indexOfSupplementary_4cfef_4 : decode cJ2_indexOfSupplementary_4cfef 4 = .ok (.ifCond .eq 65, 3) := by decide +kernel
theorem dJ2_indexOfSupplementary_4cfef_7 : decode cJ2_indexOfSupplementary_4cfef 7 = .ok (.iload_n 1, 1) := by decide +kernel
theorem dJ2_indexOfSupplementary_4cfef_8 : decode cJ2_indexOfSupplementary_4cfef 8 = .ok (.invokestatic 157, 3) := by decide +kernel
theorem dJ2_indexOfSupplementary_4cfef_11 : decode cJ2_indexOfSupplementary_4cfef 11 = .ok (.istore 4, 2) := by decide +kernel
theorem dJ2_indexOfSupplementary_4cfef_13 : decode cJ2_indexOfSupplementary_4cfef 13 = .ok (.iload_n 1, 1) := by decide +kernel
theorem dJ2_indexOfSupplementary_4cfef_14 : decode cJ2_indexOfSupplementary_4cfef 14 = .ok (.invokestatic 161, 3) := by decide +kernel
theorem dJ2_indexOfSupplementary_4cfef_17 : decode cJ2_indexOfSupplementary_4cfef 17 = .ok (.istore 5, 2) := by decide +kernel
theorem dJ2_indexOfSupplementary_4cfef_19 : decode cJ2_indexOfSupplementary_4cfef 19 = .ok (.iload_n 2, 1) := by decide +kernel
theorem dJ2_indexOfSupplementary_4cfef_20 : decode cJ2_indexOfSupplementary_4cfef 20 = .ok (.iload_n 3, 1) := by decide +kernel
theorem dJ2_indexOfSupplementary_4cfef_21 : decode cJ2_indexOfSupplementary_4cfef 21 = .ok (.aload_n 0, 1) := by decide +kernel
theorem dJ2_indexOfSupplementary_4cfef_22 : decode cJ2_indexOfSupplementary_4cfef 22 = .ok (.invokestatic 96, 3) := by decide +kernel
theorem dJ2_indexOfSupplementary_4cfef_25 : decode cJ2_indexOfSupplementary_4cfef 25 = .ok (.iload_n 2, 1) := by decide +kernel
theorem dJ2_indexOfSupplementary_4cfef_26 : decode cJ2_indexOfSupplementary_4cfef 26 = .ok (.istore 6, 2) := by decide +kernel
theorem dJ2_indexOfSupplementary_4cfef_28 : decode cJ2_indexOfSupplementary_4cfef 28 = .ok (.iload 6, 2) := by decide +kernel
theorem dJ2_indexOfSupplementary_4cfef_30 : decode cJ2_indexOfSupplementary_4cfef 30 = .ok (.iload_n 3, 1) := by decide +kernel
theorem dJ2_indexOfSupplementary_4cfef_31 : decode cJ2_indexOfSupplementary_4cfef 31 = .ok (.iconst 1, 1) := by decide +kernel
theorem dJ2_indexOfSupplementary_4cfef_32 : decode cJ2_indexOfSupplementary_4cfef 32 = .ok (.isub, 1) := by decide +kernel
theorem dJ2_indexOfSupplementary_4cfef_33 : decode cJ2_indexOfSupplementary_4cfef 33 = .ok (.if_icmp .ge 36, 3) := by decide +kernel
theorem dJ2_indexOfSupplementary_4cfef_36 : decode cJ2_indexOfSupplementary_4cfef 36 = .ok (.aload_n 0, 1) := by decide +kernel
theorem dJ2_indexOfSupplementary_4cfef_37 : decode cJ2_indexOfSupplementary_4cfef 37 = .ok (.iload 6, 2) := by decide +kernel
theorem dJ2_indexOfSupplementary_4cfef_39 : decode cJ2_indexOfSupplementary_4cfef 39 = .ok (.invokestatic 71, 3) := by decide +kernel
theorem dJ2_indexOfSupplementary_4cfef_42 : decode cJ2_indexOfSupplementary_4cfef 42 = .ok (.iload 4, 2) := by decide +kernel
theorem dJ2_indexOfSupplementary_4cfef_44 : decode cJ2_indexOfSupplementary_4cfef 44 = .ok (.if_icmp .ne 19, 3) := by decide +kernel
theorem dJ2_indexOfSupplementary_4cfef_47 : decode cJ2_indexOfSupplementary_4cfef 47 = .ok (.aload_n 0, 1) := by decide +kernel
theorem dJ2_indexOfSupplementary_4cfef_48 : decode cJ2_indexOfSupplementary_4cfef 48 = .ok (.iload 6, 2) := by decide +kernel
theorem dJ2_indexOfSupplementary_4cfef_50 : decode cJ2_indexOfSupplementary_4cfef 50 = .ok (.iconst 1, 1) := by decide +kernel
theorem dJ2_indexOfSupplementary_4cfef_51 : decode cJ2_indexOfSupplementary_4cfef 51 = .ok (.iadd, 1) := by decide +kernel
theorem dJ2_indexOfSupplementary_4cfef_52 : decode cJ2_indexOfSupplementary_4cfef 52 = .ok (.invokestatic 71, 3) := by decide +kernel
theorem dJ2_indexOfSupplementary_4cfef_55 : decode cJ2_indexOfSupplementary_4cfef 55 = .ok (.iload 5, 2) := by decide +kernel
theorem dJ2_indexOfSupplementary_4cfef_57 : decode cJ2_indexOfSupplementary_4cfef 57 = .ok (.if_icmp .ne 6, 3) := by decide +kernel
theorem dJ2_indexOfSupplementary_4cfef_60 : decode cJ2_indexOfSupplementary_4cfef 60 = .ok (.iload 6, 2) := by decide +kernel
theorem dJ2_indexOfSupplementary_4cfef_62 : decode cJ2_indexOfSupplementary_4cfef 62 = .ok (.ireturn, 1) := by decide +kernel
theorem dJ2_indexOfSupplementary_4cfef_63 : decode cJ2_indexOfSupplementary_4cfef 63 = .ok (.iinc 6 1, 3) := by decide +kernel
theorem dJ2_indexOfSupplementary_4cfef_66 : decode cJ2_indexOfSupplementary_4cfef 66 = .ok (.goto (-38), 3) := by decide +kernel
theorem dJ2_indexOfSupplementary_4cfef_69 : decode cJ2_indexOfSupplementary_4cfef 69 = .ok (.iconst (-1), 1) := by decide +kernel
theorem dJ2_indexOfSupplementary_4cfef_70 : decode cJ2_indexOfSupplementary_4cfef 70 = .ok (.ireturn, 1) := by decide +kernel
theorem dJ2_checkBoundsBeginEnd_d044e_0 : decode cJ2_checkBoundsBeginEnd_d044e 0 = .ok (.iload_n 0, 1) := by decide +kernel
theorem dJ2_checkBoundsBeginEnd_d044e_1 : decode cJ2_checkBoundsBeginEnd_d044e 1 = .ok (.iload_n 1, 1) := by decide +kernel
theorem dJ2_checkBoundsBeginEnd_d044e_2 : decode cJ2_checkBoundsBeginEnd_d044e 2 = .ok (.aload_n 2, 1) := by decide +kernel
theorem dJ2_checkBoundsBeginEnd_d044e_3 : decode cJ2_checkBoundsBeginEnd_d044e 3 = .ok (.invokestatic 48, 3) := by decide +kernel
theorem dJ2_checkBoundsBeginEnd_d044e_6 : decode cJ2_checkBoundsBeginEnd_d044e 6 = .ok (.invokestatic 241, 3) := by decide +kernel
theorem dJ2_checkBoundsBeginEnd_d044e_9 : decode cJ2_checkBoundsBeginEnd_d044e 9 = .ok (.return_, 1) := by decide +kernel
theorem dJ3_checkFromToIndex_8c36e_0 : decode cJ3_checkFromToIndex_8c36e 0 = .ok (.iload_n 0, 1) := by decide +kernel
theorem dJ3_checkFromToIndex_8c36e_1 : decode cJ3_checkFromToIndex_8c36e 1 = .ok (.ifCond .lt 13, 3) := by decide +kernel
theorem dJ3_checkFromToIndex_8c36e_4 : decode cJ3_checkFromToIndex_8c36e 4 = .ok (.iload_n 0, 1) := by decide +kernel
theorem dJ3_checkFromToIndex_8c36e_5 : decode cJ3_checkFromToIndex_8c36e 5 = .ok (.iload_n 1, 1) := by decide +kernel
theorem dJ3_checkFromToIndex_8c36e_6 : decode cJ3_checkFromToIndex_8c36e 6 = .ok (.if_icmp .gt 8, 3) := by decide +kernel
theorem dJ3_checkFromToIndex_8c36e_9 : decode cJ3_checkFromToIndex_8c36e 9 = .ok (.iload_n 1, 1) := by decide +kernel
theorem dJ3_checkFromToIndex_8c36e_10 : decode cJ3_checkFromToIndex_8c36e 10 = .ok (.iload_n 2, 1) := by decide +kernel
theorem dJ3_checkFromToIndex_8c36e_11 : decode cJ3_checkFromToIndex_8c36e 11 = .ok (.if_icmp .le 11, 3) := by decide +kernel
theorem dJ3_checkFromToIndex_8c36e_14 : decode cJ3_checkFromToIndex_8c36e 14 = .ok (.aload_n 3, 1) := by decide +kernel
theorem dJ3_checkFromToIndex_8c36e_15 : decode cJ3_checkFromToIndex_8c36e 15 = .ok (.iload_n 0, 1) := by decide +kernel
theorem dJ3_checkFromToIndex_8c36e_16 : decode cJ3_checkFromToIndex_8c36e 16 = .ok (.iload_n 1, 1) := by decide +kernel
theorem dJ3_checkFromToIndex_8c36e_17 : decode cJ3_checkFromToIndex_8c36e 17 = .ok (.iload_n 2, 1) := by decide +kernel
theorem dJ3_checkFromToIndex_8c36e_18 : decode cJ3_checkFromToIndex_8c36e 18 = .ok (.invokestatic 99, 3) := by decide +kernel
theorem dJ3_checkFromToIndex_8c36e_21 : decode cJ3_checkFromToIndex_8c36e 21 = .ok (.athrow, 1) := by decide +kernel
theorem dJ3_checkFromToIndex_8c36e_22 : decode cJ3_checkFromToIndex_8c36e 22 = .ok (.iload_n 0, 1) := by decide +kernel
theorem dJ3_checkFromToIndex_8c36e_23 : decode cJ3_checkFromToIndex_8c36e 23 = .ok (.ireturn, 1) := by decide +kernel
theorem dL_law_0 : decode cL_law 0 = .ok (.new 7, 3) := by decide +kernel
theorem dL_law_3 : decode cL_law 3 = .ok (.dup, 1) := by decide +kernel
theorem dL_law_4 : decode cL_law 4 = .ok (.invokespecial 9, 3) := by decide +kernel
theorem dL_law_7 : decode cL_law 7 = .ok (.astore_n 1, 1) := by decide +kernel
theorem dL_law_8 : decode cL_law 8 = .ok (.new 10, 3) := by decide +kernel
theorem dL_law_11 : decode cL_law 11 = .ok (.dup, 1) := by decide +kernel
theorem dL_law_12 : decode cL_law 12 = .ok (.invokespecial 12, 3) := by decide +kernel
theorem dL_law_15 : decode cL_law 15 = .ok (.astore_n 2, 1) := by decide +kernel
theorem dL_law_16 : decode cL_law 16 = .ok (.iconst 0, 1) := by decide +kernel
theorem dL_law_17 : decode cL_law 17 = .ok (.istore_n 3, 1) := by decide +kernel
theorem dL_law_18 : decode cL_law 18 = .ok (.iload_n 3, 1) := by decide +kernel
theorem dL_law_19 : decode cL_law 19 = .ok (.aload_n 0, 1) := by decide +kernel
theorem dL_law_20 : decode cL_law 20 = .ok (.arraylength, 1) := by decide +kernel
theorem dL_law_21 : decode cL_law 21 = .ok (.bipush 6, 2) := by decide +kernel
theorem dL_law_23 : decode cL_law 23 = .ok (.isub, 1) := by decide +kernel
theorem dL_law_24 : decode cL_law 24 = .ok (.if_icmp .gt 1373, 3) := by decide +kernel
theorem dL_law_27 : decode cL_law 27 = .ok (.aload_n 0, 1) := by decide +kernel
theorem dL_law_28 : decode cL_law 28 = .ok (.iload_n 3, 1) := by decide +kernel
theorem dL_law_29 : decode cL_law 29 = .ok (.iaload, 1) := by decide +kernel
theorem dL_law_30 : decode cL_law 30 = .ok (.bipush 63, 2) := by decide +kernel
theorem dL_law_32 : decode cL_law 32 = .ok (.iand, 1) := by decide +kernel
theorem dL_law_33 : decode cL_law 33 = .ok (.tableswitch 1358 0 35 #[159, 192, 235, 258, 301, 344, 377, 420, 453, 466, 489, 542, 575, 598, 631, 654, 697, 710, 743, 776, 819, 862, 885, 918, 941, 954, 967, 990, 1033, 1056, 1089, 1132, 1205, 1239, 1302, 1335], 159) := by decide +kernel
theorem dL_law_192 : decode cL_law 192 = .ok (.aload_n 1, 1) := by decide +kernel
theorem dL_law_193 : decode cL_law 193 = .ok (.aload_n 0, 1) := by decide +kernel
theorem dL_law_194 : decode cL_law 194 = .ok (.iload_n 3, 1) := by decide +kernel
theorem dL_law_195 : decode cL_law 195 = .ok (.iconst 1, 1) := by decide +kernel
theorem dL_law_196 : decode cL_law 196 = .ok (.iadd, 1) := by decide +kernel
theorem dL_law_197 : decode cL_law 197 = .ok (.iaload, 1) := by decide +kernel
theorem dL_law_198 : decode cL_law 198 = .ok (.aload_n 0, 1) := by decide +kernel
theorem dL_law_199 : decode cL_law 199 = .ok (.iload_n 3, 1) := by decide +kernel
theorem dL_law_200 : decode cL_law 200 = .ok (.iconst 2, 1) := by decide +kernel
theorem dL_law_201 : decode cL_law 201 = .ok (.iadd, 1) := by decide +kernel
theorem dL_law_202 : decode cL_law 202 = .ok (.iaload, 1) := by decide +kernel
theorem dL_law_203 : decode cL_law 203 = .ok (.invokevirtual 13, 3) := by decide +kernel
theorem dL_law_206 : decode cL_law 206 = .ok (.aload_n 2, 1) := by decide +kernel
theorem dL_law_207 : decode cL_law 207 = .ok (.aload_n 0, 1) := by decide +kernel
theorem dL_law_208 : decode cL_law 208 = .ok (.iload_n 3, 1) := by decide +kernel
theorem dL_law_209 : decode cL_law 209 = .ok (.iconst 1, 1) := by decide +kernel
theorem dL_law_210 : decode cL_law 210 = .ok (.iadd, 1) := by decide +kernel
theorem dL_law_211 : decode cL_law 211 = .ok (.iaload, 1) := by decide +kernel
theorem dL_law_212 : decode cL_law 212 = .ok (.aload_n 0, 1) := by decide +kernel
theorem dL_law_213 : decode cL_law 213 = .ok (.iload_n 3, 1) := by decide +kernel
theorem dL_law_214 : decode cL_law 214 = .ok (.iconst 2, 1) := by decide +kernel
theorem dL_law_215 : decode cL_law 215 = .ok (.iadd, 1) := by decide +kernel
theorem dL_law_216 : decode cL_law 216 = .ok (.iaload, 1) := by decide +kernel
theorem dL_law_217 : decode cL_law 217 = .ok (.invokevirtual 17, 3) := by decide +kernel
theorem dL_law_220 : decode cL_law 220 = .ok (.if_icmp .eq 1171, 3) := by decide +kernel
theorem dL_law_223 : decode cL_law 223 = .ok (.iconst 0, 1) := by decide +kernel
theorem dL_law_224 : decode cL_law 224 = .ok (.ireturn, 1) := by decide +kernel
theorem dL_law_225 : decode cL_law 225 = .ok (.aload_n 1, 1) := by decide +kernel
theorem dL_law_226 : decode cL_law 226 = .ok (.aload_n 0, 1) := by decide +kernel
theorem dL_law_227 : decode cL_law 227 = .ok (.iload_n 3, 1) := by decide +kernel
theorem dL_law_228 : decode cL_law 228 = .ok (.iconst 1, 1) := by decide +kernel
theorem dL_law_229 : decode cL_law 229 = .ok (.iadd, 1) := by decide +kernel
theorem dL_law_230 : decode cL_law 230 = .ok (.iaload, 1) := by decide +kernel
theorem dL_law_231 : decode cL_law 231 = .ok (.aload_n 0, 1) := by decide +kernel
theorem dL_law_232 : decode cL_law 232 = .ok (.iload_n 3, 1) := by decide +kernel
theorem dL_law_233 : decode cL_law 233 = .ok (.iconst 2, 1) := by decide +kernel
theorem dL_law_234 : decode cL_law 234 = .ok (.iadd, 1) := by decide +kernel
theorem dL_law_235 : decode cL_law 235 = .ok (.iaload, 1) := by decide +kernel
theorem dL_law_236 : decode cL_law 236 = .ok (.aload_n 0, 1) := by decide +kernel
theorem dL_law_237 : decode cL_law 237 = .ok (.iload_n 3, 1) := by decide +kernel
theorem dL_law_238 : decode cL_law 238 = .ok (.iconst 3, 1) := by decide +kernel
theorem dL_law_239 : decode cL_law 239 = .ok (.iadd, 1) := by decide +kernel
theorem dL_law_240 : decode cL_law 240 = .ok (.iaload, 1) := by decide +kernel
theorem dL_law_241 : decode cL_law 241 = .ok (.invokevirtual 18, 3) := by decide +kernel
theorem dL_law_244 : decode cL_law 244 = .ok (.aload_n 2, 1) := by decide +kernel
theorem dL_law_245 : decode cL_law 245 = .ok (.aload_n 0, 1) := by decide +kernel
theorem dL_law_246 : decode cL_law 246 = .ok (.iload_n 3, 1) := by decide +kernel
theorem dL_law_247 : decode cL_law 247 = .ok (.iconst 1, 1) := by decide +kernel
theorem dL_law_248 : decode cL_law 248 = .ok (.iadd, 1) := by decide +kernel
theorem dL_law_249 : decode cL_law 249 = .ok (.iaload, 1) := by decide +kernel
theorem dL_law_250 : decode cL_law 250 = .ok (.aload_n 0, 1) := by decide +kernel
theorem dL_law_251 : decode cL_law 251 = .ok (.iload_n 3, 1) := by decide +kernel
theorem dL_law_252 : decode cL_law 252 = .ok (.iconst 2, 1) := by decide +kernel
theorem dL_law_253 : decode cL_law 253 = .ok (.iadd, 1) := by decide +kernel
theorem dL_law_254 : decode cL_law 254 = .ok (.iaload, 1) := by decide +kernel
theorem dL_law_255 : decode cL_law 255 = .ok (.aload_n 0, 1) := by decide +kernel
theorem dL_law_256 : decode cL_law 256 = .ok (.iload_n 3, 1) := by decide +kernel
theorem dL_law_257 : decode cL_law 257 = .ok (.iconst 3, 1) := by decide +kernel
theorem dL_law_258 : decode cL_law 258 = .ok (.iadd, 1) := by decide +kernel
theorem dL_law_259 : decode cL_law 259 = .ok (.iaload, 1) := by decide +kernel
theorem dL_law_260 : decode cL_law 260 = .ok (.invokevirtual 22, 3) := by decide +kernel
theorem dL_law_263 : decode cL_law 263 = .ok (.if_icmp .eq 1128, 3) := by decide +kernel
theorem dL_law_266 : decode cL_law 266 = .ok (.iconst 0, 1) := by decide +kernel
theorem dL_law_267 : decode cL_law 267 = .ok (.ireturn, 1) := by decide +kernel
theorem dL_law_268 : decode cL_law 268 = .ok (.aload_n 1, 1) := by decide +kernel
theorem dL_law_269 : decode cL_law 269 = .ok (.aload_n 0, 1) := by decide +kernel
theorem dL_law_270 : decode cL_law 270 = .ok (.iload_n 3, 1) := by decide +kernel
theorem dL_law_271 : decode cL_law 271 = .ok (.iconst 1, 1) := by decide +kernel
theorem dL_law_272 : decode cL_law 272 = .ok (.iadd, 1) := by decide +kernel
theorem dL_law_273 : decode cL_law 273 = .ok (.iaload, 1) := by decide +kernel
theorem dL_law_274 : decode cL_law 274 = .ok (.invokevirtual 23, 3) := by decide +kernel
theorem dL_law_277 : decode cL_law 277 = .ok (.aload_n 2, 1) := by decide +kernel
theorem dL_law_278 : decode cL_law 278 = .ok (.aload_n 0, 1) := by decide +kernel
theorem dL_law_279 : decode cL_law 279 = .ok (.iload_n 3, 1) := by decide +kernel
theorem dL_law_280 : decode cL_law 280 = .ok (.iconst 1, 1) := by decide +kernel
theorem dL_law_281 : decode cL_law 281 = .ok (.iadd, 1) := by decide +kernel
theorem dL_law_282 : decode cL_law 282 = .ok (.iaload, 1) := by decide +kernel
theorem dL_law_283 : decode cL_law 283 = .ok (.invokevirtual 27, 3) := by decide +kernel
theorem dL_law_286 : decode cL_law 286 = .ok (.if_icmp .eq 1105, 3) := by decide +kernel
theorem dL_law_289 : decode cL_law 289 = .ok (.iconst 0, 1) := by decide +kernel
theorem dL_law_290 : decode cL_law 290 = .ok (.ireturn, 1) := by decide +kernel
theorem dL_law_291 : decode cL_law 291 = .ok (.aload_n 1, 1) := by decide +kernel
theorem dL_law_292 : decode cL_law 292 = .ok (.aload_n 0, 1) := by decide +kernel
theorem dL_law_293 : decode cL_law 293 = .ok (.iload_n 3, 1) := by decide +kernel
theorem dL_law_294 : decode cL_law 294 = .ok (.iconst 1, 1) := by decide +kernel
theorem dL_law_295 : decode cL_law 295 = .ok (.iadd, 1) := by decide +kernel
theorem dL_law_296 : decode cL_law 296 = .ok (.iaload, 1) := by decide +kernel
theorem dL_law_297 : decode cL_law 297 = .ok (.aload_n 0, 1) := by decide +kernel
theorem dL_law_298 : decode cL_law 298 = .ok (.iload_n 3, 1) := by decide +kernel
theorem dL_law_299 : decode cL_law 299 = .ok (.iconst 2, 1) := by decide +kernel
theorem dL_law_300 : decode cL_law 300 = .ok (.iadd, 1) := by decide +kernel
theorem dL_law_301 : decode cL_law 301 = .ok (.iaload, 1) := by decide +kernel
theorem dL_law_302 : decode cL_law 302 = .ok (.aload_n 0, 1) := by decide +kernel
theorem dL_law_303 : decode cL_law 303 = .ok (.iload_n 3, 1) := by decide +kernel
theorem dL_law_304 : decode cL_law 304 = .ok (.iconst 3, 1) := by decide +kernel
theorem dL_law_305 : decode cL_law 305 = .ok (.iadd, 1) := by decide +kernel
theorem dL_law_306 : decode cL_law 306 = .ok (.iaload, 1) := by decide +kernel
theorem dL_law_307 : decode cL_law 307 = .ok (.invokevirtual 28, 3) := by decide +kernel
theorem dL_law_310 : decode cL_law 310 = .ok (.aload_n 2, 1) := by decide +kernel
theorem dL_law_311 : decode cL_law 311 = .ok (.aload_n 0, 1) := by decide +kernel
theorem dL_law_312 : decode cL_law 312 = .ok (.iload_n 3, 1) := by decide +kernel
theorem dL_law_313 : decode cL_law 313 = .ok (.iconst 1, 1) := by decide +kernel
theorem dL_law_314 : decode cL_law 314 = .ok (.iadd, 1) := by decide +kernel
theorem dL_law_315 : decode cL_law 315 = .ok (.iaload, 1) := by decide +kernel
theorem dL_law_316 : decode cL_law 316 = .ok (.aload_n 0, 1) := by decide +kernel
theorem dL_law_317 : decode cL_law 317 = .ok (.iload_n 3, 1) := by decide +kernel
theorem dL_law_318 : decode cL_law 318 = .ok (.iconst 2, 1) := by decide +kernel
theorem dL_law_319 : decode cL_law 319 = .ok (.iadd, 1) := by decide +kernel
theorem dL_law_320 : decode cL_law 320 = .ok (.iaload, 1) := by decide +kernel
theorem dL_law_321 : decode cL_law 321 = .ok (.aload_n 0, 1) := by decide +kernel
theorem dL_law_322 : decode cL_law 322 = .ok (.iload_n 3, 1) := by decide +kernel
theorem dL_law_323 : decode cL_law 323 = .ok (.iconst 3, 1) := by decide +kernel
theorem dL_law_324 : decode cL_law 324 = .ok (.iadd, 1) := by decide +kernel
theorem dL_law_325 : decode cL_law 325 = .ok (.iaload, 1) := by decide +kernel
theorem dL_law_326 : decode cL_law 326 = .ok (.invokevirtual 31, 3) := by decide +kernel
theorem dL_law_329 : decode cL_law 329 = .ok (.if_icmp .eq 1062, 3) := by decide +kernel
theorem dL_law_332 : decode cL_law 332 = .ok (.iconst 0, 1) := by decide +kernel
theorem dL_law_333 : decode cL_law 333 = .ok (.ireturn, 1) := by decide +kernel
theorem dL_law_334 : decode cL_law 334 = .ok (.aload_n 1, 1) := by decide +kernel
theorem dL_law_335 : decode cL_law 335 = .ok (.aload_n 0, 1) := by decide +kernel
theorem dL_law_336 : decode cL_law 336 = .ok (.iload_n 3, 1) := by decide +kernel
theorem dL_law_337 : decode cL_law 337 = .ok (.iconst 1, 1) := by decide +kernel
theorem dL_law_338 : decode cL_law 338 = .ok (.iadd, 1) := by decide +kernel
theorem dL_law_339 : decode cL_law 339 = .ok (.iaload, 1) := by decide +kernel
theorem dL_law_340 : decode cL_law 340 = .ok (.aload_n 0, 1) := by decide +kernel
theorem dL_law_341 : decode cL_law 341 = .ok (.iload_n 3, 1) := by decide +kernel
theorem dL_law_342 : decode cL_law 342 = .ok (.iconst 2, 1) := by decide +kernel
theorem dL_law_343 : decode cL_law 343 = .ok (.iadd, 1) := by decide +kernel
theorem dL_law_344 : decode cL_law 344 = .ok (.iaload, 1) := by decide +kernel
theorem dL_law_345 : decode cL_law 345 = .ok (.aload_n 0, 1) := by decide +kernel
theorem dL_law_346 : decode cL_law 346 = .ok (.iload_n 3, 1) := by decide +kernel
theorem dL_law_347 : decode cL_law 347 = .ok (.iconst 3, 1) := by decide +kernel
theorem dL_law_348 : decode cL_law 348 = .ok (.iadd, 1) := by decide +kernel
theorem dL_law_349 : decode cL_law 349 = .ok (.iaload, 1) := by decide +kernel
theorem dL_law_350 : decode cL_law 350 = .ok (.invokevirtual 32, 3) := by decide +kernel
theorem dL_law_353 : decode cL_law 353 = .ok (.aload_n 2, 1) := by decide +kernel
theorem dL_law_354 : decode cL_law 354 = .ok (.aload_n 0, 1) := by decide +kernel
theorem dL_law_355 : decode cL_law 355 = .ok (.iload_n 3, 1) := by decide +kernel
theorem dL_law_356 : decode cL_law 356 = .ok (.iconst 1, 1) := by decide +kernel
theorem dL_law_357 : decode cL_law 357 = .ok (.iadd, 1) := by decide +kernel
theorem dL_law_358 : decode cL_law 358 = .ok (.iaload, 1) := by decide +kernel
theorem dL_law_359 : decode cL_law 359 = .ok (.aload_n 0, 1) := by decide +kernel
theorem dL_law_360 : decode cL_law 360 = .ok (.iload_n 3, 1) := by decide +kernel
theorem dL_law_361 : decode cL_law 361 = .ok (.iconst 2, 1) := by decide +kernel
theorem dL_law_362 : decode cL_law 362 = .ok (.iadd, 1) := by decide +kernel
theorem dL_law_363 : decode cL_law 363 = .ok (.iaload, 1) := by decide +kernel
theorem dL_law_364 : decode cL_law 364 = .ok (.aload_n 0, 1) := by decide +kernel
theorem dL_law_365 : decode cL_law 365 = .ok (.iload_n 3, 1) := by decide +kernel
theorem dL_law_366 : decode cL_law 366 = .ok (.iconst 3, 1) := by decide +kernel
theorem dL_law_367 : decode cL_law 367 = .ok (.iadd, 1) := by decide +kernel
theorem dL_law_368 : decode cL_law 368 = .ok (.iaload, 1) := by decide +kernel
theorem dL_law_369 : decode cL_law 369 = .ok (.invokevirtual 35, 3) := by decide +kernel
theorem dL_law_372 : decode cL_law 372 = .ok (.if_icmp .eq 1019, 3) := by decide +kernel
theorem dL_law_375 : decode cL_law 375 = .ok (.iconst 0, 1) := by decide +kernel
theorem dL_law_376 : decode cL_law 376 = .ok (.ireturn, 1) := by decide +kernel
theorem dL_law_377 : decode cL_law 377 = .ok (.aload_n 1, 1) := by decide +kernel
theorem dL_law_378 : decode cL_law 378 = .ok (.aload_n 0, 1) := by decide +kernel
theorem dL_law_379 : decode cL_law 379 = .ok (.iload_n 3, 1) := by decide +kernel
theorem dL_law_380 : decode cL_law 380 = .ok (.iconst 1, 1) := by decide +kernel
theorem dL_law_381 : decode cL_law 381 = .ok (.iadd, 1) := by decide +kernel
theorem dL_law_382 : decode cL_law 382 = .ok (.iaload, 1) := by decide +kernel
theorem dL_law_383 : decode cL_law 383 = .ok (.aload_n 0, 1) := by decide +kernel
theorem dL_law_384 : decode cL_law 384 = .ok (.iload_n 3, 1) := by decide +kernel
theorem dL_law_385 : decode cL_law 385 = .ok (.iconst 2, 1) := by decide +kernel
theorem dL_law_386 : decode cL_law 386 = .ok (.iadd, 1) := by decide +kernel
theorem dL_law_387 : decode cL_law 387 = .ok (.iaload, 1) := by decide +kernel
theorem dL_law_388 : decode cL_law 388 = .ok (.invokevirtual 36, 3) := by decide +kernel
theorem dL_law_391 : decode cL_law 391 = .ok (.aload_n 2, 1) := by decide +kernel
theorem dL_law_392 : decode cL_law 392 = .ok (.aload_n 0, 1) := by decide +kernel
theorem dL_law_393 : decode cL_law 393 = .ok (.iload_n 3, 1) := by decide +kernel
theorem dL_law_394 : decode cL_law 394 = .ok (.iconst 1, 1) := by decide +kernel
theorem dL_law_395 : decode cL_law 395 = .ok (.iadd, 1) := by decide +kernel
theorem dL_law_396 : decode cL_law 396 = .ok (.iaload, 1) := by decide +kernel
theorem dL_law_397 : decode cL_law 397 = .ok (.aload_n 0, 1) := by decide +kernel
theorem dL_law_398 : decode cL_law 398 = .ok (.iload_n 3, 1) := by decide +kernel
theorem dL_law_399 : decode cL_law 399 = .ok (.iconst 2, 1) := by decide +kernel
theorem dL_law_400 : decode cL_law 400 = .ok (.iadd, 1) := by decide +kernel
theorem dL_law_401 : decode cL_law 401 = .ok (.iaload, 1) := by decide +kernel
theorem dL_law_402 : decode cL_law 402 = .ok (.invokevirtual 39, 3) := by decide +kernel
theorem dL_law_405 : decode cL_law 405 = .ok (.if_icmp .eq 986, 3) := by decide +kernel
theorem dL_law_408 : decode cL_law 408 = .ok (.iconst 0, 1) := by decide +kernel
theorem dL_law_409 : decode cL_law 409 = .ok (.ireturn, 1) := by decide +kernel
theorem dL_law_410 : decode cL_law 410 = .ok (.aload_n 1, 1) := by decide +kernel
theorem dL_law_411 : decode cL_law 411 = .ok (.aload_n 0, 1) := by decide +kernel
theorem dL_law_412 : decode cL_law 412 = .ok (.iload_n 3, 1) := by decide +kernel
theorem dL_law_413 : decode cL_law 413 = .ok (.iconst 1, 1) := by decide +kernel
theorem dL_law_414 : decode cL_law 414 = .ok (.iadd, 1) := by decide +kernel
theorem dL_law_415 : decode cL_law 415 = .ok (.iaload, 1) := by decide +kernel
theorem dL_law_416 : decode cL_law 416 = .ok (.aload_n 0, 1) := by decide +kernel
theorem dL_law_417 : decode cL_law 417 = .ok (.iload_n 3, 1) := by decide +kernel
theorem dL_law_418 : decode cL_law 418 = .ok (.iconst 2, 1) := by decide +kernel
theorem dL_law_419 : decode cL_law 419 = .ok (.iadd, 1) := by decide +kernel
theorem dL_law_420 : decode cL_law 420 = .ok (.iaload, 1) := by decide +kernel
theorem dL_law_421 : decode cL_law 421 = .ok (.aload_n 0, 1) := by decide +kernel
theorem dL_law_422 : decode cL_law 422 = .ok (.iload_n 3, 1) := by decide +kernel
theorem dL_law_423 : decode cL_law 423 = .ok (.iconst 3, 1) := by decide +kernel
theorem dL_law_424 : decode cL_law 424 = .ok (.iadd, 1) := by decide +kernel
theorem dL_law_425 : decode cL_law 425 = .ok (.iaload, 1) := by decide +kernel
theorem dL_law_426 : decode cL_law 426 = .ok (.invokevirtual 40, 3) := by decide +kernel
theorem dL_law_429 : decode cL_law 429 = .ok (.aload_n 2, 1) := by decide +kernel
theorem dL_law_430 : decode cL_law 430 = .ok (.aload_n 0, 1) := by decide +kernel
theorem dL_law_431 : decode cL_law 431 = .ok (.iload_n 3, 1) := by decide +kernel
theorem dL_law_432 : decode cL_law 432 = .ok (.iconst 1, 1) := by decide +kernel
theorem dL_law_433 : decode cL_law 433 = .ok (.iadd, 1) := by decide +kernel
theorem dL_law_434 : decode cL_law 434 = .ok (.iaload, 1) := by decide +kernel
theorem dL_law_435 : decode cL_law 435 = .ok (.aload_n 0, 1) := by decide +kernel
theorem dL_law_436 : decode cL_law 436 = .ok (.iload_n 3, 1) := by decide +kernel
theorem dL_law_437 : decode cL_law 437 = .ok (.iconst 2, 1) := by decide +kernel
theorem dL_law_438 : decode cL_law 438 = .ok (.iadd, 1) := by decide +kernel
theorem dL_law_439 : decode cL_law 439 = .ok (.iaload, 1) := by decide +kernel
theorem dL_law_440 : decode cL_law 440 = .ok (.aload_n 0, 1) := by decide +kernel
theorem dL_law_441 : decode cL_law 441 = .ok (.iload_n 3, 1) := by decide +kernel
theorem dL_law_442 : decode cL_law 442 = .ok (.iconst 3, 1) := by decide +kernel
theorem dL_law_443 : decode cL_law 443 = .ok (.iadd, 1) := by decide +kernel
theorem dL_law_444 : decode cL_law 444 = .ok (.iaload, 1) := by decide +kernel
theorem dL_law_445 : decode cL_law 445 = .ok (.invokevirtual 43, 3) := by decide +kernel
theorem dL_law_448 : decode cL_law 448 = .ok (.if_icmp .eq 943, 3) := by decide +kernel
theorem dL_law_451 : decode cL_law 451 = .ok (.iconst 0, 1) := by decide +kernel
theorem dL_law_452 : decode cL_law 452 = .ok (.ireturn, 1) := by decide +kernel
theorem dL_law_453 : decode cL_law 453 = .ok (.aload_n 1, 1) := by decide +kernel
theorem dL_law_454 : decode cL_law 454 = .ok (.aload_n 0, 1) := by decide +kernel
theorem dL_law_455 : decode cL_law 455 = .ok (.iload_n 3, 1) := by decide +kernel
theorem dL_law_456 : decode cL_law 456 = .ok (.iconst 1, 1) := by decide +kernel
theorem dL_law_457 : decode cL_law 457 = .ok (.iadd, 1) := by decide +kernel
theorem dL_law_458 : decode cL_law 458 = .ok (.iaload, 1) := by decide +kernel
theorem dL_law_459 : decode cL_law 459 = .ok (.aload_n 0, 1) := by decide +kernel
theorem dL_law_460 : decode cL_law 460 = .ok (.iload_n 3, 1) := by decide +kernel
theorem dL_law_461 : decode cL_law 461 = .ok (.iconst 2, 1) := by decide +kernel
theorem dL_law_462 : decode cL_law 462 = .ok (.iadd, 1) := by decide +kernel
theorem dL_law_463 : decode cL_law 463 = .ok (.iaload, 1) := by decide +kernel
theorem dL_law_464 : decode cL_law 464 = .ok (.invokevirtual 44, 3) := by decide +kernel
theorem dL_law_467 : decode cL_law 467 = .ok (.aload_n 2, 1) := by decide +kernel
theorem dL_law_468 : decode cL_law 468 = .ok (.aload_n 0, 1) := by decide +kernel
theorem dL_law_469 : decode cL_law 469 = .ok (.iload_n 3, 1) := by decide +kernel
theorem dL_law_470 : decode cL_law 470 = .ok (.iconst 1, 1) := by decide +kernel
theorem dL_law_471 : decode cL_law 471 = .ok (.iadd, 1) := by decide +kernel
theorem dL_law_472 : decode cL_law 472 = .ok (.iaload, 1) := by decide +kernel
theorem dL_law_473 : decode cL_law 473 = .ok (.aload_n 0, 1) := by decide +kernel
theorem dL_law_474 : decode cL_law 474 = .ok (.iload_n 3, 1) := by decide +kernel
theorem dL_law_475 : decode cL_law 475 = .ok (.iconst 2, 1) := by decide +kernel
theorem dL_law_476 : decode cL_law 476 = .ok (.iadd, 1) := by decide +kernel
theorem dL_law_477 : decode cL_law 477 = .ok (.iaload, 1) := by decide +kernel
theorem dL_law_478 : decode cL_law 478 = .ok (.invokevirtual 47, 3) := by decide +kernel
theorem dL_law_481 : decode cL_law 481 = .ok (.if_icmp .eq 910, 3) := by decide +kernel
theorem dL_law_484 : decode cL_law 484 = .ok (.iconst 0, 1) := by decide +kernel
theorem dL_law_485 : decode cL_law 485 = .ok (.ireturn, 1) := by decide +kernel
theorem dL_law_486 : decode cL_law 486 = .ok (.aload_n 1, 1) := by decide +kernel
theorem dL_law_487 : decode cL_law 487 = .ok (.invokevirtual 48, 3) := by decide +kernel
theorem dL_law_490 : decode cL_law 490 = .ok (.aload_n 2, 1) := by decide +kernel
theorem dL_law_491 : decode cL_law 491 = .ok (.invokevirtual 52, 3) := by decide +kernel
theorem dL_law_494 : decode cL_law 494 = .ok (.if_icmp .eq 897, 3) := by decide +kernel
theorem dL_law_497 : decode cL_law 497 = .ok (.iconst 0, 1) := by decide +kernel
theorem dL_law_498 : decode cL_law 498 = .ok (.ireturn, 1) := by decide +kernel
theorem dL_law_499 : decode cL_law 499 = .ok (.aload_n 1, 1) := by decide +kernel
theorem dL_law_500 : decode cL_law 500 = .ok (.aload_n 0, 1) := by decide +kernel
theorem dL_law_501 : decode cL_law 501 = .ok (.iload_n 3, 1) := by decide +kernel
theorem dL_law_502 : decode cL_law 502 = .ok (.iconst 1, 1) := by decide +kernel
theorem dL_law_503 : decode cL_law 503 = .ok (.iadd, 1) := by decide +kernel
theorem dL_law_504 : decode cL_law 504 = .ok (.iaload, 1) := by decide +kernel
theorem dL_law_505 : decode cL_law 505 = .ok (.invokevirtual 53, 3) := by decide +kernel
theorem dL_law_508 : decode cL_law 508 = .ok (.aload_n 2, 1) := by decide +kernel
theorem dL_law_509 : decode cL_law 509 = .ok (.aload_n 0, 1) := by decide +kernel
theorem dL_law_510 : decode cL_law 510 = .ok (.iload_n 3, 1) := by decide +kernel
theorem dL_law_511 : decode cL_law 511 = .ok (.iconst 1, 1) := by decide +kernel
theorem dL_law_512 : decode cL_law 512 = .ok (.iadd, 1) := by decide +kernel
theorem dL_law_513 : decode cL_law 513 = .ok (.iaload, 1) := by decide +kernel
theorem dL_law_514 : decode cL_law 514 = .ok (.invokevirtual 56, 3) := by decide +kernel
theorem dL_law_517 : decode cL_law 517 = .ok (.if_icmp .eq 874, 3) := by decide +kernel
theorem dL_law_520 : decode cL_law 520 = .ok (.iconst 0, 1) := by decide +kernel
theorem dL_law_521 : decode cL_law 521 = .ok (.ireturn, 1) := by decide +kernel
theorem dL_law_522 : decode cL_law 522 = .ok (.aload_n 1, 1) := by decide +kernel
theorem dL_law_523 : decode cL_law 523 = .ok (.aload_n 0, 1) := by decide +kernel
theorem dL_law_524 : decode cL_law 524 = .ok (.iload_n 3, 1) := by decide +kernel
theorem dL_law_525 : decode cL_law 525 = .ok (.iconst 1, 1) := by decide +kernel
theorem dL_law_526 : decode cL_law 526 = .ok (.iadd, 1) := by decide +kernel
theorem dL_law_527 : decode cL_law 527 = .ok (.iaload, 1) := by decide +kernel
theorem dL_law_528 : decode cL_law 528 = .ok (.aload_n 0, 1) := by decide +kernel
theorem dL_law_529 : decode cL_law 529 = .ok (.iload_n 3, 1) := by decide +kernel
theorem dL_law_530 : decode cL_law 530 = .ok (.iconst 2, 1) := by decide +kernel
theorem dL_law_531 : decode cL_law 531 = .ok (.iadd, 1) := by decide +kernel
theorem dL_law_532 : decode cL_law 532 = .ok (.iaload, 1) := by decide +kernel
theorem dL_law_533 : decode cL_law 533 = .ok (.aload_n 0, 1) := by decide +kernel
theorem dL_law_534 : decode cL_law 534 = .ok (.iload_n 3, 1) := by decide +kernel
theorem dL_law_535 : decode cL_law 535 = .ok (.iconst 3, 1) := by decide +kernel
theorem dL_law_536 : decode cL_law 536 = .ok (.iadd, 1) := by decide +kernel
theorem dL_law_537 : decode cL_law 537 = .ok (.iaload, 1) := by decide +kernel
theorem dL_law_538 : decode cL_law 538 = .ok (.aload_n 0, 1) := by decide +kernel
theorem dL_law_539 : decode cL_law 539 = .ok (.iload_n 3, 1) := by decide +kernel
theorem dL_law_540 : decode cL_law 540 = .ok (.iconst 4, 1) := by decide +kernel
theorem dL_law_541 : decode cL_law 541 = .ok (.iadd, 1) := by decide +kernel
theorem dL_law_542 : decode cL_law 542 = .ok (.iaload, 1) := by decide +kernel
theorem dL_law_543 : decode cL_law 543 = .ok (.invokevirtual 57, 3) := by decide +kernel
theorem dL_law_546 : decode cL_law 546 = .ok (.aload_n 2, 1) := by decide +kernel
theorem dL_law_547 : decode cL_law 547 = .ok (.aload_n 0, 1) := by decide +kernel
theorem dL_law_548 : decode cL_law 548 = .ok (.iload_n 3, 1) := by decide +kernel
theorem dL_law_549 : decode cL_law 549 = .ok (.iconst 1, 1) := by decide +kernel
theorem dL_law_550 : decode cL_law 550 = .ok (.iadd, 1) := by decide +kernel
theorem dL_law_551 : decode cL_law 551 = .ok (.iaload, 1) := by decide +kernel
theorem dL_law_552 : decode cL_law 552 = .ok (.aload_n 0, 1) := by decide +kernel
theorem dL_law_553 : decode cL_law 553 = .ok (.iload_n 3, 1) := by decide +kernel
theorem dL_law_554 : decode cL_law 554 = .ok (.iconst 2, 1) := by decide +kernel
theorem dL_law_555 : decode cL_law 555 = .ok (.iadd, 1) := by decide +kernel
theorem dL_law_556 : decode cL_law 556 = .ok (.iaload, 1) := by decide +kernel
theorem dL_law_557 : decode cL_law 557 = .ok (.aload_n 0, 1) := by decide +kernel
theorem dL_law_558 : decode cL_law 558 = .ok (.iload_n 3, 1) := by decide +kernel
theorem dL_law_559 : decode cL_law 559 = .ok (.iconst 3, 1) := by decide +kernel
theorem dL_law_560 : decode cL_law 560 = .ok (.iadd, 1) := by decide +kernel
theorem dL_law_561 : decode cL_law 561 = .ok (.iaload, 1) := by decide +kernel
theorem dL_law_562 : decode cL_law 562 = .ok (.aload_n 0, 1) := by decide +kernel
theorem dL_law_563 : decode cL_law 563 = .ok (.iload_n 3, 1) := by decide +kernel
theorem dL_law_564 : decode cL_law 564 = .ok (.iconst 4, 1) := by decide +kernel
theorem dL_law_565 : decode cL_law 565 = .ok (.iadd, 1) := by decide +kernel
theorem dL_law_566 : decode cL_law 566 = .ok (.iaload, 1) := by decide +kernel
theorem dL_law_567 : decode cL_law 567 = .ok (.invokevirtual 61, 3) := by decide +kernel
theorem dL_law_570 : decode cL_law 570 = .ok (.if_icmp .eq 821, 3) := by decide +kernel
theorem dL_law_573 : decode cL_law 573 = .ok (.iconst 0, 1) := by decide +kernel
theorem dL_law_574 : decode cL_law 574 = .ok (.ireturn, 1) := by decide +kernel
theorem dL_law_575 : decode cL_law 575 = .ok (.aload_n 1, 1) := by decide +kernel
theorem dL_law_576 : decode cL_law 576 = .ok (.aload_n 0, 1) := by decide +kernel
theorem dL_law_577 : decode cL_law 577 = .ok (.iload_n 3, 1) := by decide +kernel
theorem dL_law_578 : decode cL_law 578 = .ok (.iconst 1, 1) := by decide +kernel
theorem dL_law_579 : decode cL_law 579 = .ok (.iadd, 1) := by decide +kernel
theorem dL_law_580 : decode cL_law 580 = .ok (.iaload, 1) := by decide +kernel
theorem dL_law_581 : decode cL_law 581 = .ok (.aload_n 0, 1) := by decide +kernel
theorem dL_law_582 : decode cL_law 582 = .ok (.iload_n 3, 1) := by decide +kernel
theorem dL_law_583 : decode cL_law 583 = .ok (.iconst 2, 1) := by decide +kernel
theorem dL_law_584 : decode cL_law 584 = .ok (.iadd, 1) := by decide +kernel
theorem dL_law_585 : decode cL_law 585 = .ok (.iaload, 1) := by decide +kernel
theorem dL_law_586 : decode cL_law 586 = .ok (.invokevirtual 62, 3) := by decide +kernel
theorem dL_law_589 : decode cL_law 589 = .ok (.aload_n 2, 1) := by decide +kernel
theorem dL_law_590 : decode cL_law 590 = .ok (.aload_n 0, 1) := by decide +kernel
theorem dL_law_591 : decode cL_law 591 = .ok (.iload_n 3, 1) := by decide +kernel
theorem dL_law_592 : decode cL_law 592 = .ok (.iconst 1, 1) := by decide +kernel
theorem dL_law_593 : decode cL_law 593 = .ok (.iadd, 1) := by decide +kernel
theorem dL_law_594 : decode cL_law 594 = .ok (.iaload, 1) := by decide +kernel
theorem dL_law_595 : decode cL_law 595 = .ok (.aload_n 0, 1) := by decide +kernel
theorem dL_law_596 : decode cL_law 596 = .ok (.iload_n 3, 1) := by decide +kernel
theorem dL_law_597 : decode cL_law 597 = .ok (.iconst 2, 1) := by decide +kernel
theorem dL_law_598 : decode cL_law 598 = .ok (.iadd, 1) := by decide +kernel
theorem dL_law_599 : decode cL_law 599 = .ok (.iaload, 1) := by decide +kernel
theorem dL_law_600 : decode cL_law 600 = .ok (.invokevirtual 65, 3) := by decide +kernel
theorem dL_law_603 : decode cL_law 603 = .ok (.if_icmp .eq 788, 3) := by decide +kernel
theorem dL_law_606 : decode cL_law 606 = .ok (.iconst 0, 1) := by decide +kernel
theorem dL_law_607 : decode cL_law 607 = .ok (.ireturn, 1) := by decide +kernel
theorem dL_law_608 : decode cL_law 608 = .ok (.aload_n 1, 1) := by decide +kernel
theorem dL_law_609 : decode cL_law 609 = .ok (.aload_n 0, 1) := by decide +kernel
theorem dL_law_610 : decode cL_law 610 = .ok (.iload_n 3, 1) := by decide +kernel
theorem dL_law_611 : decode cL_law 611 = .ok (.iconst 1, 1) := by decide +kernel
theorem dL_law_612 : decode cL_law 612 = .ok (.iadd, 1) := by decide +kernel
theorem dL_law_613 : decode cL_law 613 = .ok (.iaload, 1) := by decide +kernel
theorem dL_law_614 : decode cL_law 614 = .ok (.invokevirtual 66, 3) := by decide +kernel
theorem dL_law_617 : decode cL_law 617 = .ok (.aload_n 2, 1) := by decide +kernel
theorem dL_law_618 : decode cL_law 618 = .ok (.aload_n 0, 1) := by decide +kernel
theorem dL_law_619 : decode cL_law 619 = .ok (.iload_n 3, 1) := by decide +kernel
theorem dL_law_620 : decode cL_law 620 = .ok (.iconst 1, 1) := by decide +kernel
theorem dL_law_621 : decode cL_law 621 = .ok (.iadd, 1) := by decide +kernel
theorem dL_law_622 : decode cL_law 622 = .ok (.iaload, 1) := by decide +kernel
theorem dL_law_623 : decode cL_law 623 = .ok (.invokevirtual 69, 3) := by decide +kernel
theorem dL_law_626 : decode cL_law 626 = .ok (.if_icmp .eq 765, 3) := by decide +kernel
theorem dL_law_629 : decode cL_law 629 = .ok (.iconst 0, 1) := by decide +kernel
theorem dL_law_630 : decode cL_law 630 = .ok (.ireturn, 1) := by decide +kernel
theorem dL_law_631 : decode cL_law 631 = .ok (.aload_n 1, 1) := by decide +kernel
theorem dL_law_632 : decode cL_law 632 = .ok (.aload_n 0, 1) := by decide +kernel
theorem dL_law_633 : decode cL_law 633 = .ok (.iload_n 3, 1) := by decide +kernel
theorem dL_law_634 : decode cL_law 634 = .ok (.iconst 1, 1) := by decide +kernel
theorem dL_law_635 : decode cL_law 635 = .ok (.iadd, 1) := by decide +kernel
theorem dL_law_636 : decode cL_law 636 = .ok (.iaload, 1) := by decide +kernel
theorem dL_law_637 : decode cL_law 637 = .ok (.aload_n 0, 1) := by decide +kernel
theorem dL_law_638 : decode cL_law 638 = .ok (.iload_n 3, 1) := by decide +kernel
theorem dL_law_639 : decode cL_law 639 = .ok (.iconst 2, 1) := by decide +kernel
theorem dL_law_640 : decode cL_law 640 = .ok (.iadd, 1) := by decide +kernel
theorem dL_law_641 : decode cL_law 641 = .ok (.iaload, 1) := by decide +kernel
theorem dL_law_642 : decode cL_law 642 = .ok (.invokevirtual 70, 3) := by decide +kernel
theorem dL_law_645 : decode cL_law 645 = .ok (.aload_n 2, 1) := by decide +kernel
theorem dL_law_646 : decode cL_law 646 = .ok (.aload_n 0, 1) := by decide +kernel
theorem dL_law_647 : decode cL_law 647 = .ok (.iload_n 3, 1) := by decide +kernel
theorem dL_law_648 : decode cL_law 648 = .ok (.iconst 1, 1) := by decide +kernel
theorem dL_law_649 : decode cL_law 649 = .ok (.iadd, 1) := by decide +kernel
theorem dL_law_650 : decode cL_law 650 = .ok (.iaload, 1) := by decide +kernel
theorem dL_law_651 : decode cL_law 651 = .ok (.aload_n 0, 1) := by decide +kernel
theorem dL_law_652 : decode cL_law 652 = .ok (.iload_n 3, 1) := by decide +kernel
theorem dL_law_653 : decode cL_law 653 = .ok (.iconst 2, 1) := by decide +kernel
theorem dL_law_654 : decode cL_law 654 = .ok (.iadd, 1) := by decide +kernel
theorem dL_law_655 : decode cL_law 655 = .ok (.iaload, 1) := by decide +kernel
theorem dL_law_656 : decode cL_law 656 = .ok (.invokevirtual 73, 3) := by decide +kernel
theorem dL_law_659 : decode cL_law 659 = .ok (.if_icmp .eq 732, 3) := by decide +kernel
theorem dL_law_662 : decode cL_law 662 = .ok (.iconst 0, 1) := by decide +kernel
theorem dL_law_663 : decode cL_law 663 = .ok (.ireturn, 1) := by decide +kernel
theorem dL_law_664 : decode cL_law 664 = .ok (.aload_n 1, 1) := by decide +kernel
theorem dL_law_665 : decode cL_law 665 = .ok (.aload_n 0, 1) := by decide +kernel
theorem dL_law_666 : decode cL_law 666 = .ok (.iload_n 3, 1) := by decide +kernel
theorem dL_law_667 : decode cL_law 667 = .ok (.iconst 1, 1) := by decide +kernel
theorem dL_law_668 : decode cL_law 668 = .ok (.iadd, 1) := by decide +kernel
theorem dL_law_669 : decode cL_law 669 = .ok (.iaload, 1) := by decide +kernel
theorem dL_law_670 : decode cL_law 670 = .ok (.invokevirtual 74, 3) := by decide +kernel
theorem dL_law_673 : decode cL_law 673 = .ok (.aload_n 2, 1) := by decide +kernel
theorem dL_law_674 : decode cL_law 674 = .ok (.aload_n 0, 1) := by decide +kernel
theorem dL_law_675 : decode cL_law 675 = .ok (.iload_n 3, 1) := by decide +kernel
theorem dL_law_676 : decode cL_law 676 = .ok (.iconst 1, 1) := by decide +kernel
theorem dL_law_677 : decode cL_law 677 = .ok (.iadd, 1) := by decide +kernel
theorem dL_law_678 : decode cL_law 678 = .ok (.iaload, 1) := by decide +kernel
theorem dL_law_679 : decode cL_law 679 = .ok (.invokevirtual 77, 3) := by decide +kernel
theorem dL_law_682 : decode cL_law 682 = .ok (.if_icmp .eq 709, 3) := by decide +kernel
theorem dL_law_685 : decode cL_law 685 = .ok (.iconst 0, 1) := by decide +kernel
theorem dL_law_686 : decode cL_law 686 = .ok (.ireturn, 1) := by decide +kernel
theorem dL_law_687 : decode cL_law 687 = .ok (.aload_n 1, 1) := by decide +kernel
theorem dL_law_688 : decode cL_law 688 = .ok (.aload_n 0, 1) := by decide +kernel
theorem dL_law_689 : decode cL_law 689 = .ok (.iload_n 3, 1) := by decide +kernel
theorem dL_law_690 : decode cL_law 690 = .ok (.iconst 1, 1) := by decide +kernel
theorem dL_law_691 : decode cL_law 691 = .ok (.iadd, 1) := by decide +kernel
theorem dL_law_692 : decode cL_law 692 = .ok (.iaload, 1) := by decide +kernel
theorem dL_law_693 : decode cL_law 693 = .ok (.aload_n 0, 1) := by decide +kernel
theorem dL_law_694 : decode cL_law 694 = .ok (.iload_n 3, 1) := by decide +kernel
theorem dL_law_695 : decode cL_law 695 = .ok (.iconst 2, 1) := by decide +kernel
theorem dL_law_696 : decode cL_law 696 = .ok (.iadd, 1) := by decide +kernel
theorem dL_law_697 : decode cL_law 697 = .ok (.iaload, 1) := by decide +kernel
theorem dL_law_698 : decode cL_law 698 = .ok (.aload_n 0, 1) := by decide +kernel
theorem dL_law_699 : decode cL_law 699 = .ok (.iload_n 3, 1) := by decide +kernel
theorem dL_law_700 : decode cL_law 700 = .ok (.iconst 3, 1) := by decide +kernel
theorem dL_law_701 : decode cL_law 701 = .ok (.iadd, 1) := by decide +kernel
theorem dL_law_702 : decode cL_law 702 = .ok (.iaload, 1) := by decide +kernel
theorem dL_law_703 : decode cL_law 703 = .ok (.invokevirtual 78, 3) := by decide +kernel
theorem dL_law_706 : decode cL_law 706 = .ok (.aload_n 2, 1) := by decide +kernel
theorem dL_law_707 : decode cL_law 707 = .ok (.aload_n 0, 1) := by decide +kernel
theorem dL_law_708 : decode cL_law 708 = .ok (.iload_n 3, 1) := by decide +kernel
theorem dL_law_709 : decode cL_law 709 = .ok (.iconst 1, 1) := by decide +kernel
theorem dL_law_710 : decode cL_law 710 = .ok (.iadd, 1) := by decide +kernel
theorem dL_law_711 : decode cL_law 711 = .ok (.iaload, 1) := by decide +kernel
theorem dL_law_712 : decode cL_law 712 = .ok (.aload_n 0, 1) := by decide +kernel
theorem dL_law_713 : decode cL_law 713 = .ok (.iload_n 3, 1) := by decide +kernel
theorem dL_law_714 : decode cL_law 714 = .ok (.iconst 2, 1) := by decide +kernel
theorem dL_law_715 : decode cL_law 715 = .ok (.iadd, 1) := by decide +kernel
theorem dL_law_716 : decode cL_law 716 = .ok (.iaload, 1) := by decide +kernel
theorem dL_law_717 : decode cL_law 717 = .ok (.aload_n 0, 1) := by decide +kernel
theorem dL_law_718 : decode cL_law 718 = .ok (.iload_n 3, 1) := by decide +kernel
theorem dL_law_719 : decode cL_law 719 = .ok (.iconst 3, 1) := by decide +kernel
theorem dL_law_720 : decode cL_law 720 = .ok (.iadd, 1) := by decide +kernel
theorem dL_law_721 : decode cL_law 721 = .ok (.iaload, 1) := by decide +kernel
theorem dL_law_722 : decode cL_law 722 = .ok (.invokevirtual 81, 3) := by decide +kernel
theorem dL_law_725 : decode cL_law 725 = .ok (.if_icmp .eq 666, 3) := by decide +kernel
theorem dL_law_728 : decode cL_law 728 = .ok (.iconst 0, 1) := by decide +kernel
theorem dL_law_729 : decode cL_law 729 = .ok (.ireturn, 1) := by decide +kernel
theorem dL_law_730 : decode cL_law 730 = .ok (.aload_n 1, 1) := by decide +kernel
theorem dL_law_731 : decode cL_law 731 = .ok (.invokevirtual 82, 3) := by decide +kernel
theorem dL_law_734 : decode cL_law 734 = .ok (.aload_n 2, 1) := by decide +kernel
theorem dL_law_735 : decode cL_law 735 = .ok (.invokevirtual 85, 3) := by decide +kernel
theorem dL_law_738 : decode cL_law 738 = .ok (.if_icmp .eq 653, 3) := by decide +kernel
theorem dL_law_741 : decode cL_law 741 = .ok (.iconst 0, 1) := by decide +kernel
theorem dL_law_742 : decode cL_law 742 = .ok (.ireturn, 1) := by decide +kernel
theorem dL_law_743 : decode cL_law 743 = .ok (.aload_n 1, 1) := by decide +kernel
theorem dL_law_744 : decode cL_law 744 = .ok (.aload_n 0, 1) := by decide +kernel
theorem dL_law_745 : decode cL_law 745 = .ok (.iload_n 3, 1) := by decide +kernel
theorem dL_law_746 : decode cL_law 746 = .ok (.iconst 1, 1) := by decide +kernel
theorem dL_law_747 : decode cL_law 747 = .ok (.iadd, 1) := by decide +kernel
theorem dL_law_748 : decode cL_law 748 = .ok (.iaload, 1) := by decide +kernel
theorem dL_law_749 : decode cL_law 749 = .ok (.aload_n 0, 1) := by decide +kernel
theorem dL_law_750 : decode cL_law 750 = .ok (.iload_n 3, 1) := by decide +kernel
theorem dL_law_751 : decode cL_law 751 = .ok (.iconst 2, 1) := by decide +kernel
theorem dL_law_752 : decode cL_law 752 = .ok (.iadd, 1) := by decide +kernel
theorem dL_law_753 : decode cL_law 753 = .ok (.iaload, 1) := by decide +kernel
theorem dL_law_754 : decode cL_law 754 = .ok (.invokevirtual 86, 3) := by decide +kernel
theorem dL_law_757 : decode cL_law 757 = .ok (.aload_n 2, 1) := by decide +kernel
theorem dL_law_758 : decode cL_law 758 = .ok (.aload_n 0, 1) := by decide +kernel
theorem dL_law_759 : decode cL_law 759 = .ok (.iload_n 3, 1) := by decide +kernel
theorem dL_law_760 : decode cL_law 760 = .ok (.iconst 1, 1) := by decide +kernel
theorem dL_law_761 : decode cL_law 761 = .ok (.iadd, 1) := by decide +kernel
theorem dL_law_762 : decode cL_law 762 = .ok (.iaload, 1) := by decide +kernel
theorem dL_law_763 : decode cL_law 763 = .ok (.aload_n 0, 1) := by decide +kernel
theorem dL_law_764 : decode cL_law 764 = .ok (.iload_n 3, 1) := by decide +kernel
theorem dL_law_765 : decode cL_law 765 = .ok (.iconst 2, 1) := by decide +kernel
theorem dL_law_766 : decode cL_law 766 = .ok (.iadd, 1) := by decide +kernel
theorem dL_law_767 : decode cL_law 767 = .ok (.iaload, 1) := by decide +kernel
theorem dL_law_768 : decode cL_law 768 = .ok (.invokevirtual 89, 3) := by decide +kernel
theorem dL_law_771 : decode cL_law 771 = .ok (.if_icmp .eq 620, 3) := by decide +kernel
theorem dL_law_774 : decode cL_law 774 = .ok (.iconst 0, 1) := by decide +kernel
theorem dL_law_775 : decode cL_law 775 = .ok (.ireturn, 1) := by decide +kernel
theorem dL_law_776 : decode cL_law 776 = .ok (.aload_n 1, 1) := by decide +kernel
theorem dL_law_777 : decode cL_law 777 = .ok (.aload_n 0, 1) := by decide +kernel
theorem dL_law_778 : decode cL_law 778 = .ok (.iload_n 3, 1) := by decide +kernel
theorem dL_law_779 : decode cL_law 779 = .ok (.iconst 1, 1) := by decide +kernel
theorem dL_law_780 : decode cL_law 780 = .ok (.iadd, 1) := by decide +kernel
theorem dL_law_781 : decode cL_law 781 = .ok (.iaload, 1) := by decide +kernel
theorem dL_law_782 : decode cL_law 782 = .ok (.aload_n 0, 1) := by decide +kernel
theorem dL_law_783 : decode cL_law 783 = .ok (.iload_n 3, 1) := by decide +kernel
theorem dL_law_784 : decode cL_law 784 = .ok (.iconst 2, 1) := by decide +kernel
theorem dL_law_785 : decode cL_law 785 = .ok (.iadd, 1) := by decide +kernel
theorem dL_law_786 : decode cL_law 786 = .ok (.iaload, 1) := by decide +kernel
theorem dL_law_787 : decode cL_law 787 = .ok (.invokevirtual 90, 3) := by decide +kernel
theorem dL_law_790 : decode cL_law 790 = .ok (.aload_n 2, 1) := by decide +kernel
theorem dL_law_791 : decode cL_law 791 = .ok (.aload_n 0, 1) := by decide +kernel
theorem dL_law_792 : decode cL_law 792 = .ok (.iload_n 3, 1) := by decide +kernel
theorem dL_law_793 : decode cL_law 793 = .ok (.iconst 1, 1) := by decide +kernel
theorem dL_law_794 : decode cL_law 794 = .ok (.iadd, 1) := by decide +kernel
theorem dL_law_795 : decode cL_law 795 = .ok (.iaload, 1) := by decide +kernel
theorem dL_law_796 : decode cL_law 796 = .ok (.aload_n 0, 1) := by decide +kernel
theorem dL_law_797 : decode cL_law 797 = .ok (.iload_n 3, 1) := by decide +kernel
theorem dL_law_798 : decode cL_law 798 = .ok (.iconst 2, 1) := by decide +kernel
theorem dL_law_799 : decode cL_law 799 = .ok (.iadd, 1) := by decide +kernel
theorem dL_law_800 : decode cL_law 800 = .ok (.iaload, 1) := by decide +kernel
theorem dL_law_801 : decode cL_law 801 = .ok (.invokevirtual 93, 3) := by decide +kernel
theorem dL_law_804 : decode cL_law 804 = .ok (.if_icmp .eq 587, 3) := by decide +kernel
theorem dL_law_807 : decode cL_law 807 = .ok (.iconst 0, 1) := by decide +kernel
theorem dL_law_808 : decode cL_law 808 = .ok (.ireturn, 1) := by decide +kernel
theorem dL_law_809 : decode cL_law 809 = .ok (.aload_n 1, 1) := by decide +kernel
theorem dL_law_810 : decode cL_law 810 = .ok (.aload_n 0, 1) := by decide +kernel
theorem dL_law_811 : decode cL_law 811 = .ok (.iload_n 3, 1) := by decide +kernel
theorem dL_law_812 : decode cL_law 812 = .ok (.iconst 1, 1) := by decide +kernel
theorem dL_law_813 : decode cL_law 813 = .ok (.iadd, 1) := by decide +kernel
theorem dL_law_814 : decode cL_law 814 = .ok (.iaload, 1) := by decide +kernel
theorem dL_law_815 : decode cL_law 815 = .ok (.aload_n 0, 1) := by decide +kernel
theorem dL_law_816 : decode cL_law 816 = .ok (.iload_n 3, 1) := by decide +kernel
theorem dL_law_817 : decode cL_law 817 = .ok (.iconst 2, 1) := by decide +kernel
theorem dL_law_818 : decode cL_law 818 = .ok (.iadd, 1) := by decide +kernel
theorem dL_law_819 : decode cL_law 819 = .ok (.iaload, 1) := by decide +kernel
theorem dL_law_820 : decode cL_law 820 = .ok (.aload_n 0, 1) := by decide +kernel
theorem dL_law_821 : decode cL_law 821 = .ok (.iload_n 3, 1) := by decide +kernel
theorem dL_law_822 : decode cL_law 822 = .ok (.iconst 3, 1) := by decide +kernel
theorem dL_law_823 : decode cL_law 823 = .ok (.iadd, 1) := by decide +kernel
theorem dL_law_824 : decode cL_law 824 = .ok (.iaload, 1) := by decide +kernel
theorem dL_law_825 : decode cL_law 825 = .ok (.invokevirtual 94, 3) := by decide +kernel
theorem dL_law_828 : decode cL_law 828 = .ok (.aload_n 2, 1) := by decide +kernel
theorem dL_law_829 : decode cL_law 829 = .ok (.aload_n 0, 1) := by decide +kernel
theorem dL_law_830 : decode cL_law 830 = .ok (.iload_n 3, 1) := by decide +kernel
theorem dL_law_831 : decode cL_law 831 = .ok (.iconst 1, 1) := by decide +kernel
theorem dL_law_832 : decode cL_law 832 = .ok (.iadd, 1) := by decide +kernel
theorem dL_law_833 : decode cL_law 833 = .ok (.iaload, 1) := by decide +kernel
theorem dL_law_834 : decode cL_law 834 = .ok (.aload_n 0, 1) := by decide +kernel
theorem dL_law_835 : decode cL_law 835 = .ok (.iload_n 3, 1) := by decide +kernel
theorem dL_law_836 : decode cL_law 836 = .ok (.iconst 2, 1) := by decide +kernel
theorem dL_law_837 : decode cL_law 837 = .ok (.iadd, 1) := by decide +kernel
theorem dL_law_838 : decode cL_law 838 = .ok (.iaload, 1) := by decide +kernel
theorem dL_law_839 : decode cL_law 839 = .ok (.aload_n 0, 1) := by decide +kernel
theorem dL_law_840 : decode cL_law 840 = .ok (.iload_n 3, 1) := by decide +kernel
theorem dL_law_841 : decode cL_law 841 = .ok (.iconst 3, 1) := by decide +kernel
theorem dL_law_842 : decode cL_law 842 = .ok (.iadd, 1) := by decide +kernel
theorem dL_law_843 : decode cL_law 843 = .ok (.iaload, 1) := by decide +kernel
theorem dL_law_844 : decode cL_law 844 = .ok (.invokevirtual 97, 3) := by decide +kernel
theorem dL_law_847 : decode cL_law 847 = .ok (.if_icmp .eq 544, 3) := by decide +kernel
theorem dL_law_850 : decode cL_law 850 = .ok (.iconst 0, 1) := by decide +kernel
theorem dL_law_851 : decode cL_law 851 = .ok (.ireturn, 1) := by decide +kernel
theorem dL_law_852 : decode cL_law 852 = .ok (.aload_n 1, 1) := by decide +kernel
theorem dL_law_853 : decode cL_law 853 = .ok (.aload_n 0, 1) := by decide +kernel
theorem dL_law_854 : decode cL_law 854 = .ok (.iload_n 3, 1) := by decide +kernel
theorem dL_law_855 : decode cL_law 855 = .ok (.iconst 1, 1) := by decide +kernel
theorem dL_law_856 : decode cL_law 856 = .ok (.iadd, 1) := by decide +kernel
theorem dL_law_857 : decode cL_law 857 = .ok (.iaload, 1) := by decide +kernel
theorem dL_law_858 : decode cL_law 858 = .ok (.aload_n 0, 1) := by decide +kernel
theorem dL_law_859 : decode cL_law 859 = .ok (.iload_n 3, 1) := by decide +kernel
theorem dL_law_860 : decode cL_law 860 = .ok (.iconst 2, 1) := by decide +kernel
theorem dL_law_861 : decode cL_law 861 = .ok (.iadd, 1) := by decide +kernel
theorem dL_law_862 : decode cL_law 862 = .ok (.iaload, 1) := by decide +kernel
theorem dL_law_863 : decode cL_law 863 = .ok (.aload_n 0, 1) := by decide +kernel
theorem dL_law_864 : decode cL_law 864 = .ok (.iload_n 3, 1) := by decide +kernel
theorem dL_law_865 : decode cL_law 865 = .ok (.iconst 3, 1) := by decide +kernel
theorem dL_law_866 : decode cL_law 866 = .ok (.iadd, 1) := by decide +kernel
theorem dL_law_867 : decode cL_law 867 = .ok (.iaload, 1) := by decide +kernel
theorem dL_law_868 : decode cL_law 868 = .ok (.invokevirtual 98, 3) := by decide +kernel
theorem dL_law_871 : decode cL_law 871 = .ok (.aload_n 2, 1) := by decide +kernel
theorem dL_law_872 : decode cL_law 872 = .ok (.aload_n 0, 1) := by decide +kernel
theorem dL_law_873 : decode cL_law 873 = .ok (.iload_n 3, 1) := by decide +kernel
theorem dL_law_874 : decode cL_law 874 = .ok (.iconst 1, 1) := by decide +kernel
theorem dL_law_875 : decode cL_law 875 = .ok (.iadd, 1) := by decide +kernel
theorem dL_law_876 : decode cL_law 876 = .ok (.iaload, 1) := by decide +kernel
theorem dL_law_877 : decode cL_law 877 = .ok (.aload_n 0, 1) := by decide +kernel
theorem dL_law_878 : decode cL_law 878 = .ok (.iload_n 3, 1) := by decide +kernel
theorem dL_law_879 : decode cL_law 879 = .ok (.iconst 2, 1) := by decide +kernel
theorem dL_law_880 : decode cL_law 880 = .ok (.iadd, 1) := by decide +kernel
theorem dL_law_881 : decode cL_law 881 = .ok (.iaload, 1) := by decide +kernel
theorem dL_law_882 : decode cL_law 882 = .ok (.aload_n 0, 1) := by decide +kernel
theorem dL_law_883 : decode cL_law 883 = .ok (.iload_n 3, 1) := by decide +kernel
theorem dL_law_884 : decode cL_law 884 = .ok (.iconst 3, 1) := by decide +kernel
theorem dL_law_885 : decode cL_law 885 = .ok (.iadd, 1) := by decide +kernel
theorem dL_law_886 : decode cL_law 886 = .ok (.iaload, 1) := by decide +kernel
theorem dL_law_887 : decode cL_law 887 = .ok (.invokevirtual 101, 3) := by decide +kernel
theorem dL_law_890 : decode cL_law 890 = .ok (.if_icmp .eq 501, 3) := by decide +kernel
theorem dL_law_893 : decode cL_law 893 = .ok (.iconst 0, 1) := by decide +kernel
theorem dL_law_894 : decode cL_law 894 = .ok (.ireturn, 1) := by decide +kernel
theorem dL_law_895 : decode cL_law 895 = .ok (.aload_n 1, 1) := by decide +kernel
theorem dL_law_896 : decode cL_law 896 = .ok (.aload_n 0, 1) := by decide +kernel
theorem dL_law_897 : decode cL_law 897 = .ok (.iload_n 3, 1) := by decide +kernel
theorem dL_law_898 : decode cL_law 898 = .ok (.iconst 1, 1) := by decide +kernel
theorem dL_law_899 : decode cL_law 899 = .ok (.iadd, 1) := by decide +kernel
theorem dL_law_900 : decode cL_law 900 = .ok (.iaload, 1) := by decide +kernel
theorem dL_law_901 : decode cL_law 901 = .ok (.invokevirtual 102, 3) := by decide +kernel
theorem dL_law_904 : decode cL_law 904 = .ok (.aload_n 2, 1) := by decide +kernel
theorem dL_law_905 : decode cL_law 905 = .ok (.aload_n 0, 1) := by decide +kernel
theorem dL_law_906 : decode cL_law 906 = .ok (.iload_n 3, 1) := by decide +kernel
theorem dL_law_907 : decode cL_law 907 = .ok (.iconst 1, 1) := by decide +kernel
theorem dL_law_908 : decode cL_law 908 = .ok (.iadd, 1) := by decide +kernel
theorem dL_law_909 : decode cL_law 909 = .ok (.iaload, 1) := by decide +kernel
theorem dL_law_910 : decode cL_law 910 = .ok (.invokevirtual 105, 3) := by decide +kernel
theorem dL_law_913 : decode cL_law 913 = .ok (.if_icmp .eq 478, 3) := by decide +kernel
theorem dL_law_916 : decode cL_law 916 = .ok (.iconst 0, 1) := by decide +kernel
theorem dL_law_917 : decode cL_law 917 = .ok (.ireturn, 1) := by decide +kernel
theorem dL_law_918 : decode cL_law 918 = .ok (.aload_n 1, 1) := by decide +kernel
theorem dL_law_919 : decode cL_law 919 = .ok (.aload_n 0, 1) := by decide +kernel
theorem dL_law_920 : decode cL_law 920 = .ok (.iload_n 3, 1) := by decide +kernel
theorem dL_law_921 : decode cL_law 921 = .ok (.iconst 1, 1) := by decide +kernel
theorem dL_law_922 : decode cL_law 922 = .ok (.iadd, 1) := by decide +kernel
theorem dL_law_923 : decode cL_law 923 = .ok (.iaload, 1) := by decide +kernel
theorem dL_law_924 : decode cL_law 924 = .ok (.aload_n 0, 1) := by decide +kernel
theorem dL_law_925 : decode cL_law 925 = .ok (.iload_n 3, 1) := by decide +kernel
theorem dL_law_926 : decode cL_law 926 = .ok (.iconst 2, 1) := by decide +kernel
theorem dL_law_927 : decode cL_law 927 = .ok (.iadd, 1) := by decide +kernel
theorem dL_law_928 : decode cL_law 928 = .ok (.iaload, 1) := by decide +kernel
theorem dL_law_929 : decode cL_law 929 = .ok (.invokevirtual 106, 3) := by decide +kernel
theorem dL_law_932 : decode cL_law 932 = .ok (.aload_n 2, 1) := by decide +kernel
theorem dL_law_933 : decode cL_law 933 = .ok (.aload_n 0, 1) := by decide +kernel
theorem dL_law_934 : decode cL_law 934 = .ok (.iload_n 3, 1) := by decide +kernel
theorem dL_law_935 : decode cL_law 935 = .ok (.iconst 1, 1) := by decide +kernel
theorem dL_law_936 : decode cL_law 936 = .ok (.iadd, 1) := by decide +kernel
theorem dL_law_937 : decode cL_law 937 = .ok (.iaload, 1) := by decide +kernel
theorem dL_law_938 : decode cL_law 938 = .ok (.aload_n 0, 1) := by decide +kernel
theorem dL_law_939 : decode cL_law 939 = .ok (.iload_n 3, 1) := by decide +kernel
theorem dL_law_940 : decode cL_law 940 = .ok (.iconst 2, 1) := by decide +kernel
theorem dL_law_941 : decode cL_law 941 = .ok (.iadd, 1) := by decide +kernel
theorem dL_law_942 : decode cL_law 942 = .ok (.iaload, 1) := by decide +kernel
theorem dL_law_943 : decode cL_law 943 = .ok (.invokevirtual 109, 3) := by decide +kernel
theorem dL_law_946 : decode cL_law 946 = .ok (.if_icmp .eq 445, 3) := by decide +kernel
theorem dL_law_949 : decode cL_law 949 = .ok (.iconst 0, 1) := by decide +kernel
theorem dL_law_950 : decode cL_law 950 = .ok (.ireturn, 1) := by decide +kernel
theorem dL_law_951 : decode cL_law 951 = .ok (.aload_n 1, 1) := by decide +kernel
theorem dL_law_952 : decode cL_law 952 = .ok (.aload_n 0, 1) := by decide +kernel
theorem dL_law_953 : decode cL_law 953 = .ok (.iload_n 3, 1) := by decide +kernel
theorem dL_law_954 : decode cL_law 954 = .ok (.iconst 1, 1) := by decide +kernel
theorem dL_law_955 : decode cL_law 955 = .ok (.iadd, 1) := by decide +kernel
theorem dL_law_956 : decode cL_law 956 = .ok (.iaload, 1) := by decide +kernel
theorem dL_law_957 : decode cL_law 957 = .ok (.invokevirtual 110, 3) := by decide +kernel
theorem dL_law_960 : decode cL_law 960 = .ok (.aload_n 2, 1) := by decide +kernel
theorem dL_law_961 : decode cL_law 961 = .ok (.aload_n 0, 1) := by decide +kernel
theorem dL_law_962 : decode cL_law 962 = .ok (.iload_n 3, 1) := by decide +kernel
theorem dL_law_963 : decode cL_law 963 = .ok (.iconst 1, 1) := by decide +kernel
theorem dL_law_964 : decode cL_law 964 = .ok (.iadd, 1) := by decide +kernel
theorem dL_law_965 : decode cL_law 965 = .ok (.iaload, 1) := by decide +kernel
theorem dL_law_966 : decode cL_law 966 = .ok (.invokevirtual 113, 3) := by decide +kernel
theorem dL_law_969 : decode cL_law 969 = .ok (.if_icmp .eq 422, 3) := by decide +kernel
theorem dL_law_972 : decode cL_law 972 = .ok (.iconst 0, 1) := by decide +kernel
theorem dL_law_973 : decode cL_law 973 = .ok (.ireturn, 1) := by decide +kernel
theorem dL_law_974 : decode cL_law 974 = .ok (.aload_n 1, 1) := by decide +kernel
theorem dL_law_975 : decode cL_law 975 = .ok (.invokevirtual 114, 3) := by decide +kernel
theorem dL_law_978 : decode cL_law 978 = .ok (.aload_n 2, 1) := by decide +kernel
theorem dL_law_979 : decode cL_law 979 = .ok (.invokevirtual 117, 3) := by decide +kernel
theorem dL_law_982 : decode cL_law 982 = .ok (.if_icmp .eq 409, 3) := by decide +kernel
theorem dL_law_985 : decode cL_law 985 = .ok (.iconst 0, 1) := by decide +kernel
theorem dL_law_986 : decode cL_law 986 = .ok (.ireturn, 1) := by decide +kernel
theorem dL_law_987 : decode cL_law 987 = .ok (.aload_n 1, 1) := by decide +kernel
theorem dL_law_988 : decode cL_law 988 = .ok (.invokevirtual 118, 3) := by decide +kernel
theorem dL_law_991 : decode cL_law 991 = .ok (.aload_n 2, 1) := by decide +kernel
theorem dL_law_992 : decode cL_law 992 = .ok (.invokevirtual 121, 3) := by decide +kernel
theorem dL_law_995 : decode cL_law 995 = .ok (.if_icmp .eq 396, 3) := by decide +kernel
theorem dL_law_998 : decode cL_law 998 = .ok (.iconst 0, 1) := by decide +kernel
theorem dL_law_999 : decode cL_law 999 = .ok (.ireturn, 1) := by decide +kernel
theorem dL_law_1000 : decode cL_law 1000 = .ok (.aload_n 1, 1) := by decide +kernel
theorem dL_law_1001 : decode cL_law 1001 = .ok (.aload_n 0, 1) := by decide +kernel
theorem dL_law_1002 : decode cL_law 1002 = .ok (.iload_n 3, 1) := by decide +kernel
theorem dL_law_1003 : decode cL_law 1003 = .ok (.iconst 1, 1) := by decide +kernel
theorem dL_law_1004 : decode cL_law 1004 = .ok (.iadd, 1) := by decide +kernel
theorem dL_law_1005 : decode cL_law 1005 = .ok (.iaload, 1) := by decide +kernel
theorem dL_law_1006 : decode cL_law 1006 = .ok (.invokevirtual 122, 3) := by decide +kernel
theorem dL_law_1009 : decode cL_law 1009 = .ok (.aload_n 2, 1) := by decide +kernel
theorem dL_law_1010 : decode cL_law 1010 = .ok (.aload_n 0, 1) := by decide +kernel
theorem dL_law_1011 : decode cL_law 1011 = .ok (.iload_n 3, 1) := by decide +kernel
theorem dL_law_1012 : decode cL_law 1012 = .ok (.iconst 1, 1) := by decide +kernel
theorem dL_law_1013 : decode cL_law 1013 = .ok (.iadd, 1) := by decide +kernel
theorem dL_law_1014 : decode cL_law 1014 = .ok (.iaload, 1) := by decide +kernel
theorem dL_law_1015 : decode cL_law 1015 = .ok (.invokevirtual 125, 3) := by decide +kernel
theorem dL_law_1018 : decode cL_law 1018 = .ok (.if_icmp .eq 373, 3) := by decide +kernel
theorem dL_law_1021 : decode cL_law 1021 = .ok (.iconst 0, 1) := by decide +kernel
theorem dL_law_1022 : decode cL_law 1022 = .ok (.ireturn, 1) := by decide +kernel
theorem dL_law_1023 : decode cL_law 1023 = .ok (.aload_n 1, 1) := by decide +kernel
theorem dL_law_1024 : decode cL_law 1024 = .ok (.aload_n 0, 1) := by decide +kernel
theorem dL_law_1025 : decode cL_law 1025 = .ok (.iload_n 3, 1) := by decide +kernel
theorem dL_law_1026 : decode cL_law 1026 = .ok (.iconst 1, 1) := by decide +kernel
theorem dL_law_1027 : decode cL_law 1027 = .ok (.iadd, 1) := by decide +kernel
theorem dL_law_1028 : decode cL_law 1028 = .ok (.iaload, 1) := by decide +kernel
theorem dL_law_1029 : decode cL_law 1029 = .ok (.aload_n 0, 1) := by decide +kernel
theorem dL_law_1030 : decode cL_law 1030 = .ok (.iload_n 3, 1) := by decide +kernel
theorem dL_law_1031 : decode cL_law 1031 = .ok (.iconst 2, 1) := by decide +kernel
theorem dL_law_1032 : decode cL_law 1032 = .ok (.iadd, 1) := by decide +kernel
theorem dL_law_1033 : decode cL_law 1033 = .ok (.iaload, 1) := by decide +kernel
theorem dL_law_1034 : decode cL_law 1034 = .ok (.aload_n 0, 1) := by decide +kernel
theorem dL_law_1035 : decode cL_law 1035 = .ok (.iload_n 3, 1) := by decide +kernel
theorem dL_law_1036 : decode cL_law 1036 = .ok (.iconst 3, 1) := by decide +kernel
theorem dL_law_1037 : decode cL_law 1037 = .ok (.iadd, 1) := by decide +kernel
theorem dL_law_1038 : decode cL_law 1038 = .ok (.iaload, 1) := by decide +kernel
theorem dL_law_1039 : decode cL_law 1039 = .ok (.invokevirtual 126, 3) := by decide +kernel
theorem dL_law_1042 : decode cL_law 1042 = .ok (.aload_n 2, 1) := by decide +kernel
theorem dL_law_1043 : decode cL_law 1043 = .ok (.aload_n 0, 1) := by decide +kernel
theorem dL_law_1044 : decode cL_law 1044 = .ok (.iload_n 3, 1) := by decide +kernel
theorem dL_law_1045 : decode cL_law 1045 = .ok (.iconst 1, 1) := by decide +kernel
theorem dL_law_1046 : decode cL_law 1046 = .ok (.iadd, 1) := by decide +kernel
theorem dL_law_1047 : decode cL_law 1047 = .ok (.iaload, 1) := by decide +kernel
theorem dL_law_1048 : decode cL_law 1048 = .ok (.aload_n 0, 1) := by decide +kernel
theorem dL_law_1049 : decode cL_law 1049 = .ok (.iload_n 3, 1) := by decide +kernel
theorem dL_law_1050 : decode cL_law 1050 = .ok (.iconst 2, 1) := by decide +kernel
theorem dL_law_1051 : decode cL_law 1051 = .ok (.iadd, 1) := by decide +kernel
theorem dL_law_1052 : decode cL_law 1052 = .ok (.iaload, 1) := by decide +kernel
theorem dL_law_1053 : decode cL_law 1053 = .ok (.aload_n 0, 1) := by decide +kernel
theorem dL_law_1054 : decode cL_law 1054 = .ok (.iload_n 3, 1) := by decide +kernel
theorem dL_law_1055 : decode cL_law 1055 = .ok (.iconst 3, 1) := by decide +kernel
theorem dL_law_1056 : decode cL_law 1056 = .ok (.iadd, 1) := by decide +kernel
theorem dL_law_1057 : decode cL_law 1057 = .ok (.iaload, 1) := by decide +kernel
theorem dL_law_1058 : decode cL_law 1058 = .ok (.invokevirtual 129, 3) := by decide +kernel
theorem dL_law_1061 : decode cL_law 1061 = .ok (.if_icmp .eq 330, 3) := by decide +kernel
theorem dL_law_1064 : decode cL_law 1064 = .ok (.iconst 0, 1) := by decide +kernel
theorem dL_law_1065 : decode cL_law 1065 = .ok (.ireturn, 1) := by decide +kernel
theorem dL_law_1066 : decode cL_law 1066 = .ok (.aload_n 1, 1) := by decide +kernel
theorem dL_law_1067 : decode cL_law 1067 = .ok (.aload_n 0, 1) := by decide +kernel
theorem dL_law_1068 : decode cL_law 1068 = .ok (.iload_n 3, 1) := by decide +kernel
theorem dL_law_1069 : decode cL_law 1069 = .ok (.iconst 1, 1) := by decide +kernel
theorem dL_law_1070 : decode cL_law 1070 = .ok (.iadd, 1) := by decide +kernel
theorem dL_law_1071 : decode cL_law 1071 = .ok (.iaload, 1) := by decide +kernel
theorem dL_law_1072 : decode cL_law 1072 = .ok (.invokevirtual 130, 3) := by decide +kernel
theorem dL_law_1075 : decode cL_law 1075 = .ok (.aload_n 2, 1) := by decide +kernel
theorem dL_law_1076 : decode cL_law 1076 = .ok (.aload_n 0, 1) := by decide +kernel
theorem dL_law_1077 : decode cL_law 1077 = .ok (.iload_n 3, 1) := by decide +kernel
theorem dL_law_1078 : decode cL_law 1078 = .ok (.iconst 1, 1) := by decide +kernel
theorem dL_law_1079 : decode cL_law 1079 = .ok (.iadd, 1) := by decide +kernel
theorem dL_law_1080 : decode cL_law 1080 = .ok (.iaload, 1) := by decide +kernel
theorem dL_law_1081 : decode cL_law 1081 = .ok (.invokevirtual 133, 3) := by decide +kernel
theorem dL_law_1084 : decode cL_law 1084 = .ok (.if_icmp .eq 307, 3) := by decide +kernel
theorem dL_law_1087 : decode cL_law 1087 = .ok (.iconst 0, 1) := by decide +kernel
theorem dL_law_1088 : decode cL_law 1088 = .ok (.ireturn, 1) := by decide +kernel
theorem dL_law_1089 : decode cL_law 1089 = .ok (.aload_n 1, 1) := by decide +kernel
theorem dL_law_1090 : decode cL_law 1090 = .ok (.aload_n 0, 1) := by decide +kernel
theorem dL_law_1091 : decode cL_law 1091 = .ok (.iload_n 3, 1) := by decide +kernel
theorem dL_law_1092 : decode cL_law 1092 = .ok (.iconst 1, 1) := by decide +kernel
theorem dL_law_1093 : decode cL_law 1093 = .ok (.iadd, 1) := by decide +kernel
theorem dL_law_1094 : decode cL_law 1094 = .ok (.iaload, 1) := by decide +kernel
theorem dL_law_1095 : decode cL_law 1095 = .ok (.aload_n 0, 1) := by decide +kernel
theorem dL_law_1096 : decode cL_law 1096 = .ok (.iload_n 3, 1) := by decide +kernel
theorem dL_law_1097 : decode cL_law 1097 = .ok (.iconst 2, 1) := by decide +kernel
theorem dL_law_1098 : decode cL_law 1098 = .ok (.iadd, 1) := by decide +kernel
theorem dL_law_1099 : decode cL_law 1099 = .ok (.iaload, 1) := by decide +kernel
theorem dL_law_1100 : decode cL_law 1100 = .ok (.invokevirtual 134, 3) := by decide +kernel
theorem dL_law_1103 : decode cL_law 1103 = .ok (.aload_n 2, 1) := by decide +kernel
theorem dL_law_1104 : decode cL_law 1104 = .ok (.aload_n 0, 1) := by decide +kernel
theorem dL_law_1105 : decode cL_law 1105 = .ok (.iload_n 3, 1) := by decide +kernel
theorem dL_law_1106 : decode cL_law 1106 = .ok (.iconst 1, 1) := by decide +kernel
theorem dL_law_1107 : decode cL_law 1107 = .ok (.iadd, 1) := by decide +kernel
theorem dL_law_1108 : decode cL_law 1108 = .ok (.iaload, 1) := by decide +kernel
theorem dL_law_1109 : decode cL_law 1109 = .ok (.aload_n 0, 1) := by decide +kernel
theorem dL_law_1110 : decode cL_law 1110 = .ok (.iload_n 3, 1) := by decide +kernel
theorem dL_law_1111 : decode cL_law 1111 = .ok (.iconst 2, 1) := by decide +kernel
theorem dL_law_1112 : decode cL_law 1112 = .ok (.iadd, 1) := by decide +kernel
theorem dL_law_1113 : decode cL_law 1113 = .ok (.iaload, 1) := by decide +kernel
theorem dL_law_1114 : decode cL_law 1114 = .ok (.invokevirtual 137, 3) := by decide +kernel
theorem dL_law_1117 : decode cL_law 1117 = .ok (.if_icmp .eq 274, 3) := by decide +kernel
theorem dL_law_1120 : decode cL_law 1120 = .ok (.iconst 0, 1) := by decide +kernel
theorem dL_law_1121 : decode cL_law 1121 = .ok (.ireturn, 1) := by decide +kernel
theorem dL_law_1122 : decode cL_law 1122 = .ok (.aload_n 1, 1) := by decide +kernel
theorem dL_law_1123 : decode cL_law 1123 = .ok (.aload_n 0, 1) := by decide +kernel
theorem dL_law_1124 : decode cL_law 1124 = .ok (.iload_n 3, 1) := by decide +kernel
theorem dL_law_1125 : decode cL_law 1125 = .ok (.iconst 1, 1) := by decide +kernel
theorem dL_law_1126 : decode cL_law 1126 = .ok (.iadd, 1) := by decide +kernel
theorem dL_law_1127 : decode cL_law 1127 = .ok (.iaload, 1) := by decide +kernel
theorem dL_law_1128 : decode cL_law 1128 = .ok (.aload_n 0, 1) := by decide +kernel
theorem dL_law_1129 : decode cL_law 1129 = .ok (.iload_n 3, 1) := by decide +kernel
theorem dL_law_1130 : decode cL_law 1130 = .ok (.iconst 2, 1) := by decide +kernel
theorem dL_law_1131 : decode cL_law 1131 = .ok (.iadd, 1) := by decide +kernel
theorem dL_law_1132 : decode cL_law 1132 = .ok (.iaload, 1) := by decide +kernel
theorem dL_law_1133 : decode cL_law 1133 = .ok (.aload_n 0, 1) := by decide +kernel
theorem dL_law_1134 : decode cL_law 1134 = .ok (.iload_n 3, 1) := by decide +kernel
theorem dL_law_1135 : decode cL_law 1135 = .ok (.iconst 3, 1) := by decide +kernel
theorem dL_law_1136 : decode cL_law 1136 = .ok (.iadd, 1) := by decide +kernel
theorem dL_law_1137 : decode cL_law 1137 = .ok (.iaload, 1) := by decide +kernel
theorem dL_law_1138 : decode cL_law 1138 = .ok (.invokevirtual 138, 3) := by decide +kernel
theorem dL_law_1141 : decode cL_law 1141 = .ok (.aload_n 2, 1) := by decide +kernel
theorem dL_law_1142 : decode cL_law 1142 = .ok (.aload_n 0, 1) := by decide +kernel
theorem dL_law_1143 : decode cL_law 1143 = .ok (.iload_n 3, 1) := by decide +kernel
theorem dL_law_1144 : decode cL_law 1144 = .ok (.iconst 1, 1) := by decide +kernel
theorem dL_law_1145 : decode cL_law 1145 = .ok (.iadd, 1) := by decide +kernel
theorem dL_law_1146 : decode cL_law 1146 = .ok (.iaload, 1) := by decide +kernel
theorem dL_law_1147 : decode cL_law 1147 = .ok (.aload_n 0, 1) := by decide +kernel
theorem dL_law_1148 : decode cL_law 1148 = .ok (.iload_n 3, 1) := by decide +kernel
theorem dL_law_1149 : decode cL_law 1149 = .ok (.iconst 2, 1) := by decide +kernel
theorem dL_law_1150 : decode cL_law 1150 = .ok (.iadd, 1) := by decide +kernel
theorem dL_law_1151 : decode cL_law 1151 = .ok (.iaload, 1) := by decide +kernel
theorem dL_law_1152 : decode cL_law 1152 = .ok (.aload_n 0, 1) := by decide +kernel
theorem dL_law_1153 : decode cL_law 1153 = .ok (.iload_n 3, 1) := by decide +kernel
theorem dL_law_1154 : decode cL_law 1154 = .ok (.iconst 3, 1) := by decide +kernel
theorem dL_law_1155 : decode cL_law 1155 = .ok (.iadd, 1) := by decide +kernel
theorem dL_law_1156 : decode cL_law 1156 = .ok (.iaload, 1) := by decide +kernel
theorem dL_law_1157 : decode cL_law 1157 = .ok (.invokevirtual 141, 3) := by decide +kernel
theorem dL_law_1160 : decode cL_law 1160 = .ok (.if_icmp .eq 231, 3) := by decide +kernel
theorem dL_law_1163 : decode cL_law 1163 = .ok (.iconst 0, 1) := by decide +kernel
theorem dL_law_1164 : decode cL_law 1164 = .ok (.ireturn, 1) := by decide +kernel
theorem dL_law_1165 : decode cL_law 1165 = .ok (.aload_n 1, 1) := by decide +kernel
theorem dL_law_1166 : decode cL_law 1166 = .ok (.aload_n 0, 1) := by decide +kernel
theorem dL_law_1167 : decode cL_law 1167 = .ok (.iload_n 3, 1) := by decide +kernel
theorem dL_law_1168 : decode cL_law 1168 = .ok (.iconst 1, 1) := by decide +kernel
theorem dL_law_1169 : decode cL_law 1169 = .ok (.iadd, 1) := by decide +kernel
theorem dL_law_1170 : decode cL_law 1170 = .ok (.iaload, 1) := by decide +kernel
theorem dL_law_1171 : decode cL_law 1171 = .ok (.aload_n 0, 1) := by decide +kernel
theorem dL_law_1172 : decode cL_law 1172 = .ok (.iload_n 3, 1) := by decide +kernel
theorem dL_law_1173 : decode cL_law 1173 = .ok (.iconst 2, 1) := by decide +kernel
theorem dL_law_1174 : decode cL_law 1174 = .ok (.iadd, 1) := by decide +kernel
theorem dL_law_1175 : decode cL_law 1175 = .ok (.iaload, 1) := by decide +kernel
theorem dL_law_1176 : decode cL_law 1176 = .ok (.aload_n 0, 1) := by decide +kernel
theorem dL_law_1177 : decode cL_law 1177 = .ok (.iload_n 3, 1) := by decide +kernel
theorem dL_law_1178 : decode cL_law 1178 = .ok (.iconst 3, 1) := by decide +kernel
theorem dL_law_1179 : decode cL_law 1179 = .ok (.iadd, 1) := by decide +kernel
theorem dL_law_1180 : decode cL_law 1180 = .ok (.iaload, 1) := by decide +kernel
theorem dL_law_1181 : decode cL_law 1181 = .ok (.i2l, 1) := by decide +kernel
theorem dL_law_1182 : decode cL_law 1182 = .ok (.bipush 32, 2) := by decide +kernel
theorem dL_law_1184 : decode cL_law 1184 = .ok (.lshl, 1) := by decide +kernel
theorem dL_law_1185 : decode cL_law 1185 = .ok (.aload_n 0, 1) := by decide +kernel
theorem dL_law_1186 : decode cL_law 1186 = .ok (.iload_n 3, 1) := by decide +kernel
theorem dL_law_1187 : decode cL_law 1187 = .ok (.iconst 4, 1) := by decide +kernel
theorem dL_law_1188 : decode cL_law 1188 = .ok (.iadd, 1) := by decide +kernel
theorem dL_law_1189 : decode cL_law 1189 = .ok (.iaload, 1) := by decide +kernel
theorem dL_law_1190 : decode cL_law 1190 = .ok (.i2l, 1) := by decide +kernel
theorem dL_law_1191 : decode cL_law 1191 = .ok (.ldc2_w 142, 3) := by decide +kernel
theorem dL_law_1194 : decode cL_law 1194 = .ok (.land, 1) := by decide +kernel
theorem dL_law_1195 : decode cL_law 1195 = .ok (.lor, 1) := by decide +kernel
theorem dL_law_1196 : decode cL_law 1196 = .ok (.invokevirtual 144, 3) := by decide +kernel
theorem dL_law_1199 : decode cL_law 1199 = .ok (.aload_n 2, 1) := by decide +kernel
theorem dL_law_1200 : decode cL_law 1200 = .ok (.aload_n 0, 1) := by decide +kernel
theorem dL_law_1201 : decode cL_law 1201 = .ok (.iload_n 3, 1) := by decide +kernel
theorem dL_law_1202 : decode cL_law 1202 = .ok (.iconst 1, 1) := by decide +kernel
theorem dL_law_1203 : decode cL_law 1203 = .ok (.iadd, 1) := by decide +kernel
theorem dL_law_1204 : decode cL_law 1204 = .ok (.iaload, 1) := by decide +kernel
theorem dL_law_1205 : decode cL_law 1205 = .ok (.aload_n 0, 1) := by decide +kernel
theorem dL_law_1206 : decode cL_law 1206 = .ok (.iload_n 3, 1) := by decide +kernel
theorem dL_law_1207 : decode cL_law 1207 = .ok (.iconst 2, 1) := by decide +kernel
theorem dL_law_1208 : decode cL_law 1208 = .ok (.iadd, 1) := by decide +kernel
theorem dL_law_1209 : decode cL_law 1209 = .ok (.iaload, 1) := by decide +kernel
theorem dL_law_1210 : decode cL_law 1210 = .ok (.aload_n 0, 1) := by decide +kernel
theorem dL_law_1211 : decode cL_law 1211 = .ok (.iload_n 3, 1) := by decide +kernel
theorem dL_law_1212 : decode cL_law 1212 = .ok (.iconst 3, 1) := by decide +kernel
theorem dL_law_1213 : decode cL_law 1213 = .ok (.iadd, 1) := by decide +kernel
theorem dL_law_1214 : decode cL_law 1214 = .ok (.iaload, 1) := by decide +kernel
theorem dL_law_1215 : decode cL_law 1215 = .ok (.i2l, 1) := by decide +kernel
theorem dL_law_1216 : decode cL_law 1216 = .ok (.bipush 32, 2) := by decide +kernel
theorem dL_law_1218 : decode cL_law 1218 = .ok (.lshl, 1) := by decide +kernel
theorem dL_law_1219 : decode cL_law 1219 = .ok (.aload_n 0, 1) := by decide +kernel
theorem dL_law_1220 : decode cL_law 1220 = .ok (.iload_n 3, 1) := by decide +kernel
theorem dL_law_1221 : decode cL_law 1221 = .ok (.iconst 4, 1) := by decide +kernel
theorem dL_law_1222 : decode cL_law 1222 = .ok (.iadd, 1) := by decide +kernel
theorem dL_law_1223 : decode cL_law 1223 = .ok (.iaload, 1) := by decide +kernel
theorem dL_law_1224 : decode cL_law 1224 = .ok (.i2l, 1) := by decide +kernel
theorem dL_law_1225 : decode cL_law 1225 = .ok (.ldc2_w 142, 3) := by decide +kernel
theorem dL_law_1228 : decode cL_law 1228 = .ok (.land, 1) := by decide +kernel
theorem dL_law_1229 : decode cL_law 1229 = .ok (.lor, 1) := by decide +kernel
theorem dL_law_1230 : decode cL_law 1230 = .ok (.invokevirtual 148, 3) := by decide +kernel
theorem dL_law_1233 : decode cL_law 1233 = .ok (.if_icmp .eq 158, 3) := by decide +kernel
theorem dL_law_1236 : decode cL_law 1236 = .ok (.iconst 0, 1) := by decide +kernel
theorem dL_law_1237 : decode cL_law 1237 = .ok (.ireturn, 1) := by decide +kernel
theorem dL_law_1238 : decode cL_law 1238 = .ok (.aload_n 1, 1) := by decide +kernel
theorem dL_law_1239 : decode cL_law 1239 = .ok (.aload_n 0, 1) := by decide +kernel
theorem dL_law_1240 : decode cL_law 1240 = .ok (.iload_n 3, 1) := by decide +kernel
theorem dL_law_1241 : decode cL_law 1241 = .ok (.iconst 1, 1) := by decide +kernel
theorem dL_law_1242 : decode cL_law 1242 = .ok (.iadd, 1) := by decide +kernel
theorem dL_law_1243 : decode cL_law 1243 = .ok (.iaload, 1) := by decide +kernel
theorem dL_law_1244 : decode cL_law 1244 = .ok (.aload_n 0, 1) := by decide +kernel
theorem dL_law_1245 : decode cL_law 1245 = .ok (.iload_n 3, 1) := by decide +kernel
theorem dL_law_1246 : decode cL_law 1246 = .ok (.iconst 2, 1) := by decide +kernel
theorem dL_law_1247 : decode cL_law 1247 = .ok (.iadd, 1) := by decide +kernel
theorem dL_law_1248 : decode cL_law 1248 = .ok (.iaload, 1) := by decide +kernel
theorem dL_law_1249 : decode cL_law 1249 = .ok (.invokevirtual 149, 3) := by decide +kernel
theorem dL_law_1252 : decode cL_law 1252 = .ok (.aload_n 2, 1) := by decide +kernel
theorem dL_law_1253 : decode cL_law 1253 = .ok (.aload_n 0, 1) := by decide +kernel
theorem dL_law_1254 : decode cL_law 1254 = .ok (.iload_n 3, 1) := by decide +kernel
theorem dL_law_1255 : decode cL_law 1255 = .ok (.iconst 1, 1) := by decide +kernel
theorem dL_law_1256 : decode cL_law 1256 = .ok (.iadd, 1) := by decide +kernel
theorem dL_law_1257 : decode cL_law 1257 = .ok (.iaload, 1) := by decide +kernel
theorem dL_law_1258 : decode cL_law 1258 = .ok (.aload_n 0, 1) := by decide +kernel
theorem dL_law_1259 : decode cL_law 1259 = .ok (.iload_n 3, 1) := by decide +kernel
theorem dL_law_1260 : decode cL_law 1260 = .ok (.iconst 2, 1) := by decide +kernel
theorem dL_law_1261 : decode cL_law 1261 = .ok (.iadd, 1) := by decide +kernel
theorem dL_law_1262 : decode cL_law 1262 = .ok (.iaload, 1) := by decide +kernel
theorem dL_law_1263 : decode cL_law 1263 = .ok (.invokevirtual 153, 3) := by decide +kernel
theorem dL_law_1266 : decode cL_law 1266 = .ok (.lcmp, 1) := by decide +kernel
theorem dL_law_1267 : decode cL_law 1267 = .ok (.ifCond .eq 124, 3) := by decide +kernel
theorem dL_law_1270 : decode cL_law 1270 = .ok (.iconst 0, 1) := by decide +kernel
theorem dL_law_1271 : decode cL_law 1271 = .ok (.ireturn, 1) := by decide +kernel
theorem dL_law_1272 : decode cL_law 1272 = .ok (.aload_n 1, 1) := by decide +kernel
theorem dL_law_1273 : decode cL_law 1273 = .ok (.aload_n 0, 1) := by decide +kernel
theorem dL_law_1274 : decode cL_law 1274 = .ok (.iload_n 3, 1) := by decide +kernel
theorem dL_law_1275 : decode cL_law 1275 = .ok (.iconst 1, 1) := by decide +kernel
theorem dL_law_1276 : decode cL_law 1276 = .ok (.iadd, 1) := by decide +kernel
theorem dL_law_1277 : decode cL_law 1277 = .ok (.iaload, 1) := by decide +kernel
theorem dL_law_1278 : decode cL_law 1278 = .ok (.aload_n 0, 1) := by decide +kernel
theorem dL_law_1279 : decode cL_law 1279 = .ok (.iload_n 3, 1) := by decide +kernel
theorem dL_law_1280 : decode cL_law 1280 = .ok (.iconst 2, 1) := by decide +kernel
theorem dL_law_1281 : decode cL_law 1281 = .ok (.iadd, 1) := by decide +kernel
theorem dL_law_1282 : decode cL_law 1282 = .ok (.iaload, 1) := by decide +kernel
theorem dL_law_1283 : decode cL_law 1283 = .ok (.aload_n 0, 1) := by decide +kernel
theorem dL_law_1284 : decode cL_law 1284 = .ok (.iload_n 3, 1) := by decide +kernel
theorem dL_law_1285 : decode cL_law 1285 = .ok (.iconst 3, 1) := by decide +kernel
theorem dL_law_1286 : decode cL_law 1286 = .ok (.iadd, 1) := by decide +kernel
theorem dL_law_1287 : decode cL_law 1287 = .ok (.iaload, 1) := by decide +kernel
theorem dL_law_1288 : decode cL_law 1288 = .ok (.aload_n 0, 1) := by decide +kernel
theorem dL_law_1289 : decode cL_law 1289 = .ok (.iload_n 3, 1) := by decide +kernel
theorem dL_law_1290 : decode cL_law 1290 = .ok (.iconst 4, 1) := by decide +kernel
theorem dL_law_1291 : decode cL_law 1291 = .ok (.iadd, 1) := by decide +kernel
theorem dL_law_1292 : decode cL_law 1292 = .ok (.iaload, 1) := by decide +kernel
theorem dL_law_1293 : decode cL_law 1293 = .ok (.aload_n 0, 1) := by decide +kernel
theorem dL_law_1294 : decode cL_law 1294 = .ok (.iload_n 3, 1) := by decide +kernel
theorem dL_law_1295 : decode cL_law 1295 = .ok (.iconst 5, 1) := by decide +kernel
theorem dL_law_1296 : decode cL_law 1296 = .ok (.iadd, 1) := by decide +kernel
theorem dL_law_1297 : decode cL_law 1297 = .ok (.iaload, 1) := by decide +kernel
theorem dL_law_1298 : decode cL_law 1298 = .ok (.invokevirtual 154, 3) := by decide +kernel
theorem dL_law_1301 : decode cL_law 1301 = .ok (.aload_n 2, 1) := by decide +kernel
theorem dL_law_1302 : decode cL_law 1302 = .ok (.aload_n 0, 1) := by decide +kernel
theorem dL_law_1303 : decode cL_law 1303 = .ok (.iload_n 3, 1) := by decide +kernel
theorem dL_law_1304 : decode cL_law 1304 = .ok (.iconst 1, 1) := by decide +kernel
theorem dL_law_1305 : decode cL_law 1305 = .ok (.iadd, 1) := by decide +kernel
theorem dL_law_1306 : decode cL_law 1306 = .ok (.iaload, 1) := by decide +kernel
theorem dL_law_1307 : decode cL_law 1307 = .ok (.aload_n 0, 1) := by decide +kernel
theorem dL_law_1308 : decode cL_law 1308 = .ok (.iload_n 3, 1) := by decide +kernel
theorem dL_law_1309 : decode cL_law 1309 = .ok (.iconst 2, 1) := by decide +kernel
theorem dL_law_1310 : decode cL_law 1310 = .ok (.iadd, 1) := by decide +kernel
theorem dL_law_1311 : decode cL_law 1311 = .ok (.iaload, 1) := by decide +kernel
theorem dL_law_1312 : decode cL_law 1312 = .ok (.aload_n 0, 1) := by decide +kernel
theorem dL_law_1313 : decode cL_law 1313 = .ok (.iload_n 3, 1) := by decide +kernel
theorem dL_law_1314 : decode cL_law 1314 = .ok (.iconst 3, 1) := by decide +kernel
theorem dL_law_1315 : decode cL_law 1315 = .ok (.iadd, 1) := by decide +kernel
theorem dL_law_1316 : decode cL_law 1316 = .ok (.iaload, 1) := by decide +kernel
theorem dL_law_1317 : decode cL_law 1317 = .ok (.aload_n 0, 1) := by decide +kernel
theorem dL_law_1318 : decode cL_law 1318 = .ok (.iload_n 3, 1) := by decide +kernel
theorem dL_law_1319 : decode cL_law 1319 = .ok (.iconst 4, 1) := by decide +kernel
theorem dL_law_1320 : decode cL_law 1320 = .ok (.iadd, 1) := by decide +kernel
theorem dL_law_1321 : decode cL_law 1321 = .ok (.iaload, 1) := by decide +kernel
theorem dL_law_1322 : decode cL_law 1322 = .ok (.aload_n 0, 1) := by decide +kernel
theorem dL_law_1323 : decode cL_law 1323 = .ok (.iload_n 3, 1) := by decide +kernel
theorem dL_law_1324 : decode cL_law 1324 = .ok (.iconst 5, 1) := by decide +kernel
theorem dL_law_1325 : decode cL_law 1325 = .ok (.iadd, 1) := by decide +kernel
theorem dL_law_1326 : decode cL_law 1326 = .ok (.iaload, 1) := by decide +kernel
theorem dL_law_1327 : decode cL_law 1327 = .ok (.invokevirtual 158, 3) := by decide +kernel
theorem dL_law_1330 : decode cL_law 1330 = .ok (.if_icmp .eq 61, 3) := by decide +kernel
theorem dL_law_1333 : decode cL_law 1333 = .ok (.iconst 0, 1) := by decide +kernel
theorem dL_law_1334 : decode cL_law 1334 = .ok (.ireturn, 1) := by decide +kernel
theorem dL_law_1335 : decode cL_law 1335 = .ok (.aload_n 1, 1) := by decide +kernel
theorem dL_law_1336 : decode cL_law 1336 = .ok (.aload_n 0, 1) := by decide +kernel
theorem dL_law_1337 : decode cL_law 1337 = .ok (.iload_n 3, 1) := by decide +kernel
theorem dL_law_1338 : decode cL_law 1338 = .ok (.iconst 1, 1) := by decide +kernel
theorem dL_law_1339 : decode cL_law 1339 = .ok (.iadd, 1) := by decide +kernel
theorem dL_law_1340 : decode cL_law 1340 = .ok (.iaload, 1) := by decide +kernel
theorem dL_law_1341 : decode cL_law 1341 = .ok (.aload_n 0, 1) := by decide +kernel
theorem dL_law_1342 : decode cL_law 1342 = .ok (.iload_n 3, 1) := by decide +kernel
theorem dL_law_1343 : decode cL_law 1343 = .ok (.iconst 2, 1) := by decide +kernel
theorem dL_law_1344 : decode cL_law 1344 = .ok (.iadd, 1) := by decide +kernel
theorem dL_law_1345 : decode cL_law 1345 = .ok (.iaload, 1) := by decide +kernel
theorem dL_law_1346 : decode cL_law 1346 = .ok (.invokevirtual 159, 3) := by decide +kernel
theorem dL_law_1349 : decode cL_law 1349 = .ok (.aload_n 2, 1) := by decide +kernel
theorem dL_law_1350 : decode cL_law 1350 = .ok (.aload_n 0, 1) := by decide +kernel
theorem dL_law_1351 : decode cL_law 1351 = .ok (.iload_n 3, 1) := by decide +kernel
theorem dL_law_1352 : decode cL_law 1352 = .ok (.iconst 1, 1) := by decide +kernel
theorem dL_law_1353 : decode cL_law 1353 = .ok (.iadd, 1) := by decide +kernel
theorem dL_law_1354 : decode cL_law 1354 = .ok (.iaload, 1) := by decide +kernel
theorem dL_law_1355 : decode cL_law 1355 = .ok (.aload_n 0, 1) := by decide +kernel
theorem dL_law_1356 : decode cL_law 1356 = .ok (.iload_n 3, 1) := by decide +kernel
theorem dL_law_1357 : decode cL_law 1357 = .ok (.iconst 2, 1) := by decide +kernel
theorem dL_law_1358 : decode cL_law 1358 = .ok (.iadd, 1) := by decide +kernel
theorem dL_law_1359 : decode cL_law 1359 = .ok (.iaload, 1) := by decide +kernel
theorem dL_law_1360 : decode cL_law 1360 = .ok (.invokevirtual 162, 3) := by decide +kernel
theorem dL_law_1363 : decode cL_law 1363 = .ok (.if_icmp .eq 28, 3) := by decide +kernel
theorem dL_law_1366 : decode cL_law 1366 = .ok (.iconst 0, 1) := by decide +kernel
theorem dL_law_1367 : decode cL_law 1367 = .ok (.ireturn, 1) := by decide +kernel
theorem dL_law_1368 : decode cL_law 1368 = .ok (.aload_n 1, 1) := by decide +kernel
theorem dL_law_1369 : decode cL_law 1369 = .ok (.aload_n 0, 1) := by decide +kernel
theorem dL_law_1370 : decode cL_law 1370 = .ok (.iload_n 3, 1) := by decide +kernel
theorem dL_law_1371 : decode cL_law 1371 = .ok (.iconst 1, 1) := by decide +kernel
theorem dL_law_1372 : decode cL_law 1372 = .ok (.iadd, 1) := by decide +kernel
theorem dL_law_1373 : decode cL_law 1373 = .ok (.iaload, 1) := by decide +kernel
theorem dL_law_1374 : decode cL_law 1374 = .ok (.invokevirtual 163, 3) := by decide +kernel
theorem dL_law_1377 : decode cL_law 1377 = .ok (.aload_n 2, 1) := by decide +kernel
theorem dL_law_1378 : decode cL_law 1378 = .ok (.aload_n 0, 1) := by decide +kernel
theorem dL_law_1379 : decode cL_law 1379 = .ok (.iload_n 3, 1) := by decide +kernel
theorem dL_law_1380 : decode cL_law 1380 = .ok (.iconst 1, 1) := by decide +kernel
theorem dL_law_1381 : decode cL_law 1381 = .ok (.iadd, 1) := by decide +kernel
theorem dL_law_1382 : decode cL_law 1382 = .ok (.iaload, 1) := by decide +kernel
theorem dL_law_1383 : decode cL_law 1383 = .ok (.invokevirtual 166, 3) := by decide +kernel
theorem dL_law_1386 : decode cL_law 1386 = .ok (.if_icmp .eq 5, 3) := by decide +kernel
theorem dL_law_1389 : decode cL_law 1389 = .ok (.iconst 0, 1) := by decide +kernel
theorem dL_law_1390 : decode cL_law 1390 = .ok (.ireturn, 1) := by decide +kernel
theorem dL_law_1391 : decode cL_law 1391 = .ok (.iinc 3 6, 3) := by decide +kernel
theorem dL_law_1394 : decode cL_law 1394 = .ok (.goto (-1376), 3) := by decide +kernel
theorem dL_law_1397 : decode cL_law 1397 = .ok (.iconst 1, 1) := by decide +kernel
theorem dL_law_1398 : decode cL_law 1398 = .ok (.ireturn, 1) := by decide +kernel
