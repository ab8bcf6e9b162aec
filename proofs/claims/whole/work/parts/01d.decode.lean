theorem dX4_countStanding_86 : decode cX4_countStanding 86 = .ok (.istore 7, 2) := by decide +kernel
theorem dX4_countStanding_88 : decode cX4_countStanding 88 = .ok (.iload 7, 2) := by decide +kernel
theorem dX4_countStanding_90 : decode cX4_countStanding 90 = .ok (.aload 5, 2) := by decide +kernel
theorem dX4_countStanding_92 : decode cX4_countStanding 92 = .ok (.getfield 127, 3) := by decide +kernel
theorem dX4_countStanding_95 : decode cX4_countStanding 95 = .ok (.iload 6, 2) := by decide +kernel
theorem dX4_countStanding_97 : decode cX4_countStanding 97 = .ok (.iaload, 1) := by decide +kernel
theorem dX4_countStanding_98 : decode cX4_countStanding 98 = .ok (.if_icmp .ge 20, 3) := by decide +kernel
theorem dX4_countStanding_101 : decode cX4_countStanding 101 = .ok (.aload_n 0, 1) := by decide +kernel
theorem dX4_countStanding_102 : decode cX4_countStanding 102 = .ok (.getfield 18, 3) := by decide +kernel
theorem dX4_countStanding_105 : decode cX4_countStanding 105 = .ok (.iload 7, 2) := by decide +kernel
theorem dX4_countStanding_107 : decode cX4_countStanding 107 = .ok (.dup2, 1) := by decide +kernel
theorem dX4_countStanding_108 : decode cX4_countStanding 108 = .ok (.iaload, 1) := by decide +kernel
theorem dX4_countStanding_109 : decode cX4_countStanding 109 = .ok (.iconst 1, 1) := by decide +kernel
theorem dX4_countStanding_110 : decode cX4_countStanding 110 = .ok (.iadd, 1) := by decide +kernel
theorem dX4_countStanding_111 : decode cX4_countStanding 111 = .ok (.iastore, 1) := by decide +kernel
theorem dX4_countStanding_112 : decode cX4_countStanding 112 = .ok (.iinc 7 1, 3) := by decide +kernel
theorem dX4_countStanding_115 : decode cX4_countStanding 115 = .ok (.goto (-27), 3) := by decide +kernel
theorem dX4_countStanding_118 : decode cX4_countStanding 118 = .ok (.iinc 4 1, 3) := by decide +kernel
theorem dX4_countStanding_121 : decode cX4_countStanding 121 = .ok (.goto (-112), 3) := by decide +kernel
theorem dX4_countStanding_124 : decode cX4_countStanding 124 = .ok (.return_, 1) := by decide +kernel
theorem dX4_spreadComings_0 : decode cX4_spreadComings 0 = .ok (.aload_n 0, 1) := by decide +kernel
theorem dX4_spreadComings_1 : decode cX4_spreadComings 1 = .ok (.getfield 28, 3) := by decide +kernel
theorem dX4_spreadComings_4 : decode cX4_spreadComings 4 = .ok (.aload_n 1, 1) := by decide +kernel
theorem dX4_spreadComings_5 : decode cX4_spreadComings 5 = .ok (.iload_n 2, 1) := by decide +kernel
theorem dX4_spreadComings_6 : decode cX4_spreadComings 6 = .ok (.invokevirtual 76, 3) := by decide +kernel
theorem dX4_spreadComings_9 : decode cX4_spreadComings 9 = .ok (.istore_n 3, 1) := by decide +kernel
theorem dX4_spreadComings_10 : decode cX4_spreadComings 10 = .ok (.aload_n 0, 1) := by decide +kernel
theorem dX4_spreadComings_11 : decode cX4_spreadComings 11 = .ok (.getfield 28, 3) := by decide +kernel
theorem dX4_spreadComings_14 : decode cX4_spreadComings 14 = .ok (.getfield 144, 3) := by decide +kernel
theorem dX4_spreadComings_17 : decode cX4_spreadComings 17 = .ok (.aload_n 1, 1) := by decide +kernel
theorem dX4_spreadComings_18 : decode cX4_spreadComings 18 = .ok (.iload_n 2, 1) := by decide +kernel
theorem dX4_spreadComings_19 : decode cX4_spreadComings 19 = .ok (.invokevirtual 138, 3) := by decide +kernel
theorem dX4_spreadComings_22 : decode cX4_spreadComings 22 = .ok (.iaload, 1) := by decide +kernel
theorem dX4_spreadComings_23 : decode cX4_spreadComings 23 = .ok (.istore 4, 2) := by decide +kernel
theorem dX4_spreadComings_25 : decode cX4_spreadComings 25 = .ok (.iload_n 2, 1) := by decide +kernel
theorem dX4_spreadComings_26 : decode cX4_spreadComings 26 = .ok (.sipush 240, 3) := by decide +kernel
theorem dX4_spreadComings_29 : decode cX4_spreadComings 29 = .ok (.imul, 1) := by decide +kernel
theorem dX4_spreadComings_30 : decode cX4_spreadComings 30 = .ok (.istore 5, 2) := by decide +kernel
theorem dX4_spreadComings_32 : decode cX4_spreadComings 32 = .ok (.iload 5, 2) := by decide +kernel
theorem dX4_spreadComings_34 : decode cX4_spreadComings 34 = .ok (.sipush 240, 3) := by decide +kernel
theorem dX4_spreadComings_37 : decode cX4_spreadComings 37 = .ok (.iadd, 1) := by decide +kernel
theorem dX4_spreadComings_38 : decode cX4_spreadComings 38 = .ok (.iload_n 3, 1) := by decide +kernel
theorem dX4_spreadComings_39 : decode cX4_spreadComings 39 = .ok (.iadd, 1) := by decide +kernel
theorem dX4_spreadComings_40 : decode cX4_spreadComings 40 = .ok (.istore 6, 2) := by decide +kernel
theorem dX4_spreadComings_42 : decode cX4_spreadComings 42 = .ok (.iload_n 2, 1) := by decide +kernel
theorem dX4_spreadComings_43 : decode cX4_spreadComings 43 = .ok (.ifCond .ne 7, 3) := by decide +kernel
theorem dX4_spreadComings_46 : decode cX4_spreadComings 46 = .ok (.iconst 1, 1) := by decide +kernel
theorem dX4_spreadComings_47 : decode cX4_spreadComings 47 = .ok (.goto 4, 3) := by decide +kernel
theorem dX4_spreadComings_50 : decode cX4_spreadComings 50 = .ok (.iconst 0, 1) := by decide +kernel
theorem dX4_spreadComings_51 : decode cX4_spreadComings 51 = .ok (.istore 7, 2) := by decide +kernel
theorem dX4_spreadComings_53 : decode cX4_spreadComings 53 = .ok (.aload_n 1, 1) := by decide +kernel
theorem dX4_spreadComings_54 : decode cX4_spreadComings 54 = .ok (.getfield 36, 3) := by decide +kernel
theorem dX4_spreadComings_57 : decode cX4_spreadComings 57 = .ok (.istore 8, 2) := by decide +kernel
theorem dX4_spreadComings_59 : decode cX4_spreadComings 59 = .ok (.iload 8, 2) := by decide +kernel
theorem dX4_spreadComings_61 : decode cX4_spreadComings 61 = .ok (.iload_n 3, 1) := by decide +kernel
theorem dX4_spreadComings_62 : decode cX4_spreadComings 62 = .ok (.iadd, 1) := by decide +kernel
theorem dX4_spreadComings_63 : decode cX4_spreadComings 63 = .ok (.aload_n 1, 1) := by decide +kernel
theorem dX4_spreadComings_64 : decode cX4_spreadComings 64 = .ok (.getfield 42, 3) := by decide +kernel
theorem dX4_spreadComings_67 : decode cX4_spreadComings 67 = .ok (.if_icmp .gt 83, 3) := by decide +kernel
theorem dX4_spreadComings_70 : decode cX4_spreadComings 70 = .ok (.iload 7, 2) := by decide +kernel
theorem dX4_spreadComings_72 : decode cX4_spreadComings 72 = .ok (.ifCond .ne 20, 3) := by decide +kernel
theorem dX4_spreadComings_75 : decode cX4_spreadComings 75 = .ok (.iload_n 2, 1) := by decide +kernel
theorem dX4_spreadComings_76 : decode cX4_spreadComings 76 = .ok (.ifCond .le 20, 3) := by decide +kernel
theorem dX4_spreadComings_79 : decode cX4_spreadComings 79 = .ok (.aload_n 0, 1) := by decide +kernel
theorem dX4_spreadComings_80 : decode cX4_spreadComings 80 = .ok (.getfield 9, 3) := by decide +kernel
theorem dX4_spreadComings_83 : decode cX4_spreadComings 83 = .ok (.iload 5, 2) := by decide +kernel
theorem dX4_spreadComings_85 : decode cX4_spreadComings 85 = .ok (.iload 8, 2) := by decide +kernel
theorem dX4_spreadComings_87 : decode cX4_spreadComings 87 = .ok (.iadd, 1) := by decide +kernel
theorem dX4_spreadComings_88 : decode cX4_spreadComings 88 = .ok (.baload, 1) := by decide +kernel
theorem dX4_spreadComings_89 : decode cX4_spreadComings 89 = .ok (.ifCond .eq 7, 3) := by decide +kernel
theorem dX4_spreadComings_92 : decode cX4_spreadComings 92 = .ok (.iconst 1, 1) := by decide +kernel
theorem dX4_spreadComings_93 : decode cX4_spreadComings 93 = .ok (.goto 4, 3) := by decide +kernel
theorem dX4_spreadComings_96 : decode cX4_spreadComings 96 = .ok (.iconst 0, 1) := by decide +kernel
theorem dX4_spreadComings_97 : decode cX4_spreadComings 97 = .ok (.istore 7, 2) := by decide +kernel
theorem dX4_spreadComings_99 : decode cX4_spreadComings 99 = .ok (.iload 7, 2) := by decide +kernel
theorem dX4_spreadComings_101 : decode cX4_spreadComings 101 = .ok (.ifCond .eq 24, 3) := by decide +kernel
theorem dX4_spreadComings_104 : decode cX4_spreadComings 104 = .ok (.aload_n 0, 1) := by decide +kernel
theorem dX4_spreadComings_105 : decode cX4_spreadComings 105 = .ok (.getfield 15, 3) := by decide +kernel
theorem dX4_spreadComings_108 : decode cX4_spreadComings 108 = .ok (.iload 8, 2) := by decide +kernel
theorem dX4_spreadComings_110 : decode cX4_spreadComings 110 = .ok (.baload, 1) := by decide +kernel
theorem dX4_spreadComings_111 : decode cX4_spreadComings 111 = .ok (.ifCond .ne 14, 3) := by decide +kernel
theorem dX4_spreadComings_114 : decode cX4_spreadComings 114 = .ok (.aload_n 0, 1) := by decide +kernel
theorem dX4_spreadComings_115 : decode cX4_spreadComings 115 = .ok (.getfield 9, 3) := by decide +kernel
theorem dX4_spreadComings_118 : decode cX4_spreadComings 118 = .ok (.iload 6, 2) := by decide +kernel
theorem dX4_spreadComings_120 : decode cX4_spreadComings 120 = .ok (.iload 8, 2) := by decide +kernel
theorem dX4_spreadComings_122 : decode cX4_spreadComings 122 = .ok (.iadd, 1) := by decide +kernel
theorem dX4_spreadComings_123 : decode cX4_spreadComings 123 = .ok (.iconst 1, 1) := by decide +kernel
theorem dX4_spreadComings_124 : decode cX4_spreadComings 124 = .ok (.bastore, 1) := by decide +kernel
theorem dX4_spreadComings_125 : decode cX4_spreadComings 125 = .ok (.iload_n 2, 1) := by decide +kernel
theorem dX4_spreadComings_126 : decode cX4_spreadComings 126 = .ok (.ifCond .le 18, 3) := by decide +kernel
theorem dX4_spreadComings_129 : decode cX4_spreadComings 129 = .ok (.aload_n 0, 1) := by decide +kernel
theorem dX4_spreadComings_130 : decode cX4_spreadComings 130 = .ok (.getfield 18, 3) := by decide +kernel
theorem dX4_spreadComings_133 : decode cX4_spreadComings 133 = .ok (.iload 8, 2) := by decide +kernel
theorem dX4_spreadComings_135 : decode cX4_spreadComings 135 = .ok (.iaload, 1) := by decide +kernel
theorem dX4_spreadComings_136 : decode cX4_spreadComings 136 = .ok (.iload 4, 2) := by decide +kernel
theorem dX4_spreadComings_138 : decode cX4_spreadComings 138 = .ok (.if_icmp .lt 6, 3) := by decide +kernel
theorem dX4_spreadComings_141 : decode cX4_spreadComings 141 = .ok (.iconst 0, 1) := by decide +kernel
theorem dX4_spreadComings_142 : decode cX4_spreadComings 142 = .ok (.istore 7, 2) := by decide +kernel
theorem dX4_spreadComings_144 : decode cX4_spreadComings 144 = .ok (.iinc 8 1, 3) := by decide +kernel
theorem dX4_spreadComings_147 : decode cX4_spreadComings 147 = .ok (.goto (-88), 3) := by decide +kernel
theorem dX4_spreadComings_150 : decode cX4_spreadComings 150 = .ok (.return_, 1) := by decide +kernel
theorem dX4_traceBack_0 : decode cX4_traceBack 0 = .ok (.iload_n 2, 1) := by decide +kernel
theorem dX4_traceBack_1 : decode cX4_traceBack 1 = .ok (.istore_n 3, 1) := by decide +kernel
theorem dX4_traceBack_2 : decode cX4_traceBack 2 = .ok (.aload_n 1, 1) := by decide +kernel
theorem dX4_traceBack_3 : decode cX4_traceBack 3 = .ok (.invokevirtual 45, 3) := by decide +kernel
theorem dX4_traceBack_6 : decode cX4_traceBack 6 = .ok (.iconst 1, 1) := by decide +kernel
theorem dX4_traceBack_7 : decode cX4_traceBack 7 = .ok (.isub, 1) := by decide +kernel
theorem dX4_traceBack_8 : decode cX4_traceBack 8 = .ok (.istore 4, 2) := by decide +kernel
theorem dX4_traceBack_10 : decode cX4_traceBack 10 = .ok (.iload 4, 2) := by decide +kernel
theorem dX4_traceBack_12 : decode cX4_traceBack 12 = .ok (.ifCond .lt 80, 3) := by decide +kernel
theorem dX4_traceBack_15 : decode cX4_traceBack 15 = .ok (.iload_n 3, 1) := by decide +kernel
theorem dX4_traceBack_16 : decode cX4_traceBack 16 = .ok (.aload_n 0, 1) := by decide +kernel
theorem dX4_traceBack_17 : decode cX4_traceBack 17 = .ok (.getfield 28, 3) := by decide +kernel
theorem dX4_traceBack_20 : decode cX4_traceBack 20 = .ok (.aload_n 1, 1) := by decide +kernel
theorem dX4_traceBack_21 : decode cX4_traceBack 21 = .ok (.iload 4, 2) := by decide +kernel
theorem dX4_traceBack_23 : decode cX4_traceBack 23 = .ok (.invokevirtual 76, 3) := by decide +kernel
theorem dX4_traceBack_26 : decode cX4_traceBack 26 = .ok (.isub, 1) := by decide +kernel
theorem dX4_traceBack_27 : decode cX4_traceBack 27 = .ok (.istore 5, 2) := by decide +kernel
theorem dX4_traceBack_29 : decode cX4_traceBack 29 = .ok (.aload_n 0, 1) := by decide +kernel
theorem dX4_traceBack_30 : decode cX4_traceBack 30 = .ok (.getfield 25, 3) := by decide +kernel
theorem dX4_traceBack_33 : decode cX4_traceBack 33 = .ok (.iload 4, 2) := by decide +kernel
theorem dX4_traceBack_35 : decode cX4_traceBack 35 = .ok (.iconst 1, 1) := by decide +kernel
theorem dX4_traceBack_36 : decode cX4_traceBack 36 = .ok (.iadd, 1) := by decide +kernel
theorem dX4_traceBack_37 : decode cX4_traceBack 37 = .ok (.iload_n 3, 1) := by decide +kernel
theorem dX4_traceBack_38 : decode cX4_traceBack 38 = .ok (.iastore, 1) := by decide +kernel
theorem dX4_traceBack_39 : decode cX4_traceBack 39 = .ok (.aload_n 0, 1) := by decide +kernel
theorem dX4_traceBack_40 : decode cX4_traceBack 40 = .ok (.getfield 22, 3) := by decide +kernel
theorem dX4_traceBack_43 : decode cX4_traceBack 43 = .ok (.iload 4, 2) := by decide +kernel
theorem dX4_traceBack_45 : decode cX4_traceBack 45 = .ok (.iload 5, 2) := by decide +kernel
theorem dX4_traceBack_47 : decode cX4_traceBack 47 = .ok (.iastore, 1) := by decide +kernel
theorem dX4_traceBack_48 : decode cX4_traceBack 48 = .ok (.iload 5, 2) := by decide +kernel
theorem dX4_traceBack_50 : decode cX4_traceBack 50 = .ok (.istore_n 3, 1) := by decide +kernel
theorem dX4_traceBack_51 : decode cX4_traceBack 51 = .ok (.iload 4, 2) := by decide +kernel
theorem dX4_traceBack_53 : decode cX4_traceBack 53 = .ok (.ifCond .le 33, 3) := by decide +kernel
theorem dX4_traceBack_56 : decode cX4_traceBack 56 = .ok (.iload_n 3, 1) := by decide +kernel
theorem dX4_traceBack_57 : decode cX4_traceBack 57 = .ok (.aload_n 1, 1) := by decide +kernel
theorem dX4_traceBack_58 : decode cX4_traceBack 58 = .ok (.getfield 36, 3) := by decide +kernel
theorem dX4_traceBack_61 : decode cX4_traceBack 61 = .ok (.if_icmp .le 25, 3) := by decide +kernel
theorem dX4_traceBack_64 : decode cX4_traceBack 64 = .ok (.aload_n 0, 1) := by decide +kernel
theorem dX4_traceBack_65 : decode cX4_traceBack 65 = .ok (.getfield 9, 3) := by decide +kernel
theorem dX4_traceBack_68 : decode cX4_traceBack 68 = .ok (.iload 4, 2) := by decide +kernel
theorem dX4_traceBack_70 : decode cX4_traceBack 70 = .ok (.sipush 240, 3) := by decide +kernel
theorem dX4_traceBack_73 : decode cX4_traceBack 73 = .ok (.imul, 1) := by decide +kernel
theorem dX4_traceBack_74 : decode cX4_traceBack 74 = .ok (.iload_n 3, 1) := by decide +kernel
theorem dX4_traceBack_75 : decode cX4_traceBack 75 = .ok (.iadd, 1) := by decide +kernel
theorem dX4_traceBack_76 : decode cX4_traceBack 76 = .ok (.baload, 1) := by decide +kernel
theorem dX4_traceBack_77 : decode cX4_traceBack 77 = .ok (.ifCond .ne 9, 3) := by decide +kernel
theorem dX4_traceBack_80 : decode cX4_traceBack 80 = .ok (.iinc 3 (-1), 3) := by decide +kernel
theorem dX4_traceBack_83 : decode cX4_traceBack 83 = .ok (.goto (-32), 3) := by decide +kernel
theorem dX4_traceBack_86 : decode cX4_traceBack 86 = .ok (.iinc 4 (-1), 3) := by decide +kernel
theorem dX4_traceBack_89 : decode cX4_traceBack 89 = .ok (.goto (-79), 3) := by decide +kernel
theorem dX4_traceBack_92 : decode cX4_traceBack 92 = .ok (.return_, 1) := by decide +kernel
theorem dX5_init_0 : decode cX5_init 0 = .ok (.aload_n 0, 1) := by decide +kernel
theorem dX5_init_1 : decode cX5_init 1 = .ok (.invokespecial 3, 3) := by decide +kernel
theorem dX5_init_4 : decode cX5_init 4 = .ok (.aload_n 0, 1) := by decide +kernel
theorem dX5_init_5 : decode cX5_init 5 = .ok (.bipush 16, 2) := by decide +kernel
theorem dX5_init_7 : decode cX5_init 7 = .ok (.newarray .boolean, 2) := by decide +kernel
theorem dX5_init_9 : decode cX5_init 9 = .ok (.putfield 9, 3) := by decide +kernel
theorem dX5_init_12 : decode cX5_init 12 = .ok (.aload_n 0, 1) := by decide +kernel
theorem dX5_init_13 : decode cX5_init 13 = .ok (.iconst 5, 1) := by decide +kernel
theorem dX5_init_14 : decode cX5_init 14 = .ok (.newarray .int, 2) := by decide +kernel
theorem dX5_init_16 : decode cX5_init 16 = .ok (.putfield 15, 3) := by decide +kernel
theorem dX5_init_19 : decode cX5_init 19 = .ok (.aload_n 0, 1) := by decide +kernel
theorem dX5_init_20 : decode cX5_init 20 = .ok (.iconst 5, 1) := by decide +kernel
theorem dX5_init_21 : decode cX5_init 21 = .ok (.newarray .int, 2) := by decide +kernel
theorem dX5_init_23 : decode cX5_init 23 = .ok (.putfield 19, 3) := by decide +kernel
theorem dX5_init_26 : decode cX5_init 26 = .ok (.aload_n 0, 1) := by decide +kernel
theorem dX5_init_27 : decode cX5_init 27 = .ok (.aload_n 1, 1) := by decide +kernel
theorem dX5_init_28 : decode cX5_init 28 = .ok (.putfield 22, 3) := by decide +kernel
theorem dX5_init_31 : decode cX5_init 31 = .ok (.aload_n 0, 1) := by decide +kernel
theorem dX5_init_32 : decode cX5_init 32 = .ok (.aload_n 2, 1) := by decide +kernel
theorem dX5_init_33 : decode cX5_init 33 = .ok (.putfield 26, 3) := by decide +kernel
theorem dX5_init_36 : decode cX5_init 36 = .ok (.return_, 1) := by decide +kernel
theorem dX5_comeByRank_0 : decode cX5_comeByRank 0 = .ok (.aload_n 0, 1) := by decide +kernel
theorem dX5_comeByRank_1 : decode cX5_comeByRank 1 = .ok (.invokevirtual 30, 3) := by decide +kernel
theorem dX5_comeByRank_4 : decode cX5_comeByRank 4 = .ok (.iconst 0, 1) := by decide +kernel
theorem dX5_comeByRank_5 : decode cX5_comeByRank 5 = .ok (.istore_n 1, 1) := by decide +kernel
theorem dX5_comeByRank_6 : decode cX5_comeByRank 6 = .ok (.iload_n 1, 1) := by decide +kernel
theorem dX5_comeByRank_7 : decode cX5_comeByRank 7 = .ok (.aload_n 0, 1) := by decide +kernel
theorem dX5_comeByRank_8 : decode cX5_comeByRank 8 = .ok (.getfield 22, 3) := by decide +kernel
theorem dX5_comeByRank_11 : decode cX5_comeByRank 11 = .ok (.getfield 33, 3) := by decide +kernel
theorem dX5_comeByRank_14 : decode cX5_comeByRank 14 = .ok (.invokevirtual 39, 3) := by decide +kernel
theorem dX5_comeByRank_17 : decode cX5_comeByRank 17 = .ok (.if_icmp .ge 42, 3) := by decide +kernel
theorem dX5_comeByRank_20 : decode cX5_comeByRank 20 = .ok (.aload_n 0, 1) := by decide +kernel
theorem dX5_comeByRank_21 : decode cX5_comeByRank 21 = .ok (.getfield 22, 3) := by decide +kernel
theorem dX5_comeByRank_24 : decode cX5_comeByRank 24 = .ok (.getfield 33, 3) := by decide +kernel
theorem dX5_comeByRank_27 : decode cX5_comeByRank 27 = .ok (.iload_n 1, 1) := by decide +kernel
theorem dX5_comeByRank_28 : decode cX5_comeByRank 28 = .ok (.invokevirtual 45, 3) := by decide +kernel
theorem dX5_comeByRank_31 : decode cX5_comeByRank 31 = .ok (.checkcast 49, 3) := by decide +kernel
theorem dX5_comeByRank_34 : decode cX5_comeByRank 34 = .ok (.astore_n 2, 1) := by decide +kernel
theorem dX5_comeByRank_35 : decode cX5_comeByRank 35 = .ok (.aload_n 0, 1) := by decide +kernel
theorem dX5_comeByRank_36 : decode cX5_comeByRank 36 = .ok (.getfield 9, 3) := by decide +kernel
theorem dX5_comeByRank_39 : decode cX5_comeByRank 39 = .ok (.aload_n 2, 1) := by decide +kernel
theorem dX5_comeByRank_40 : decode cX5_comeByRank 40 = .ok (.getfield 51, 3) := by decide +kernel
theorem dX5_comeByRank_43 : decode cX5_comeByRank 43 = .ok (.baload, 1) := by decide +kernel
theorem dX5_comeByRank_44 : decode cX5_comeByRank 44 = .ok (.ifCond .ne 9, 3) := by decide +kernel
theorem dX5_comeByRank_47 : decode cX5_comeByRank 47 = .ok (.aload_n 0, 1) := by decide +kernel
theorem dX5_comeByRank_48 : decode cX5_comeByRank 48 = .ok (.aload_n 2, 1) := by decide +kernel
theorem dX5_comeByRank_49 : decode cX5_comeByRank 49 = .ok (.invokevirtual 55, 3) := by decide +kernel
theorem dX5_comeByRank_52 : decode cX5_comeByRank 52 = .ok (.pop, 1) := by decide +kernel
theorem dX5_comeByRank_53 : decode cX5_comeByRank 53 = .ok (.iinc 1 1, 3) := by decide +kernel
theorem dX5_comeByRank_56 : decode cX5_comeByRank 56 = .ok (.goto (-50), 3) := by decide +kernel
theorem dX5_comeByRank_59 : decode cX5_comeByRank 59 = .ok (.return_, 1) := by decide +kernel
theorem dX5_comeByBestOrder_0 : decode cX5_comeByBestOrder 0 = .ok (.aload_n 0, 1) := by decide +kernel
theorem dX5_comeByBestOrder_1 : decode cX5_comeByBestOrder 1 = .ok (.invokevirtual 30, 3) := by decide +kernel
theorem dX5_comeByBestOrder_4 : decode cX5_comeByBestOrder 4 = .ok (.aload_n 0, 1) := by decide +kernel
theorem dX5_comeByBestOrder_5 : decode cX5_comeByBestOrder 5 = .ok (.iconst (-1), 1) := by decide +kernel
theorem dX5_comeByBestOrder_6 : decode cX5_comeByBestOrder 6 = .ok (.putfield 59, 3) := by decide +kernel
theorem dX5_comeByBestOrder_9 : decode cX5_comeByBestOrder 9 = .ok (.aload_n 0, 1) := by decide +kernel
theorem dX5_comeByBestOrder_10 : decode cX5_comeByBestOrder 10 = .ok (.iconst 0, 1) := by decide +kernel
theorem dX5_comeByBestOrder_11 : decode cX5_comeByBestOrder 11 = .ok (.putfield 62, 3) := by decide +kernel
theorem dX5_comeByBestOrder_14 : decode cX5_comeByBestOrder 14 = .ok (.iconst 0, 1) := by decide +kernel
theorem dX5_comeByBestOrder_15 : decode cX5_comeByBestOrder 15 = .ok (.istore_n 1, 1) := by decide +kernel
theorem dX5_comeByBestOrder_16 : decode cX5_comeByBestOrder 16 = .ok (.iconst 0, 1) := by decide +kernel
theorem dX5_comeByBestOrder_17 : decode cX5_comeByBestOrder 17 = .ok (.istore_n 2, 1) := by decide +kernel
theorem dX5_comeByBestOrder_18 : decode cX5_comeByBestOrder 18 = .ok (.iload_n 2, 1) := by decide +kernel
theorem dX5_comeByBestOrder_19 : decode cX5_comeByBestOrder 19 = .ok (.aload_n 0, 1) := by decide +kernel
theorem dX5_comeByBestOrder_20 : decode cX5_comeByBestOrder 20 = .ok (.getfield 22, 3) := by decide +kernel
theorem dX5_comeByBestOrder_23 : decode cX5_comeByBestOrder 23 = .ok (.invokevirtual 65, 3) := by decide +kernel
theorem dX5_comeByBestOrder_26 : decode cX5_comeByBestOrder 26 = .ok (.if_icmp .ge 29, 3) := by decide +kernel
theorem dX5_comeByBestOrder_29 : decode cX5_comeByBestOrder 29 = .ok (.iload_n 1, 1) := by decide +kernel
theorem dX5_comeByBestOrder_30 : decode cX5_comeByBestOrder 30 = .ok (.aload_n 0, 1) := by decide +kernel
theorem dX5_comeByBestOrder_31 : decode cX5_comeByBestOrder 31 = .ok (.getfield 22, 3) := by decide +kernel
theorem dX5_comeByBestOrder_34 : decode cX5_comeByBestOrder 34 = .ok (.getfield 66, 3) := by decide +kernel
theorem dX5_comeByBestOrder_37 : decode cX5_comeByBestOrder 37 = .ok (.iload_n 2, 1) := by decide +kernel
theorem dX5_comeByBestOrder_38 : decode cX5_comeByBestOrder 38 = .ok (.invokevirtual 45, 3) := by decide +kernel
theorem dX5_comeByBestOrder_41 : decode cX5_comeByBestOrder 41 = .ok (.checkcast 49, 3) := by decide +kernel
theorem dX5_comeByBestOrder_44 : decode cX5_comeByBestOrder 44 = .ok (.getfield 69, 3) := by decide +kernel
theorem dX5_comeByBestOrder_47 : decode cX5_comeByBestOrder 47 = .ok (.iadd, 1) := by decide +kernel
theorem dX5_comeByBestOrder_48 : decode cX5_comeByBestOrder 48 = .ok (.istore_n 1, 1) := by decide +kernel
theorem dX5_comeByBestOrder_49 : decode cX5_comeByBestOrder 49 = .ok (.iinc 2 1, 3) := by decide +kernel
theorem dX5_comeByBestOrder_52 : decode cX5_comeByBestOrder 52 = .ok (.goto (-34), 3) := by decide +kernel
theorem dX5_comeByBestOrder_55 : decode cX5_comeByBestOrder 55 = .ok (.aload_n 0, 1) := by decide +kernel
theorem dX5_comeByBestOrder_56 : decode cX5_comeByBestOrder 56 = .ok (.iconst 0, 1) := by decide +kernel
theorem dX5_comeByBestOrder_57 : decode cX5_comeByBestOrder 57 = .ok (.iload_n 1, 1) := by decide +kernel
theorem dX5_comeByBestOrder_58 : decode cX5_comeByBestOrder 58 = .ok (.invokestatic 72, 3) := by decide +kernel
theorem dX5_comeByBestOrder_61 : decode cX5_comeByBestOrder 61 = .ok (.aload_n 0, 1) := by decide +kernel
theorem dX5_comeByBestOrder_62 : decode cX5_comeByBestOrder 62 = .ok (.invokevirtual 30, 3) := by decide +kernel
theorem dX5_comeByBestOrder_65 : decode cX5_comeByBestOrder 65 = .ok (.iconst 0, 1) := by decide +kernel
theorem dX5_comeByBestOrder_66 : decode cX5_comeByBestOrder 66 = .ok (.istore_n 2, 1) := by decide +kernel
theorem dX5_comeByBestOrder_67 : decode cX5_comeByBestOrder 67 = .ok (.iload_n 2, 1) := by decide +kernel
theorem dX5_comeByBestOrder_68 : decode cX5_comeByBestOrder 68 = .ok (.aload_n 0, 1) := by decide +kernel
theorem dX5_comeByBestOrder_69 : decode cX5_comeByBestOrder 69 = .ok (.getfield 62, 3) := by decide +kernel
theorem dX5_comeByBestOrder_72 : decode cX5_comeByBestOrder 72 = .ok (.if_icmp .ge 33, 3) := by decide +kernel
theorem dX5_comeByBestOrder_75 : decode cX5_comeByBestOrder 75 = .ok (.aload_n 0, 1) := by decide +kernel
theorem dX5_comeByBestOrder_76 : decode cX5_comeByBestOrder 76 = .ok (.getfield 22, 3) := by decide +kernel
theorem dX5_comeByBestOrder_79 : decode cX5_comeByBestOrder 79 = .ok (.aload_n 0, 1) := by decide +kernel
theorem dX5_comeByBestOrder_80 : decode cX5_comeByBestOrder 80 = .ok (.getfield 19, 3) := by decide +kernel
theorem dX5_comeByBestOrder_83 : decode cX5_comeByBestOrder 83 = .ok (.iload_n 2, 1) := by decide +kernel
theorem dX5_comeByBestOrder_84 : decode cX5_comeByBestOrder 84 = .ok (.iaload, 1) := by decide +kernel
theorem dX5_comeByBestOrder_85 : decode cX5_comeByBestOrder 85 = .ok (.invokevirtual 76, 3) := by decide +kernel
theorem dX5_comeByBestOrder_88 : decode cX5_comeByBestOrder 88 = .ok (.astore_n 3, 1) := by decide +kernel
theorem dX5_comeByBestOrder_89 : decode cX5_comeByBestOrder 89 = .ok (.aload_n 3, 1) := by decide +kernel
theorem dX5_comeByBestOrder_90 : decode cX5_comeByBestOrder 90 = .ok (.ifnull 9, 3) := by decide +kernel
theorem dX5_comeByBestOrder_93 : decode cX5_comeByBestOrder 93 = .ok (.aload_n 0, 1) := by decide +kernel
theorem dX5_comeByBestOrder_94 : decode cX5_comeByBestOrder 94 = .ok (.aload_n 3, 1) := by decide +kernel
theorem dX5_comeByBestOrder_95 : decode cX5_comeByBestOrder 95 = .ok (.invokevirtual 55, 3) := by decide +kernel
theorem dX5_comeByBestOrder_98 : decode cX5_comeByBestOrder 98 = .ok (.pop, 1) := by decide +kernel
theorem dX5_comeByBestOrder_99 : decode cX5_comeByBestOrder 99 = .ok (.iinc 2 1, 3) := by decide +kernel
theorem dX5_comeByBestOrder_102 : decode cX5_comeByBestOrder 102 = .ok (.goto (-35), 3) := by decide +kernel
theorem dX5_comeByBestOrder_105 : decode cX5_comeByBestOrder 105 = .ok (.return_, 1) := by decide +kernel
theorem dX5_tryOrders_0 : decode cX5_tryOrders 0 = .ok (.iload_n 2, 1) := by decide +kernel
theorem dX5_tryOrders_1 : decode cX5_tryOrders 1 = .ok (.aload_n 0, 1) := by decide +kernel
theorem dX5_tryOrders_2 : decode cX5_tryOrders 2 = .ok (.getfield 59, 3) := by decide +kernel
theorem dX5_tryOrders_5 : decode cX5_tryOrders 5 = .ok (.if_icmp .gt 4, 3) := by decide +kernel
theorem dX5_tryOrders_8 : decode cX5_tryOrders 8 = .ok (.return_, 1) := by decide +kernel
theorem dX5_tryOrders_9 : decode cX5_tryOrders 9 = .ok (.iconst 1, 1) := by decide +kernel
theorem dX5_tryOrders_10 : decode cX5_tryOrders 10 = .ok (.istore_n 3, 1) := by decide +kernel
theorem dX5_tryOrders_11 : decode cX5_tryOrders 11 = .ok (.iconst 0, 1) := by decide +kernel
theorem dX5_tryOrders_12 : decode cX5_tryOrders 12 = .ok (.istore 4, 2) := by decide +kernel
theorem dX5_tryOrders_14 : decode cX5_tryOrders 14 = .ok (.iload 4, 2) := by decide +kernel
theorem dX5_tryOrders_16 : decode cX5_tryOrders 16 = .ok (.aload_n 0, 1) := by decide +kernel
theorem dX5_tryOrders_17 : decode cX5_tryOrders 17 = .ok (.getfield 22, 3) := by decide +kernel
theorem dX5_tryOrders_20 : decode cX5_tryOrders 20 = .ok (.invokevirtual 65, 3) := by decide +kernel
theorem dX5_tryOrders_23 : decode cX5_tryOrders 23 = .ok (.if_icmp .ge 84, 3) := by decide +kernel
theorem dX5_tryOrders_26 : decode cX5_tryOrders 26 = .ok (.iload_n 1, 1) := by decide +kernel
theorem dX5_tryOrders_27 : decode cX5_tryOrders 27 = .ok (.iconst 5, 1) := by decide +kernel
theorem dX5_tryOrders_28 : decode cX5_tryOrders 28 = .ok (.if_icmp .ge 79, 3) := by decide +kernel
theorem dX5_tryOrders_31 : decode cX5_tryOrders 31 = .ok (.aload_n 0, 1) := by decide +kernel
theorem dX5_tryOrders_32 : decode cX5_tryOrders 32 = .ok (.getfield 22, 3) := by decide +kernel
theorem dX5_tryOrders_35 : decode cX5_tryOrders 35 = .ok (.getfield 66, 3) := by decide +kernel
theorem dX5_tryOrders_38 : decode cX5_tryOrders 38 = .ok (.iload 4, 2) := by decide +kernel
theorem dX5_tryOrders_40 : decode cX5_tryOrders 40 = .ok (.invokevirtual 45, 3) := by decide +kernel
theorem dX5_tryOrders_43 : decode cX5_tryOrders 43 = .ok (.checkcast 49, 3) := by decide +kernel
theorem dX5_tryOrders_46 : decode cX5_tryOrders 46 = .ok (.astore 5, 2) := by decide +kernel
theorem dX5_tryOrders_48 : decode cX5_tryOrders 48 = .ok (.aload_n 0, 1) := by decide +kernel
theorem dX5_tryOrders_49 : decode cX5_tryOrders 49 = .ok (.getfield 9, 3) := by decide +kernel
theorem dX5_tryOrders_52 : decode cX5_tryOrders 52 = .ok (.iload 4, 2) := by decide +kernel
theorem dX5_tryOrders_54 : decode cX5_tryOrders 54 = .ok (.baload, 1) := by decide +kernel
theorem dX5_tryOrders_55 : decode cX5_tryOrders 55 = .ok (.ifCond .ne 46, 3) := by decide +kernel
theorem dX5_tryOrders_58 : decode cX5_tryOrders 58 = .ok (.iload_n 2, 1) := by decide +kernel
theorem dX5_tryOrders_59 : decode cX5_tryOrders 59 = .ok (.aload_n 0, 1) := by decide +kernel
theorem dX5_tryOrders_60 : decode cX5_tryOrders 60 = .ok (.getfield 59, 3) := by decide +kernel
theorem dX5_tryOrders_63 : decode cX5_tryOrders 63 = .ok (.if_icmp .le 38, 3) := by decide +kernel
theorem dX5_tryOrders_66 : decode cX5_tryOrders 66 = .ok (.iconst 0, 1) := by decide +kernel
theorem dX5_tryOrders_67 : decode cX5_tryOrders 67 = .ok (.istore_n 3, 1) := by decide +kernel
theorem dX5_tryOrders_68 : decode cX5_tryOrders 68 = .ok (.aload_n 0, 1) := by decide +kernel
theorem dX5_tryOrders_69 : decode cX5_tryOrders 69 = .ok (.getfield 15, 3) := by decide +kernel
theorem dX5_tryOrders_72 : decode cX5_tryOrders 72 = .ok (.iload_n 1, 1) := by decide +kernel
theorem dX5_tryOrders_73 : decode cX5_tryOrders 73 = .ok (.iload 4, 2) := by decide +kernel
theorem dX5_tryOrders_75 : decode cX5_tryOrders 75 = .ok (.iastore, 1) := by decide +kernel
theorem dX5_tryOrders_76 : decode cX5_tryOrders 76 = .ok (.aload_n 0, 1) := by decide +kernel
theorem dX5_tryOrders_77 : decode cX5_tryOrders 77 = .ok (.aload 5, 2) := by decide +kernel
theorem dX5_tryOrders_79 : decode cX5_tryOrders 79 = .ok (.invokevirtual 55, 3) := by decide +kernel
theorem dX5_tryOrders_82 : decode cX5_tryOrders 82 = .ok (.istore 6, 2) := by decide +kernel
theorem dX5_tryOrders_84 : decode cX5_tryOrders 84 = .ok (.aload_n 0, 1) := by decide +kernel
theorem dX5_tryOrders_85 : decode cX5_tryOrders 85 = .ok (.iload_n 1, 1) := by decide +kernel
theorem dX5_tryOrders_86 : decode cX5_tryOrders 86 = .ok (.iconst 1, 1) := by decide +kernel
theorem dX5_tryOrders_87 : decode cX5_tryOrders 87 = .ok (.iadd, 1) := by decide +kernel
theorem dX5_tryOrders_88 : decode cX5_tryOrders 88 = .ok (.iload_n 2, 1) := by decide +kernel
theorem dX5_tryOrders_89 : decode cX5_tryOrders 89 = .ok (.iload 6, 2) := by decide +kernel
theorem dX5_tryOrders_91 : decode cX5_tryOrders 91 = .ok (.isub, 1) := by decide +kernel
theorem dX5_tryOrders_92 : decode cX5_tryOrders 92 = .ok (.invokestatic 72, 3) := by decide +kernel
theorem dX5_tryOrders_95 : decode cX5_tryOrders 95 = .ok (.aload_n 0, 1) := by decide +kernel
theorem dX5_tryOrders_96 : decode cX5_tryOrders 96 = .ok (.aload 5, 2) := by decide +kernel
theorem dX5_tryOrders_98 : decode cX5_tryOrders 98 = .ok (.invokevirtual 80, 3) := by decide +kernel
theorem dX5_tryOrders_101 : decode cX5_tryOrders 101 = .ok (.iinc 4 1, 3) := by decide +kernel
theorem dX5_tryOrders_104 : decode cX5_tryOrders 104 = .ok (.goto (-90), 3) := by decide +kernel
theorem dX5_tryOrders_107 : decode cX5_tryOrders 107 = .ok (.iload_n 3, 1) := by decide +kernel
theorem dX5_tryOrders_108 : decode cX5_tryOrders 108 = .ok (.ifCond .eq 9, 3) := by decide +kernel
theorem dX5_tryOrders_111 : decode cX5_tryOrders 111 = .ok (.aload_n 0, 1) := by decide +kernel
theorem dX5_tryOrders_112 : decode cX5_tryOrders 112 = .ok (.iload_n 1, 1) := by decide +kernel
theorem dX5_tryOrders_113 : decode cX5_tryOrders 113 = .ok (.iload_n 2, 1) := by decide +kernel
theorem dX5_tryOrders_114 : decode cX5_tryOrders 114 = .ok (.invokevirtual 84, 3) := by decide +kernel
theorem dX5_tryOrders_117 : decode cX5_tryOrders 117 = .ok (.return_, 1) := by decide +kernel
theorem dX5_keepOrder_0 : decode cX5_keepOrder 0 = .ok (.aload_n 0, 1) := by decide +kernel
theorem dX5_keepOrder_1 : decode cX5_keepOrder 1 = .ok (.iload_n 2, 1) := by decide +kernel
theorem dX5_keepOrder_2 : decode cX5_keepOrder 2 = .ok (.putfield 59, 3) := by decide +kernel
theorem dX5_keepOrder_5 : decode cX5_keepOrder 5 = .ok (.aload_n 0, 1) := by decide +kernel
theorem dX5_keepOrder_6 : decode cX5_keepOrder 6 = .ok (.iload_n 1, 1) := by decide +kernel
theorem dX5_keepOrder_7 : decode cX5_keepOrder 7 = .ok (.putfield 62, 3) := by decide +kernel
theorem dX5_keepOrder_10 : decode cX5_keepOrder 10 = .ok (.iconst 0, 1) := by decide +kernel
theorem dX5_keepOrder_11 : decode cX5_keepOrder 11 = .ok (.istore_n 3, 1) := by decide +kernel
theorem dX5_keepOrder_12 : decode cX5_keepOrder 12 = .ok (.iload_n 3, 1) := by decide +kernel
theorem dX5_keepOrder_13 : decode cX5_keepOrder 13 = .ok (.iload_n 1, 1) := by decide +kernel
theorem dX5_keepOrder_14 : decode cX5_keepOrder 14 = .ok (.if_icmp .ge 21, 3) := by decide +kernel
theorem dX5_keepOrder_17 : decode cX5_keepOrder 17 = .ok (.aload_n 0, 1) := by decide +kernel
theorem dX5_keepOrder_18 : decode cX5_keepOrder 18 = .ok (.getfield 19, 3) := by decide +kernel
theorem dX5_keepOrder_21 : decode cX5_keepOrder 21 = .ok (.iload_n 3, 1) := by decide +kernel
theorem dX5_keepOrder_22 : decode cX5_keepOrder 22 = .ok (.aload_n 0, 1) := by decide +kernel
theorem dX5_keepOrder_23 : decode cX5_keepOrder 23 = .ok (.getfield 15, 3) := by decide +kernel
theorem dX5_keepOrder_26 : decode cX5_keepOrder 26 = .ok (.iload_n 3, 1) := by decide +kernel
theorem dX5_keepOrder_27 : decode cX5_keepOrder 27 = .ok (.iaload, 1) := by decide +kernel
theorem dX5_keepOrder_28 : decode cX5_keepOrder 28 = .ok (.iastore, 1) := by decide +kernel
theorem dX5_keepOrder_29 : decode cX5_keepOrder 29 = .ok (.iinc 3 1, 3) := by decide +kernel
theorem dX5_keepOrder_32 : decode cX5_keepOrder 32 = .ok (.goto (-20), 3) := by decide +kernel
theorem dX5_keepOrder_35 : decode cX5_keepOrder 35 = .ok (.return_, 1) := by decide +kernel
theorem dX5_startAnew_0 : decode cX5_startAnew 0 = .ok (.aload_n 0, 1) := by decide +kernel
theorem dX5_startAnew_1 : decode cX5_startAnew 1 = .ok (.getfield 22, 3) := by decide +kernel
theorem dX5_startAnew_4 : decode cX5_startAnew 4 = .ok (.invokevirtual 88, 3) := by decide +kernel
theorem dX5_startAnew_7 : decode cX5_startAnew 7 = .ok (.iconst 0, 1) := by decide +kernel
theorem dX5_startAnew_8 : decode cX5_startAnew 8 = .ok (.istore_n 1, 1) := by decide +kernel
theorem dX5_startAnew_9 : decode cX5_startAnew 9 = .ok (.iload_n 1, 1) := by decide +kernel
theorem dX5_startAnew_10 : decode cX5_startAnew 10 = .ok (.bipush 16, 2) := by decide +kernel
theorem dX5_startAnew_12 : decode cX5_startAnew 12 = .ok (.if_icmp .ge 16, 3) := by decide +kernel
theorem dX5_startAnew_15 : decode cX5_startAnew 15 = .ok (.aload_n 0, 1) := by decide +kernel
theorem dX5_startAnew_16 : decode cX5_startAnew 16 = .ok (.getfield 9, 3) := by decide +kernel
theorem dX5_startAnew_19 : decode cX5_startAnew 19 = .ok (.iload_n 1, 1) := by decide +kernel
theorem dX5_startAnew_20 : decode cX5_startAnew 20 = .ok (.iconst 0, 1) := by decide +kernel
theorem dX5_startAnew_21 : decode cX5_startAnew 21 = .ok (.bastore, 1) := by decide +kernel
theorem dX5_startAnew_22 : decode cX5_startAnew 22 = .ok (.iinc 1 1, 3) := by decide +kernel
theorem dX5_startAnew_25 : decode cX5_startAnew 25 = .ok (.goto (-16), 3) := by decide +kernel
theorem dX5_startAnew_28 : decode cX5_startAnew 28 = .ok (.return_, 1) := by decide +kernel
theorem dX5_comeWithPartner_0 : decode cX5_comeWithPartner 0 = .ok (.aload_n 0, 1) := by decide +kernel
theorem dX5_comeWithPartner_1 : decode cX5_comeWithPartner 1 = .ok (.getfield 22, 3) := by decide +kernel
theorem dX5_comeWithPartner_4 : decode cX5_comeWithPartner 4 = .ok (.aload_n 1, 1) := by decide +kernel
theorem dX5_comeWithPartner_5 : decode cX5_comeWithPartner 5 = .ok (.getfield 91, 3) := by decide +kernel
theorem dX5_comeWithPartner_8 : decode cX5_comeWithPartner 8 = .ok (.invokevirtual 76, 3) := by decide +kernel
theorem dX5_comeWithPartner_11 : decode cX5_comeWithPartner 11 = .ok (.astore_n 2, 1) := by decide +kernel
theorem dX5_comeWithPartner_12 : decode cX5_comeWithPartner 12 = .ok (.aload_n 0, 1) := by decide +kernel
theorem dX5_comeWithPartner_13 : decode cX5_comeWithPartner 13 = .ok (.getfield 9, 3) := by decide +kernel
theorem dX5_comeWithPartner_16 : decode cX5_comeWithPartner 16 = .ok (.aload_n 1, 1) := by decide +kernel
theorem dX5_comeWithPartner_17 : decode cX5_comeWithPartner 17 = .ok (.getfield 51, 3) := by decide +kernel
theorem dX5_comeWithPartner_20 : decode cX5_comeWithPartner 20 = .ok (.iconst 1, 1) := by decide +kernel
theorem dX5_comeWithPartner_21 : decode cX5_comeWithPartner 21 = .ok (.bastore, 1) := by decide +kernel
theorem dX5_comeWithPartner_22 : decode cX5_comeWithPartner 22 = .ok (.aload_n 0, 1) := by decide +kernel
theorem dX5_comeWithPartner_23 : decode cX5_comeWithPartner 23 = .ok (.getfield 26, 3) := by decide +kernel
theorem dX5_comeWithPartner_26 : decode cX5_comeWithPartner 26 = .ok (.aload_n 1, 1) := by decide +kernel
theorem dX5_comeWithPartner_27 : decode cX5_comeWithPartner 27 = .ok (.invokevirtual 94, 3) := by decide +kernel
theorem dX5_comeWithPartner_30 : decode cX5_comeWithPartner 30 = .ok (.iconst (-1), 1) := by decide +kernel
theorem dX5_comeWithPartner_31 : decode cX5_comeWithPartner 31 = .ok (.if_icmp .eq 7, 3) := by decide +kernel
theorem dX5_comeWithPartner_34 : decode cX5_comeWithPartner 34 = .ok (.iconst 1, 1) := by decide +kernel
theorem dX5_comeWithPartner_35 : decode cX5_comeWithPartner 35 = .ok (.goto 4, 3) := by decide +kernel
theorem dX5_comeWithPartner_38 : decode cX5_comeWithPartner 38 = .ok (.iconst 0, 1) := by decide +kernel
theorem dX5_comeWithPartner_39 : decode cX5_comeWithPartner 39 = .ok (.istore_n 3, 1) := by decide +kernel
theorem dX5_comeWithPartner_40 : decode cX5_comeWithPartner 40 = .ok (.iload_n 3, 1) := by decide +kernel
theorem dX5_comeWithPartner_41 : decode cX5_comeWithPartner 41 = .ok (.ifCond .eq 21, 3) := by decide +kernel
theorem dX5_comeWithPartner_44 : decode cX5_comeWithPartner 44 = .ok (.aload_n 1, 1) := by decide +kernel
theorem dX5_comeWithPartner_45 : decode cX5_comeWithPartner 45 = .ok (.aload_n 0, 1) := by decide +kernel
theorem dX5_comeWithPartner_46 : decode cX5_comeWithPartner 46 = .ok (.getfield 26, 3) := by decide +kernel
theorem dX5_comeWithPartner_49 : decode cX5_comeWithPartner 49 = .ok (.getfield 99, 3) := by decide +kernel
theorem dX5_comeWithPartner_52 : decode cX5_comeWithPartner 52 = .ok (.aload_n 0, 1) := by decide +kernel
theorem dX5_comeWithPartner_53 : decode cX5_comeWithPartner 53 = .ok (.getfield 26, 3) := by decide +kernel
theorem dX5_comeWithPartner_56 : decode cX5_comeWithPartner 56 = .ok (.getfield 102, 3) := by decide +kernel
theorem dX5_comeWithPartner_59 : decode cX5_comeWithPartner 59 = .ok (.invokevirtual 105, 3) := by decide +kernel
theorem dX5_comeWithPartner_62 : decode cX5_comeWithPartner 62 = .ok (.aload_n 2, 1) := by decide +kernel
theorem dX5_comeWithPartner_63 : decode cX5_comeWithPartner 63 = .ok (.ifnonnull 16, 3) := by decide +kernel
theorem dX5_comeWithPartner_66 : decode cX5_comeWithPartner 66 = .ok (.iload_n 3, 1) := by decide +kernel
theorem dX5_comeWithPartner_67 : decode cX5_comeWithPartner 67 = .ok (.ifCond .eq 7, 3) := by decide +kernel
theorem dX5_comeWithPartner_70 : decode cX5_comeWithPartner 70 = .ok (.iconst 0, 1) := by decide +kernel
theorem dX5_comeWithPartner_71 : decode cX5_comeWithPartner 71 = .ok (.goto 7, 3) := by decide +kernel
theorem dX5_comeWithPartner_74 : decode cX5_comeWithPartner 74 = .ok (.aload_n 1, 1) := by decide +kernel
theorem dX5_comeWithPartner_75 : decode cX5_comeWithPartner 75 = .ok (.getfield 69, 3) := by decide +kernel
theorem dX5_comeWithPartner_78 : decode cX5_comeWithPartner 78 = .ok (.ireturn, 1) := by decide +kernel
theorem dX5_comeWithPartner_79 : decode cX5_comeWithPartner 79 = .ok (.aload_n 0, 1) := by decide +kernel
theorem dX5_comeWithPartner_80 : decode cX5_comeWithPartner 80 = .ok (.getfield 9, 3) := by decide +kernel
theorem dX5_comeWithPartner_83 : decode cX5_comeWithPartner 83 = .ok (.aload_n 2, 1) := by decide +kernel
theorem dX5_comeWithPartner_84 : decode cX5_comeWithPartner 84 = .ok (.getfield 51, 3) := by decide +kernel
theorem dX5_comeWithPartner_87 : decode cX5_comeWithPartner 87 = .ok (.iconst 1, 1) := by decide +kernel
theorem dX5_comeWithPartner_88 : decode cX5_comeWithPartner 88 = .ok (.bastore, 1) := by decide +kernel
theorem dX5_comeWithPartner_89 : decode cX5_comeWithPartner 89 = .ok (.iload_n 3, 1) := by decide +kernel
theorem dX5_comeWithPartner_90 : decode cX5_comeWithPartner 90 = .ok (.ifCond .eq 35, 3) := by decide +kernel
theorem dX5_comeWithPartner_93 : decode cX5_comeWithPartner 93 = .ok (.aload_n 0, 1) := by decide +kernel
theorem dX5_comeWithPartner_94 : decode cX5_comeWithPartner 94 = .ok (.getfield 26, 3) := by decide +kernel
theorem dX5_comeWithPartner_97 : decode cX5_comeWithPartner 97 = .ok (.aload_n 2, 1) := by decide +kernel
theorem dX5_comeWithPartner_98 : decode cX5_comeWithPartner 98 = .ok (.invokevirtual 94, 3) := by decide +kernel
theorem dX5_comeWithPartner_101 : decode cX5_comeWithPartner 101 = .ok (.iconst (-1), 1) := by decide +kernel
theorem dX5_comeWithPartner_102 : decode cX5_comeWithPartner 102 = .ok (.if_icmp .eq 23, 3) := by decide +kernel
theorem dX5_comeWithPartner_105 : decode cX5_comeWithPartner 105 = .ok (.aload_n 2, 1) := by decide +kernel
theorem dX5_comeWithPartner_106 : decode cX5_comeWithPartner 106 = .ok (.aload_n 0, 1) := by decide +kernel
theorem dX5_comeWithPartner_107 : decode cX5_comeWithPartner 107 = .ok (.getfield 26, 3) := by decide +kernel
theorem dX5_comeWithPartner_110 : decode cX5_comeWithPartner 110 = .ok (.getfield 99, 3) := by decide +kernel
theorem dX5_comeWithPartner_113 : decode cX5_comeWithPartner 113 = .ok (.aload_n 0, 1) := by decide +kernel
theorem dX5_comeWithPartner_114 : decode cX5_comeWithPartner 114 = .ok (.getfield 26, 3) := by decide +kernel
theorem dX5_comeWithPartner_117 : decode cX5_comeWithPartner 117 = .ok (.getfield 102, 3) := by decide +kernel
theorem dX5_comeWithPartner_120 : decode cX5_comeWithPartner 120 = .ok (.invokevirtual 105, 3) := by decide +kernel
theorem dX5_comeWithPartner_123 : decode cX5_comeWithPartner 123 = .ok (.iconst 0, 1) := by decide +kernel
theorem dX5_comeWithPartner_124 : decode cX5_comeWithPartner 124 = .ok (.ireturn, 1) := by decide +kernel
theorem dX5_comeWithPartner_125 : decode cX5_comeWithPartner 125 = .ok (.aload_n 1, 1) := by decide +kernel
theorem dX5_comeWithPartner_126 : decode cX5_comeWithPartner 126 = .ok (.iconst 0, 1) := by decide +kernel
theorem dX5_comeWithPartner_127 : decode cX5_comeWithPartner 127 = .ok (.putfield 109, 3) := by decide +kernel
theorem dX5_comeWithPartner_130 : decode cX5_comeWithPartner 130 = .ok (.aload_n 1, 1) := by decide +kernel
theorem dX5_comeWithPartner_131 : decode cX5_comeWithPartner 131 = .ok (.getfield 69, 3) := by decide +kernel
theorem dX5_comeWithPartner_134 : decode cX5_comeWithPartner 134 = .ok (.aload_n 2, 1) := by decide +kernel
theorem dX5_comeWithPartner_135 : decode cX5_comeWithPartner 135 = .ok (.getfield 69, 3) := by decide +kernel
theorem dX5_comeWithPartner_138 : decode cX5_comeWithPartner 138 = .ok (.iadd, 1) := by decide +kernel
theorem dX5_comeWithPartner_139 : decode cX5_comeWithPartner 139 = .ok (.ireturn, 1) := by decide +kernel
theorem dX5_takeBackWithPartner_0 : decode cX5_takeBackWithPartner 0 = .ok (.aload_n 0, 1) := by decide +kernel
theorem dX5_takeBackWithPartner_1 : decode cX5_takeBackWithPartner 1 = .ok (.aload_n 1, 1) := by decide +kernel
theorem dX5_takeBackWithPartner_2 : decode cX5_takeBackWithPartner 2 = .ok (.invokevirtual 113, 3) := by decide +kernel
theorem dX5_takeBackWithPartner_5 : decode cX5_takeBackWithPartner 5 = .ok (.aload_n 0, 1) := by decide +kernel
theorem dX5_takeBackWithPartner_6 : decode cX5_takeBackWithPartner 6 = .ok (.getfield 22, 3) := by decide +kernel
theorem dX5_takeBackWithPartner_9 : decode cX5_takeBackWithPartner 9 = .ok (.aload_n 1, 1) := by decide +kernel
theorem dX5_takeBackWithPartner_10 : decode cX5_takeBackWithPartner 10 = .ok (.getfield 91, 3) := by decide +kernel
theorem dX5_takeBackWithPartner_13 : decode cX5_takeBackWithPartner 13 = .ok (.invokevirtual 76, 3) := by decide +kernel
theorem dX5_takeBackWithPartner_16 : decode cX5_takeBackWithPartner 16 = .ok (.astore_n 2, 1) := by decide +kernel
theorem dX5_takeBackWithPartner_17 : decode cX5_takeBackWithPartner 17 = .ok (.aload_n 2, 1) := by decide +kernel
theorem dX5_takeBackWithPartner_18 : decode cX5_takeBackWithPartner 18 = .ok (.ifnull 8, 3) := by decide +kernel
theorem dX5_takeBackWithPartner_21 : decode cX5_takeBackWithPartner 21 = .ok (.aload_n 0, 1) := by decide +kernel
theorem dX5_takeBackWithPartner_22 : decode cX5_takeBackWithPartner 22 = .ok (.aload_n 2, 1) := by decide +kernel
theorem dX5_takeBackWithPartner_23 : decode cX5_takeBackWithPartner 23 = .ok (.invokevirtual 113, 3) := by decide +kernel
theorem dX5_takeBackWithPartner_26 : decode cX5_takeBackWithPartner 26 = .ok (.return_, 1) := by decide +kernel
theorem dX5_takeBack_0 : decode cX5_takeBack 0 = .ok (.aload_n 1, 1) := by decide +kernel
theorem dX5_takeBack_1 : decode cX5_takeBack 1 = .ok (.iconst 0, 1) := by decide +kernel
theorem dX5_takeBack_2 : decode cX5_takeBack 2 = .ok (.putfield 109, 3) := by decide +kernel
theorem dX5_takeBack_5 : decode cX5_takeBack 5 = .ok (.aload_n 0, 1) := by decide +kernel
theorem dX5_takeBack_6 : decode cX5_takeBack 6 = .ok (.getfield 9, 3) := by decide +kernel
theorem dX5_takeBack_9 : decode cX5_takeBack 9 = .ok (.aload_n 1, 1) := by decide +kernel
theorem dX5_takeBack_10 : decode cX5_takeBack 10 = .ok (.getfield 51, 3) := by decide +kernel
theorem dX5_takeBack_13 : decode cX5_takeBack 13 = .ok (.iconst 0, 1) := by decide +kernel
theorem dX5_takeBack_14 : decode cX5_takeBack 14 = .ok (.bastore, 1) := by decide +kernel
theorem dX5_takeBack_15 : decode cX5_takeBack 15 = .ok (.return_, 1) := by decide +kernel
theorem dX6_init_0 : decode cX6_init 0 = .ok (.aload_n 0, 1) := by decide +kernel
theorem dX6_init_1 : decode cX6_init 1 = .ok (.invokespecial 3, 3) := by decide +kernel
theorem dX6_init_4 : decode cX6_init 4 = .ok (.aload_n 0, 1) := by decide +kernel
theorem dX6_init_5 : decode cX6_init 5 = .ok (.bipush 16, 2) := by decide +kernel
theorem dX6_init_7 : decode cX6_init 7 = .ok (.newarray .int, 2) := by decide +kernel
theorem dX6_init_9 : decode cX6_init 9 = .ok (.putfield 9, 3) := by decide +kernel
theorem dX6_init_12 : decode cX6_init 12 = .ok (.aload_n 0, 1) := by decide +kernel
theorem dX6_init_13 : decode cX6_init 13 = .ok (.bipush 16, 2) := by decide +kernel
theorem dX6_init_15 : decode cX6_init 15 = .ok (.newarray .int, 2) := by decide +kernel
theorem dX6_init_17 : decode cX6_init 17 = .ok (.putfield 15, 3) := by decide +kernel
theorem dX6_init_20 : decode cX6_init 20 = .ok (.aload_n 0, 1) := by decide +kernel
theorem dX6_init_21 : decode cX6_init 21 = .ok (.bipush 16, 2) := by decide +kernel
theorem dX6_init_23 : decode cX6_init 23 = .ok (.newarray .int, 2) := by decide +kernel
theorem dX6_init_25 : decode cX6_init 25 = .ok (.putfield 18, 3) := by decide +kernel
theorem dX6_init_28 : decode cX6_init 28 = .ok (.aload_n 0, 1) := by decide +kernel
theorem dX6_init_29 : decode cX6_init 29 = .ok (.bipush 16, 2) := by decide +kernel
theorem dX6_init_31 : decode cX6_init 31 = .ok (.newarray .int, 2) := by decide +kernel
theorem dX6_init_33 : decode cX6_init 33 = .ok (.putfield 21, 3) := by decide +kernel
theorem dX6_init_36 : decode cX6_init 36 = .ok (.aload_n 0, 1) := by decide +kernel
theorem dX6_init_37 : decode cX6_init 37 = .ok (.bipush 16, 2) := by decide +kernel
theorem dX6_init_39 : decode cX6_init 39 = .ok (.newarray .int, 2) := by decide +kernel
theorem dX6_init_41 : decode cX6_init 41 = .ok (.putfield 24, 3) := by decide +kernel
theorem dX6_init_44 : decode cX6_init 44 = .ok (.aload_n 0, 1) := by decide +kernel
theorem dX6_init_45 : decode cX6_init 45 = .ok (.sipush 256, 3) := by decide +kernel
theorem dX6_init_48 : decode cX6_init 48 = .ok (.newarray .int, 2) := by decide +kernel
theorem dX6_init_50 : decode cX6_init 50 = .ok (.putfield 27, 3) := by decide +kernel
theorem dX6_init_53 : decode cX6_init 53 = .ok (.aload_n 0, 1) := by decide +kernel
theorem dX6_init_54 : decode cX6_init 54 = .ok (.bipush 16, 2) := by decide +kernel
theorem dX6_init_56 : decode cX6_init 56 = .ok (.newarray .int, 2) := by decide +kernel
theorem dX6_init_58 : decode cX6_init 58 = .ok (.putfield 30, 3) := by decide +kernel
theorem dX6_init_61 : decode cX6_init 61 = .ok (.aload_n 0, 1) := by decide +kernel
theorem dX6_init_62 : decode cX6_init 62 = .ok (.bipush 16, 2) := by decide +kernel
theorem dX6_init_64 : decode cX6_init 64 = .ok (.newarray .int, 2) := by decide +kernel
theorem dX6_init_66 : decode cX6_init 66 = .ok (.putfield 33, 3) := by decide +kernel
theorem dX6_init_69 : decode cX6_init 69 = .ok (.aload_n 0, 1) := by decide +kernel
theorem dX6_init_70 : decode cX6_init 70 = .ok (.aload_n 1, 1) := by decide +kernel
theorem dX6_init_71 : decode cX6_init 71 = .ok (.putfield 36, 3) := by decide +kernel
theorem dX6_init_74 : decode cX6_init 74 = .ok (.aload_n 0, 1) := by decide +kernel
theorem dX6_init_75 : decode cX6_init 75 = .ok (.aload_n 2, 1) := by decide +kernel
theorem dX6_init_76 : decode cX6_init 76 = .ok (.putfield 40, 3) := by decide +kernel
theorem dX6_init_79 : decode cX6_init 79 = .ok (.return_, 1) := by decide +kernel
theorem dX6_forget_0 : decode cX6_forget 0 = .ok (.aload_n 0, 1) := by decide +kernel
theorem dX6_forget_1 : decode cX6_forget 1 = .ok (.iconst 0, 1) := by decide +kernel
theorem dX6_forget_2 : decode cX6_forget 2 = .ok (.putfield 44, 3) := by decide +kernel
theorem dX6_forget_5 : decode cX6_forget 5 = .ok (.return_, 1) := by decide +kernel
theorem dX6_bringUpToDate_0 : decode cX6_bringUpToDate 0 = .ok (.aload_n 0, 1) := by decide +kernel
theorem dX6_bringUpToDate_1 : decode cX6_bringUpToDate 1 = .ok (.getfield 44, 3) := by decide +kernel
theorem dX6_bringUpToDate_4 : decode cX6_bringUpToDate 4 = .ok (.ifCond .eq 4, 3) := by decide +kernel
theorem dX6_bringUpToDate_7 : decode cX6_bringUpToDate 7 = .ok (.return_, 1) := by decide +kernel
theorem dX6_bringUpToDate_8 : decode cX6_bringUpToDate 8 = .ok (.aload_n 0, 1) := by decide +kernel
theorem dX6_bringUpToDate_9 : decode cX6_bringUpToDate 9 = .ok (.invokevirtual 48, 3) := by decide +kernel
theorem dX6_bringUpToDate_12 : decode cX6_bringUpToDate 12 = .ok (.iconst 0, 1) := by decide +kernel
theorem dX6_bringUpToDate_13 : decode cX6_bringUpToDate 13 = .ok (.istore_n 1, 1) := by decide +kernel
theorem dX6_bringUpToDate_14 : decode cX6_bringUpToDate 14 = .ok (.iload_n 1, 1) := by decide +kernel
theorem dX6_bringUpToDate_15 : decode cX6_bringUpToDate 15 = .ok (.sipush 480, 3) := by decide +kernel
theorem dX6_bringUpToDate_18 : decode cX6_bringUpToDate 18 = .ok (.if_icmp .ge 61, 3) := by decide +kernel
theorem dX6_bringUpToDate_21 : decode cX6_bringUpToDate 21 = .ok (.iconst 0, 1) := by decide +kernel
theorem dX6_bringUpToDate_22 : decode cX6_bringUpToDate 22 = .ok (.istore_n 2, 1) := by decide +kernel
theorem dX6_bringUpToDate_23 : decode cX6_bringUpToDate 23 = .ok (.iload_n 2, 1) := by decide +kernel
theorem dX6_bringUpToDate_24 : decode cX6_bringUpToDate 24 = .ok (.aload_n 0, 1) := by decide +kernel
theorem dX6_bringUpToDate_25 : decode cX6_bringUpToDate 25 = .ok (.getfield 40, 3) := by decide +kernel
theorem dX6_bringUpToDate_28 : decode cX6_bringUpToDate 28 = .ok (.getfield 51, 3) := by decide +kernel
theorem dX6_bringUpToDate_31 : decode cX6_bringUpToDate 31 = .ok (.invokevirtual 57, 3) := by decide +kernel
theorem dX6_bringUpToDate_34 : decode cX6_bringUpToDate 34 = .ok (.if_icmp .ge 39, 3) := by decide +kernel
theorem dX6_bringUpToDate_37 : decode cX6_bringUpToDate 37 = .ok (.aload_n 0, 1) := by decide +kernel
theorem dX6_bringUpToDate_38 : decode cX6_bringUpToDate 38 = .ok (.getfield 40, 3) := by decide +kernel
theorem dX6_bringUpToDate_41 : decode cX6_bringUpToDate 41 = .ok (.getfield 51, 3) := by decide +kernel
theorem dX6_bringUpToDate_44 : decode cX6_bringUpToDate 44 = .ok (.iload_n 2, 1) := by decide +kernel
theorem dX6_bringUpToDate_45 : decode cX6_bringUpToDate 45 = .ok (.invokevirtual 63, 3) := by decide +kernel
theorem dX6_bringUpToDate_48 : decode cX6_bringUpToDate 48 = .ok (.checkcast 67, 3) := by decide +kernel
theorem dX6_bringUpToDate_51 : decode cX6_bringUpToDate 51 = .ok (.astore_n 3, 1) := by decide +kernel
theorem dX6_bringUpToDate_52 : decode cX6_bringUpToDate 52 = .ok (.aload_n 0, 1) := by decide +kernel
theorem dX6_bringUpToDate_53 : decode cX6_bringUpToDate 53 = .ok (.aload_n 3, 1) := by decide +kernel
theorem dX6_bringUpToDate_54 : decode cX6_bringUpToDate 54 = .ok (.iload_n 1, 1) := by decide +kernel
theorem dX6_bringUpToDate_55 : decode cX6_bringUpToDate 55 = .ok (.invokevirtual 69, 3) := by decide +kernel
theorem dX6_bringUpToDate_58 : decode cX6_bringUpToDate 58 = .ok (.ifCond .eq 9, 3) := by decide +kernel
theorem dX6_bringUpToDate_61 : decode cX6_bringUpToDate 61 = .ok (.aload_n 0, 1) := by decide +kernel
theorem dX6_bringUpToDate_62 : decode cX6_bringUpToDate 62 = .ok (.aload_n 3, 1) := by decide +kernel
theorem dX6_bringUpToDate_63 : decode cX6_bringUpToDate 63 = .ok (.iload_n 1, 1) := by decide +kernel
theorem dX6_bringUpToDate_64 : decode cX6_bringUpToDate 64 = .ok (.invokevirtual 73, 3) := by decide +kernel
theorem dX6_bringUpToDate_67 : decode cX6_bringUpToDate 67 = .ok (.iinc 2 1, 3) := by decide +kernel
theorem dX6_bringUpToDate_70 : decode cX6_bringUpToDate 70 = .ok (.goto (-47), 3) := by decide +kernel
theorem dX6_bringUpToDate_73 : decode cX6_bringUpToDate 73 = .ok (.iinc 1 1, 3) := by decide +kernel
theorem dX6_bringUpToDate_76 : decode cX6_bringUpToDate 76 = .ok (.goto (-62), 3) := by decide +kernel
theorem dX6_bringUpToDate_79 : decode cX6_bringUpToDate 79 = .ok (.aload_n 0, 1) := by decide +kernel
theorem dX6_bringUpToDate_80 : decode cX6_bringUpToDate 80 = .ok (.iconst 1, 1) := by decide +kernel
theorem dX6_bringUpToDate_81 : decode cX6_bringUpToDate 81 = .ok (.putfield 44, 3) := by decide +kernel
theorem dX6_bringUpToDate_84 : decode cX6_bringUpToDate 84 = .ok (.return_, 1) := by decide +kernel
theorem dX6_reset_0 : decode cX6_reset 0 = .ok (.iconst 0, 1) := by decide +kernel
theorem dX6_reset_1 : decode cX6_reset 1 = .ok (.istore_n 1, 1) := by decide +kernel
theorem dX6_reset_2 : decode cX6_reset 2 = .ok (.iload_n 1, 1) := by decide +kernel
theorem dX6_reset_3 : decode cX6_reset 3 = .ok (.aload_n 0, 1) := by decide +kernel
theorem dX6_reset_4 : decode cX6_reset 4 = .ok (.getfield 30, 3) := by decide +kernel
theorem dX6_reset_7 : decode cX6_reset 7 = .ok (.arraylength, 1) := by decide +kernel
theorem dX6_reset_8 : decode cX6_reset 8 = .ok (.if_icmp .ge 23, 3) := by decide +kernel
theorem dX6_reset_11 : decode cX6_reset 11 = .ok (.aload_n 0, 1) := by decide +kernel
theorem dX6_reset_12 : decode cX6_reset 12 = .ok (.getfield 30, 3) := by decide +kernel
theorem dX6_reset_15 : decode cX6_reset 15 = .ok (.iload_n 1, 1) := by decide +kernel
theorem dX6_reset_16 : decode cX6_reset 16 = .ok (.iconst (-1), 1) := by decide +kernel
theorem dX6_reset_17 : decode cX6_reset 17 = .ok (.iastore, 1) := by decide +kernel
theorem dX6_reset_18 : decode cX6_reset 18 = .ok (.aload_n 0, 1) := by decide +kernel
theorem dX6_reset_19 : decode cX6_reset 19 = .ok (.getfield 33, 3) := by decide +kernel
theorem dX6_reset_22 : decode cX6_reset 22 = .ok (.iload_n 1, 1) := by decide +kernel
theorem dX6_reset_23 : decode cX6_reset 23 = .ok (.iconst (-1), 1) := by decide +kernel
theorem dX6_reset_24 : decode cX6_reset 24 = .ok (.iastore, 1) := by decide +kernel
theorem dX6_reset_25 : decode cX6_reset 25 = .ok (.iinc 1 1, 3) := by decide +kernel
theorem dX6_reset_28 : decode cX6_reset 28 = .ok (.goto (-26), 3) := by decide +kernel
theorem dX6_reset_31 : decode cX6_reset 31 = .ok (.iconst 0, 1) := by decide +kernel
theorem dX6_reset_32 : decode cX6_reset 32 = .ok (.istore_n 1, 1) := by decide +kernel
theorem dX6_reset_33 : decode cX6_reset 33 = .ok (.iload_n 1, 1) := by decide +kernel
theorem dX6_reset_34 : decode cX6_reset 34 = .ok (.aload_n 0, 1) := by decide +kernel
theorem dX6_reset_35 : decode cX6_reset 35 = .ok (.getfield 27, 3) := by decide +kernel
theorem dX6_reset_38 : decode cX6_reset 38 = .ok (.arraylength, 1) := by decide +kernel
theorem dX6_reset_39 : decode cX6_reset 39 = .ok (.if_icmp .ge 16, 3) := by decide +kernel
theorem dX6_reset_42 : decode cX6_reset 42 = .ok (.aload_n 0, 1) := by decide +kernel
theorem dX6_reset_43 : decode cX6_reset 43 = .ok (.getfield 27, 3) := by decide +kernel
theorem dX6_reset_46 : decode cX6_reset 46 = .ok (.iload_n 1, 1) := by decide +kernel
theorem dX6_reset_47 : decode cX6_reset 47 = .ok (.iconst 0, 1) := by decide +kernel
theorem dX6_reset_48 : decode cX6_reset 48 = .ok (.iastore, 1) := by decide +kernel
theorem dX6_reset_49 : decode cX6_reset 49 = .ok (.iinc 1 1, 3) := by decide +kernel
theorem dX6_reset_52 : decode cX6_reset 52 = .ok (.goto (-19), 3) := by decide +kernel
theorem dX6_reset_55 : decode cX6_reset 55 = .ok (.iconst 0, 1) := by decide +kernel
theorem dX6_reset_56 : decode cX6_reset 56 = .ok (.istore_n 1, 1) := by decide +kernel
theorem dX6_reset_57 : decode cX6_reset 57 = .ok (.iload_n 1, 1) := by decide +kernel
theorem dX6_reset_58 : decode cX6_reset 58 = .ok (.aload_n 0, 1) := by decide +kernel
theorem dX6_reset_59 : decode cX6_reset 59 = .ok (.getfield 40, 3) := by decide +kernel
theorem dX6_reset_62 : decode cX6_reset 62 = .ok (.invokevirtual 77, 3) := by decide +kernel
theorem dX6_reset_65 : decode cX6_reset 65 = .ok (.if_icmp .ge 67, 3) := by decide +kernel
theorem dX6_reset_68 : decode cX6_reset 68 = .ok (.aload_n 0, 1) := by decide +kernel
theorem dX6_reset_69 : decode cX6_reset 69 = .ok (.getfield 40, 3) := by decide +kernel
theorem dX6_reset_72 : decode cX6_reset 72 = .ok (.getfield 78, 3) := by decide +kernel
theorem dX6_reset_75 : decode cX6_reset 75 = .ok (.iload_n 1, 1) := by decide +kernel
theorem dX6_reset_76 : decode cX6_reset 76 = .ok (.invokevirtual 63, 3) := by decide +kernel
theorem dX6_reset_79 : decode cX6_reset 79 = .ok (.checkcast 67, 3) := by decide +kernel
theorem dX6_reset_82 : decode cX6_reset 82 = .ok (.astore_n 2, 1) := by decide +kernel
theorem dX6_reset_83 : decode cX6_reset 83 = .ok (.aload_n 0, 1) := by decide +kernel
theorem dX6_reset_84 : decode cX6_reset 84 = .ok (.getfield 9, 3) := by decide +kernel
theorem dX6_reset_87 : decode cX6_reset 87 = .ok (.iload_n 1, 1) := by decide +kernel
theorem dX6_reset_88 : decode cX6_reset 88 = .ok (.iconst 0, 1) := by decide +kernel
theorem dX6_reset_89 : decode cX6_reset 89 = .ok (.iastore, 1) := by decide +kernel
theorem dX6_reset_90 : decode cX6_reset 90 = .ok (.aload_n 0, 1) := by decide +kernel
theorem dX6_reset_91 : decode cX6_reset 91 = .ok (.getfield 15, 3) := by decide +kernel
theorem dX6_reset_94 : decode cX6_reset 94 = .ok (.iload_n 1, 1) := by decide +kernel
theorem dX6_reset_95 : decode cX6_reset 95 = .ok (.iconst 0, 1) := by decide +kernel
theorem dX6_reset_96 : decode cX6_reset 96 = .ok (.iastore, 1) := by decide +kernel
theorem dX6_reset_97 : decode cX6_reset 97 = .ok (.aload_n 0, 1) := by decide +kernel
theorem dX6_reset_98 : decode cX6_reset 98 = .ok (.getfield 18, 3) := by decide +kernel
theorem dX6_reset_101 : decode cX6_reset 101 = .ok (.iload_n 1, 1) := by decide +kernel
theorem dX6_reset_102 : decode cX6_reset 102 = .ok (.aload_n 2, 1) := by decide +kernel
theorem dX6_reset_103 : decode cX6_reset 103 = .ok (.getfield 81, 3) := by decide +kernel
theorem dX6_reset_106 : decode cX6_reset 106 = .ok (.aload_n 2, 1) := by decide +kernel
theorem dX6_reset_107 : decode cX6_reset 107 = .ok (.getfield 84, 3) := by decide +kernel
theorem dX6_reset_110 : decode cX6_reset 110 = .ok (.iaload, 1) := by decide +kernel
theorem dX6_reset_111 : decode cX6_reset 111 = .ok (.iastore, 1) := by decide +kernel
theorem dX6_reset_112 : decode cX6_reset 112 = .ok (.aload_n 0, 1) := by decide +kernel
theorem dX6_reset_113 : decode cX6_reset 113 = .ok (.getfield 21, 3) := by decide +kernel
theorem dX6_reset_116 : decode cX6_reset 116 = .ok (.iload_n 1, 1) := by decide +kernel
theorem dX6_reset_117 : decode cX6_reset 117 = .ok (.iconst 0, 1) := by decide +kernel
theorem dX6_reset_118 : decode cX6_reset 118 = .ok (.iastore, 1) := by decide +kernel
theorem dX6_reset_119 : decode cX6_reset 119 = .ok (.aload_n 0, 1) := by decide +kernel
theorem dX6_reset_120 : decode cX6_reset 120 = .ok (.getfield 24, 3) := by decide +kernel
theorem dX6_reset_123 : decode cX6_reset 123 = .ok (.iload_n 1, 1) := by decide +kernel
theorem dX6_reset_124 : decode cX6_reset 124 = .ok (.iconst 0, 1) := by decide +kernel
theorem dX6_reset_125 : decode cX6_reset 125 = .ok (.iastore, 1) := by decide +kernel
theorem dX6_reset_126 : decode cX6_reset 126 = .ok (.iinc 1 1, 3) := by decide +kernel
theorem dX6_reset_129 : decode cX6_reset 129 = .ok (.goto (-72), 3) := by decide +kernel
theorem dX6_reset_132 : decode cX6_reset 132 = .ok (.return_, 1) := by decide +kernel
theorem dX6_wantsToLeave_0 : decode cX6_wantsToLeave 0 = .ok (.aload_n 0, 1) := by decide +kernel
theorem dX6_wantsToLeave_1 : decode cX6_wantsToLeave 1 = .ok (.getfield 9, 3) := by decide +kernel
theorem dX6_wantsToLeave_4 : decode cX6_wantsToLeave 4 = .ok (.aload_n 1, 1) := by decide +kernel
theorem dX6_wantsToLeave_5 : decode cX6_wantsToLeave 5 = .ok (.getfield 88, 3) := by decide +kernel
theorem dX6_wantsToLeave_8 : decode cX6_wantsToLeave 8 = .ok (.iaload, 1) := by decide +kernel
theorem dX6_wantsToLeave_9 : decode cX6_wantsToLeave 9 = .ok (.istore_n 3, 1) := by decide +kernel
theorem dX6_wantsToLeave_10 : decode cX6_wantsToLeave 10 = .ok (.aload_n 1, 1) := by decide +kernel
theorem dX6_wantsToLeave_11 : decode cX6_wantsToLeave 11 = .ok (.getfield 91, 3) := by decide +kernel
theorem dX6_wantsToLeave_14 : decode cX6_wantsToLeave 14 = .ok (.ifCond .eq 38, 3) := by decide +kernel
theorem dX6_wantsToLeave_17 : decode cX6_wantsToLeave 17 = .ok (.iload_n 3, 1) := by decide +kernel
theorem dX6_wantsToLeave_18 : decode cX6_wantsToLeave 18 = .ok (.aload_n 1, 1) := by decide +kernel
theorem dX6_wantsToLeave_19 : decode cX6_wantsToLeave 19 = .ok (.invokevirtual 94, 3) := by decide +kernel
theorem dX6_wantsToLeave_22 : decode cX6_wantsToLeave 22 = .ok (.if_icmp .ge 30, 3) := by decide +kernel
theorem dX6_wantsToLeave_25 : decode cX6_wantsToLeave 25 = .ok (.aload_n 0, 1) := by decide +kernel
theorem dX6_wantsToLeave_26 : decode cX6_wantsToLeave 26 = .ok (.getfield 15, 3) := by decide +kernel
theorem dX6_wantsToLeave_29 : decode cX6_wantsToLeave 29 = .ok (.aload_n 1, 1) := by decide +kernel
theorem dX6_wantsToLeave_30 : decode cX6_wantsToLeave 30 = .ok (.getfield 88, 3) := by decide +kernel
theorem dX6_wantsToLeave_33 : decode cX6_wantsToLeave 33 = .ok (.iaload, 1) := by decide +kernel
theorem dX6_wantsToLeave_34 : decode cX6_wantsToLeave 34 = .ok (.iload_n 2, 1) := by decide +kernel
theorem dX6_wantsToLeave_35 : decode cX6_wantsToLeave 35 = .ok (.if_icmp .gt 17, 3) := by decide +kernel
theorem dX6_wantsToLeave_38 : decode cX6_wantsToLeave 38 = .ok (.aload_n 1, 1) := by decide +kernel
theorem dX6_wantsToLeave_39 : decode cX6_wantsToLeave 39 = .ok (.getfield 97, 3) := by decide +kernel
theorem dX6_wantsToLeave_42 : decode cX6_wantsToLeave 42 = .ok (.iload_n 3, 1) := by decide +kernel
theorem dX6_wantsToLeave_43 : decode cX6_wantsToLeave 43 = .ok (.iaload, 1) := by decide +kernel
theorem dX6_wantsToLeave_44 : decode cX6_wantsToLeave 44 = .ok (.iload_n 2, 1) := by decide +kernel
theorem dX6_wantsToLeave_45 : decode cX6_wantsToLeave 45 = .ok (.if_icmp .gt 7, 3) := by decide +kernel
theorem dX6_wantsToLeave_48 : decode cX6_wantsToLeave 48 = .ok (.iconst 1, 1) := by decide +kernel
theorem dX6_wantsToLeave_49 : decode cX6_wantsToLeave 49 = .ok (.goto 4, 3) := by decide +kernel
theorem dX6_wantsToLeave_52 : decode cX6_wantsToLeave 52 = .ok (.iconst 0, 1) := by decide +kernel
theorem dX6_wantsToLeave_53 : decode cX6_wantsToLeave 53 = .ok (.ireturn, 1) := by decide +kernel
theorem dX6_leaveOrPutDown_0 : decode cX6_leaveOrPutDown 0 = .ok (.aload_n 1, 1) := by decide +kernel
theorem dX6_leaveOrPutDown_1 : decode cX6_leaveOrPutDown 1 = .ok (.getfield 88, 3) := by decide +kernel
theorem dX6_leaveOrPutDown_4 : decode cX6_leaveOrPutDown 4 = .ok (.istore_n 3, 1) := by decide +kernel
theorem dX6_leaveOrPutDown_5 : decode cX6_leaveOrPutDown 5 = .ok (.aload_n 1, 1) := by decide +kernel
theorem dX6_leaveOrPutDown_6 : decode cX6_leaveOrPutDown 6 = .ok (.aload_n 0, 1) := by decide +kernel
theorem dX6_leaveOrPutDown_7 : decode cX6_leaveOrPutDown 7 = .ok (.getfield 9, 3) := by decide +kernel
theorem dX6_leaveOrPutDown_10 : decode cX6_leaveOrPutDown 10 = .ok (.iload_n 3, 1) := by decide +kernel
theorem dX6_leaveOrPutDown_11 : decode cX6_leaveOrPutDown 11 = .ok (.iaload, 1) := by decide +kernel
theorem dX6_leaveOrPutDown_12 : decode cX6_leaveOrPutDown 12 = .ok (.invokevirtual 100, 3) := by decide +kernel
theorem dX6_leaveOrPutDown_15 : decode cX6_leaveOrPutDown 15 = .ok (.istore 4, 2) := by decide +kernel
theorem dX6_leaveOrPutDown_17 : decode cX6_leaveOrPutDown 17 = .ok (.iload 4, 2) := by decide +kernel
theorem dX6_leaveOrPutDown_19 : decode cX6_leaveOrPutDown 19 = .ok (.iconst 2, 1) := by decide +kernel
theorem dX6_leaveOrPutDown_20 : decode cX6_leaveOrPutDown 20 = .ok (.imul, 1) := by decide +kernel
theorem dX6_leaveOrPutDown_21 : decode cX6_leaveOrPutDown 21 = .ok (.aload_n 0, 1) := by decide +kernel
theorem dX6_leaveOrPutDown_22 : decode cX6_leaveOrPutDown 22 = .ok (.getfield 36, 3) := by decide +kernel
theorem dX6_leaveOrPutDown_25 : decode cX6_leaveOrPutDown 25 = .ok (.getfield 104, 3) := by decide +kernel
theorem dX6_leaveOrPutDown_28 : decode cX6_leaveOrPutDown 28 = .ok (.iload 4, 2) := by decide +kernel
theorem dX6_leaveOrPutDown_30 : decode cX6_leaveOrPutDown 30 = .ok (.baload, 1) := by decide +kernel
theorem dX6_leaveOrPutDown_31 : decode cX6_leaveOrPutDown 31 = .ok (.ifCond .eq 14, 3) := by decide +kernel
theorem dX6_leaveOrPutDown_34 : decode cX6_leaveOrPutDown 34 = .ok (.aload_n 1, 1) := by decide +kernel
theorem dX6_leaveOrPutDown_35 : decode cX6_leaveOrPutDown 35 = .ok (.invokevirtual 110, 3) := by decide +kernel
theorem dX6_leaveOrPutDown_38 : decode cX6_leaveOrPutDown 38 = .ok (.ifCond .ge 7, 3) := by decide +kernel
theorem dX6_leaveOrPutDown_41 : decode cX6_leaveOrPutDown 41 = .ok (.iconst 1, 1) := by decide +kernel
theorem dX6_leaveOrPutDown_42 : decode cX6_leaveOrPutDown 42 = .ok (.goto 4, 3) := by decide +kernel
theorem dX6_leaveOrPutDown_45 : decode cX6_leaveOrPutDown 45 = .ok (.iconst 0, 1) := by decide +kernel
theorem dX6_leaveOrPutDown_46 : decode cX6_leaveOrPutDown 46 = .ok (.iadd, 1) := by decide +kernel
theorem dX6_leaveOrPutDown_47 : decode cX6_leaveOrPutDown 47 = .ok (.istore 5, 2) := by decide +kernel
theorem dX6_leaveOrPutDown_49 : decode cX6_leaveOrPutDown 49 = .ok (.aload_n 0, 1) := by decide +kernel
theorem dX6_leaveOrPutDown_50 : decode cX6_leaveOrPutDown 50 = .ok (.getfield 18, 3) := by decide +kernel
theorem dX6_leaveOrPutDown_53 : decode cX6_leaveOrPutDown 53 = .ok (.iload_n 3, 1) := by decide +kernel
theorem dX6_leaveOrPutDown_54 : decode cX6_leaveOrPutDown 54 = .ok (.iaload, 1) := by decide +kernel
theorem dX6_leaveOrPutDown_55 : decode cX6_leaveOrPutDown 55 = .ok (.ifCond .le 26, 3) := by decide +kernel
theorem dX6_leaveOrPutDown_58 : decode cX6_leaveOrPutDown 58 = .ok (.aload_n 0, 1) := by decide +kernel
theorem dX6_leaveOrPutDown_59 : decode cX6_leaveOrPutDown 59 = .ok (.getfield 18, 3) := by decide +kernel
theorem dX6_leaveOrPutDown_62 : decode cX6_leaveOrPutDown 62 = .ok (.iload_n 3, 1) := by decide +kernel
theorem dX6_leaveOrPutDown_63 : decode cX6_leaveOrPutDown 63 = .ok (.dup2, 1) := by decide +kernel
theorem dX6_leaveOrPutDown_64 : decode cX6_leaveOrPutDown 64 = .ok (.iaload, 1) := by decide +kernel
theorem dX6_leaveOrPutDown_65 : decode cX6_leaveOrPutDown 65 = .ok (.iconst 1, 1) := by decide +kernel
theorem dX6_leaveOrPutDown_66 : decode cX6_leaveOrPutDown 66 = .ok (.isub, 1) := by decide +kernel
theorem dX6_leaveOrPutDown_67 : decode cX6_leaveOrPutDown 67 = .ok (.iastore, 1) := by decide +kernel
theorem dX6_leaveOrPutDown_68 : decode cX6_leaveOrPutDown 68 = .ok (.aload_n 0, 1) := by decide +kernel
theorem dX6_leaveOrPutDown_69 : decode cX6_leaveOrPutDown 69 = .ok (.getfield 21, 3) := by decide +kernel
theorem dX6_leaveOrPutDown_72 : decode cX6_leaveOrPutDown 72 = .ok (.iload_n 3, 1) := by decide +kernel
theorem dX6_leaveOrPutDown_73 : decode cX6_leaveOrPutDown 73 = .ok (.dup2, 1) := by decide +kernel
theorem dX6_leaveOrPutDown_74 : decode cX6_leaveOrPutDown 74 = .ok (.iaload, 1) := by decide +kernel
theorem dX6_leaveOrPutDown_75 : decode cX6_leaveOrPutDown 75 = .ok (.iconst 1, 1) := by decide +kernel
theorem dX6_leaveOrPutDown_76 : decode cX6_leaveOrPutDown 76 = .ok (.iadd, 1) := by decide +kernel
theorem dX6_leaveOrPutDown_77 : decode cX6_leaveOrPutDown 77 = .ok (.iastore, 1) := by decide +kernel
theorem dX6_leaveOrPutDown_78 : decode cX6_leaveOrPutDown 78 = .ok (.goto 161, 3) := by decide +kernel
theorem dX6_leaveOrPutDown_81 : decode cX6_leaveOrPutDown 81 = .ok (.aload_n 0, 1) := by decide +kernel
theorem dX6_leaveOrPutDown_82 : decode cX6_leaveOrPutDown 82 = .ok (.getfield 36, 3) := by decide +kernel
theorem dX6_leaveOrPutDown_85 : decode cX6_leaveOrPutDown 85 = .ok (.iload 4, 2) := by decide +kernel
theorem dX6_leaveOrPutDown_87 : decode cX6_leaveOrPutDown 87 = .ok (.iload_n 2, 1) := by decide +kernel
theorem dX6_leaveOrPutDown_88 : decode cX6_leaveOrPutDown 88 = .ok (.invokevirtual 113, 3) := by decide +kernel
theorem dX6_leaveOrPutDown_91 : decode cX6_leaveOrPutDown 91 = .ok (.ifCond .eq 16, 3) := by decide +kernel
theorem dX6_leaveOrPutDown_94 : decode cX6_leaveOrPutDown 94 = .ok (.aload_n 0, 1) := by decide +kernel
theorem dX6_leaveOrPutDown_95 : decode cX6_leaveOrPutDown 95 = .ok (.getfield 24, 3) := by decide +kernel
theorem dX6_leaveOrPutDown_98 : decode cX6_leaveOrPutDown 98 = .ok (.iload_n 3, 1) := by decide +kernel
theorem dX6_leaveOrPutDown_99 : decode cX6_leaveOrPutDown 99 = .ok (.dup2, 1) := by decide +kernel
theorem dX6_leaveOrPutDown_100 : decode cX6_leaveOrPutDown 100 = .ok (.iaload, 1) := by decide +kernel
theorem dX6_leaveOrPutDown_101 : decode cX6_leaveOrPutDown 101 = .ok (.iconst 1, 1) := by decide +kernel
theorem dX6_leaveOrPutDown_102 : decode cX6_leaveOrPutDown 102 = .ok (.iadd, 1) := by decide +kernel
theorem dX6_leaveOrPutDown_103 : decode cX6_leaveOrPutDown 103 = .ok (.iastore, 1) := by decide +kernel
theorem dX6_leaveOrPutDown_104 : decode cX6_leaveOrPutDown 104 = .ok (.goto 135, 3) := by decide +kernel
theorem dX6_leaveOrPutDown_107 : decode cX6_leaveOrPutDown 107 = .ok (.aload_n 0, 1) := by decide +kernel
theorem dX6_leaveOrPutDown_108 : decode cX6_leaveOrPutDown 108 = .ok (.getfield 33, 3) := by decide +kernel
theorem dX6_leaveOrPutDown_111 : decode cX6_leaveOrPutDown 111 = .ok (.iload 5, 2) := by decide +kernel
theorem dX6_leaveOrPutDown_113 : decode cX6_leaveOrPutDown 113 = .ok (.iaload, 1) := by decide +kernel
theorem dX6_leaveOrPutDown_114 : decode cX6_leaveOrPutDown 114 = .ok (.iload_n 2, 1) := by decide +kernel
theorem dX6_leaveOrPutDown_115 : decode cX6_leaveOrPutDown 115 = .ok (.if_icmp .lt 38, 3) := by decide +kernel
theorem dX6_leaveOrPutDown_118 : decode cX6_leaveOrPutDown 118 = .ok (.aload_n 0, 1) := by decide +kernel
theorem dX6_leaveOrPutDown_119 : decode cX6_leaveOrPutDown 119 = .ok (.getfield 30, 3) := by decide +kernel
theorem dX6_leaveOrPutDown_122 : decode cX6_leaveOrPutDown 122 = .ok (.iload 5, 2) := by decide +kernel
theorem dX6_leaveOrPutDown_124 : decode cX6_leaveOrPutDown 124 = .ok (.iaload, 1) := by decide +kernel
theorem dX6_leaveOrPutDown_125 : decode cX6_leaveOrPutDown 125 = .ok (.iconst (-1), 1) := by decide +kernel
theorem dX6_leaveOrPutDown_126 : decode cX6_leaveOrPutDown 126 = .ok (.if_icmp .eq 27, 3) := by decide +kernel
theorem dX6_leaveOrPutDown_129 : decode cX6_leaveOrPutDown 129 = .ok (.aload_n 0, 1) := by decide +kernel
theorem dX6_leaveOrPutDown_130 : decode cX6_leaveOrPutDown 130 = .ok (.getfield 27, 3) := by decide +kernel
theorem dX6_leaveOrPutDown_133 : decode cX6_leaveOrPutDown 133 = .ok (.iload_n 3, 1) := by decide +kernel
theorem dX6_leaveOrPutDown_134 : decode cX6_leaveOrPutDown 134 = .ok (.bipush 16, 2) := by decide +kernel
theorem dX6_leaveOrPutDown_136 : decode cX6_leaveOrPutDown 136 = .ok (.imul, 1) := by decide +kernel
theorem dX6_leaveOrPutDown_137 : decode cX6_leaveOrPutDown 137 = .ok (.aload_n 0, 1) := by decide +kernel
theorem dX6_leaveOrPutDown_138 : decode cX6_leaveOrPutDown 138 = .ok (.getfield 30, 3) := by decide +kernel
theorem dX6_leaveOrPutDown_141 : decode cX6_leaveOrPutDown 141 = .ok (.iload 5, 2) := by decide +kernel
theorem dX6_leaveOrPutDown_143 : decode cX6_leaveOrPutDown 143 = .ok (.iaload, 1) := by decide +kernel
theorem dX6_leaveOrPutDown_144 : decode cX6_leaveOrPutDown 144 = .ok (.iadd, 1) := by decide +kernel
theorem dX6_leaveOrPutDown_145 : decode cX6_leaveOrPutDown 145 = .ok (.dup2, 1) := by decide +kernel
theorem dX6_leaveOrPutDown_146 : decode cX6_leaveOrPutDown 146 = .ok (.iaload, 1) := by decide +kernel
theorem dX6_leaveOrPutDown_147 : decode cX6_leaveOrPutDown 147 = .ok (.iconst 1, 1) := by decide +kernel
theorem dX6_leaveOrPutDown_148 : decode cX6_leaveOrPutDown 148 = .ok (.iadd, 1) := by decide +kernel
theorem dX6_leaveOrPutDown_149 : decode cX6_leaveOrPutDown 149 = .ok (.iastore, 1) := by decide +kernel
theorem dX6_leaveOrPutDown_150 : decode cX6_leaveOrPutDown 150 = .ok (.goto 89, 3) := by decide +kernel
theorem dX6_leaveOrPutDown_153 : decode cX6_leaveOrPutDown 153 = .ok (.aload_n 0, 1) := by decide +kernel
theorem dX6_leaveOrPutDown_154 : decode cX6_leaveOrPutDown 154 = .ok (.getfield 36, 3) := by decide +kernel
theorem dX6_leaveOrPutDown_157 : decode cX6_leaveOrPutDown 157 = .ok (.aload_n 1, 1) := by decide +kernel
theorem dX6_leaveOrPutDown_158 : decode cX6_leaveOrPutDown 158 = .ok (.aload_n 0, 1) := by decide +kernel
theorem dX6_leaveOrPutDown_159 : decode cX6_leaveOrPutDown 159 = .ok (.getfield 9, 3) := by decide +kernel
theorem dX6_leaveOrPutDown_162 : decode cX6_leaveOrPutDown 162 = .ok (.iload_n 3, 1) := by decide +kernel
theorem dX6_leaveOrPutDown_163 : decode cX6_leaveOrPutDown 163 = .ok (.iaload, 1) := by decide +kernel
theorem dX6_leaveOrPutDown_164 : decode cX6_leaveOrPutDown 164 = .ok (.invokevirtual 117, 3) := by decide +kernel
theorem dX6_leaveOrPutDown_167 : decode cX6_leaveOrPutDown 167 = .ok (.istore 6, 2) := by decide +kernel
theorem dX6_leaveOrPutDown_169 : decode cX6_leaveOrPutDown 169 = .ok (.aload_n 0, 1) := by decide +kernel
theorem dX6_leaveOrPutDown_170 : decode cX6_leaveOrPutDown 170 = .ok (.getfield 30, 3) := by decide +kernel
theorem dX6_leaveOrPutDown_173 : decode cX6_leaveOrPutDown 173 = .ok (.iload 5, 2) := by decide +kernel
theorem dX6_leaveOrPutDown_175 : decode cX6_leaveOrPutDown 175 = .ok (.iload_n 3, 1) := by decide +kernel
theorem dX6_leaveOrPutDown_176 : decode cX6_leaveOrPutDown 176 = .ok (.iastore, 1) := by decide +kernel
theorem dX6_leaveOrPutDown_177 : decode cX6_leaveOrPutDown 177 = .ok (.aload_n 0, 1) := by decide +kernel
theorem dX6_leaveOrPutDown_178 : decode cX6_leaveOrPutDown 178 = .ok (.getfield 33, 3) := by decide +kernel
theorem dX6_leaveOrPutDown_181 : decode cX6_leaveOrPutDown 181 = .ok (.iload 5, 2) := by decide +kernel
theorem dX6_leaveOrPutDown_183 : decode cX6_leaveOrPutDown 183 = .ok (.iload_n 2, 1) := by decide +kernel
theorem dX6_leaveOrPutDown_184 : decode cX6_leaveOrPutDown 184 = .ok (.iload 6, 2) := by decide +kernel
theorem dX6_leaveOrPutDown_186 : decode cX6_leaveOrPutDown 186 = .ok (.iadd, 1) := by decide +kernel
theorem dX6_leaveOrPutDown_187 : decode cX6_leaveOrPutDown 187 = .ok (.iconst 1, 1) := by decide +kernel
theorem dX6_leaveOrPutDown_188 : decode cX6_leaveOrPutDown 188 = .ok (.isub, 1) := by decide +kernel
theorem dX6_leaveOrPutDown_189 : decode cX6_leaveOrPutDown 189 = .ok (.aload_n 0, 1) := by decide +kernel
theorem dX6_leaveOrPutDown_190 : decode cX6_leaveOrPutDown 190 = .ok (.getfield 36, 3) := by decide +kernel
theorem dX6_leaveOrPutDown_193 : decode cX6_leaveOrPutDown 193 = .ok (.invokevirtual 121, 3) := by decide +kernel
theorem dX6_leaveOrPutDown_196 : decode cX6_leaveOrPutDown 196 = .ok (.iadd, 1) := by decide +kernel
theorem dX6_leaveOrPutDown_197 : decode cX6_leaveOrPutDown 197 = .ok (.iastore, 1) := by decide +kernel
theorem dX6_leaveOrPutDown_198 : decode cX6_leaveOrPutDown 198 = .ok (.aload_n 0, 1) := by decide +kernel
theorem dX6_leaveOrPutDown_199 : decode cX6_leaveOrPutDown 199 = .ok (.getfield 9, 3) := by decide +kernel
theorem dX6_leaveOrPutDown_202 : decode cX6_leaveOrPutDown 202 = .ok (.iload_n 3, 1) := by decide +kernel
theorem dX6_leaveOrPutDown_203 : decode cX6_leaveOrPutDown 203 = .ok (.dup2, 1) := by decide +kernel
theorem dX6_leaveOrPutDown_204 : decode cX6_leaveOrPutDown 204 = .ok (.iaload, 1) := by decide +kernel
theorem dX6_leaveOrPutDown_205 : decode cX6_leaveOrPutDown 205 = .ok (.iconst 1, 1) := by decide +kernel
theorem dX6_leaveOrPutDown_206 : decode cX6_leaveOrPutDown 206 = .ok (.iadd, 1) := by decide +kernel
theorem dX6_leaveOrPutDown_207 : decode cX6_leaveOrPutDown 207 = .ok (.iastore, 1) := by decide +kernel
theorem dX6_leaveOrPutDown_208 : decode cX6_leaveOrPutDown 208 = .ok (.aload_n 0, 1) := by decide +kernel
theorem dX6_leaveOrPutDown_209 : decode cX6_leaveOrPutDown 209 = .ok (.getfield 15, 3) := by decide +kernel
theorem dX6_leaveOrPutDown_212 : decode cX6_leaveOrPutDown 212 = .ok (.iload_n 3, 1) := by decide +kernel
theorem dX6_leaveOrPutDown_213 : decode cX6_leaveOrPutDown 213 = .ok (.iload_n 2, 1) := by decide +kernel
theorem dX6_leaveOrPutDown_214 : decode cX6_leaveOrPutDown 214 = .ok (.iload 6, 2) := by decide +kernel
theorem dX6_leaveOrPutDown_216 : decode cX6_leaveOrPutDown 216 = .ok (.iadd, 1) := by decide +kernel
theorem dX6_leaveOrPutDown_217 : decode cX6_leaveOrPutDown 217 = .ok (.iastore, 1) := by decide +kernel
theorem dX6_leaveOrPutDown_218 : decode cX6_leaveOrPutDown 218 = .ok (.aload_n 0, 1) := by decide +kernel
theorem dX6_leaveOrPutDown_219 : decode cX6_leaveOrPutDown 219 = .ok (.getfield 18, 3) := by decide +kernel
theorem dX6_leaveOrPutDown_222 : decode cX6_leaveOrPutDown 222 = .ok (.iload_n 3, 1) := by decide +kernel
theorem dX6_leaveOrPutDown_223 : decode cX6_leaveOrPutDown 223 = .ok (.aload_n 1, 1) := by decide +kernel
theorem dX6_leaveOrPutDown_224 : decode cX6_leaveOrPutDown 224 = .ok (.getfield 81, 3) := by decide +kernel
theorem dX6_leaveOrPutDown_227 : decode cX6_leaveOrPutDown 227 = .ok (.aload_n 1, 1) := by decide +kernel
theorem dX6_leaveOrPutDown_228 : decode cX6_leaveOrPutDown 228 = .ok (.aload_n 0, 1) := by decide +kernel
theorem dX6_leaveOrPutDown_229 : decode cX6_leaveOrPutDown 229 = .ok (.getfield 9, 3) := by decide +kernel
theorem dX6_leaveOrPutDown_232 : decode cX6_leaveOrPutDown 232 = .ok (.iload_n 3, 1) := by decide +kernel
theorem dX6_leaveOrPutDown_233 : decode cX6_leaveOrPutDown 233 = .ok (.iaload, 1) := by decide +kernel
theorem dX6_leaveOrPutDown_234 : decode cX6_leaveOrPutDown 234 = .ok (.invokevirtual 124, 3) := by decide +kernel
theorem dX6_leaveOrPutDown_237 : decode cX6_leaveOrPutDown 237 = .ok (.iaload, 1) := by decide +kernel
theorem dX6_leaveOrPutDown_238 : decode cX6_leaveOrPutDown 238 = .ok (.iastore, 1) := by decide +kernel
theorem dX6_leaveOrPutDown_239 : decode cX6_leaveOrPutDown 239 = .ok (.return_, 1) := by decide +kernel
theorem dX6_told_0 : decode cX6_told 0 = .ok (.aload_n 1, 1) := by decide +kernel
theorem dX6_told_1 : decode cX6_told 1 = .ok (.getfield 88, 3) := by decide +kernel
theorem dX6_told_4 : decode cX6_told 4 = .ok (.istore_n 3, 1) := by decide +kernel
theorem dX6_told_5 : decode cX6_told 5 = .ok (.aload_n 0, 1) := by decide +kernel
theorem dX6_told_6 : decode cX6_told 6 = .ok (.getfield 15, 3) := by decide +kernel
theorem dX6_told_9 : decode cX6_told 9 = .ok (.iload_n 3, 1) := by decide +kernel
theorem dX6_told_10 : decode cX6_told 10 = .ok (.iaload, 1) := by decide +kernel
theorem dX6_told_11 : decode cX6_told 11 = .ok (.istore 4, 2) := by decide +kernel
theorem dX6_told_13 : decode cX6_told 13 = .ok (.aload_n 0, 1) := by decide +kernel
theorem dX6_told_14 : decode cX6_told 14 = .ok (.getfield 9, 3) := by decide +kernel
theorem dX6_told_17 : decode cX6_told 17 = .ok (.iload_n 3, 1) := by decide +kernel
theorem dX6_told_18 : decode cX6_told 18 = .ok (.iaload, 1) := by decide +kernel
theorem dX6_told_19 : decode cX6_told 19 = .ok (.aload_n 1, 1) := by decide +kernel
theorem dX6_told_20 : decode cX6_told 20 = .ok (.invokevirtual 94, 3) := by decide +kernel
theorem dX6_told_23 : decode cX6_told 23 = .ok (.if_icmp .lt 11, 3) := by decide +kernel
theorem dX6_told_26 : decode cX6_told 26 = .ok (.iload 4, 2) := by decide +kernel
theorem dX6_told_28 : decode cX6_told 28 = .ok (.sipush 480, 3) := by decide +kernel
theorem dX6_told_31 : decode cX6_told 31 = .ok (.if_icmp .lt 5, 3) := by decide +kernel
theorem dX6_told_34 : decode cX6_told 34 = .ok (.iconst (-1), 1) := by decide +kernel
theorem dX6_told_35 : decode cX6_told 35 = .ok (.ireturn, 1) := by decide +kernel
theorem dX6_told_36 : decode cX6_told 36 = .ok (.iload 4, 2) := by decide +kernel
theorem dX6_told_38 : decode cX6_told 38 = .ok (.aload_n 1, 1) := by decide +kernel
theorem dX6_told_39 : decode cX6_told 39 = .ok (.getfield 127, 3) := by decide +kernel
theorem dX6_told_42 : decode cX6_told 42 = .ok (.aload_n 1, 1) := by decide +kernel
theorem dX6_told_43 : decode cX6_told 43 = .ok (.invokevirtual 94, 3) := by decide +kernel
theorem dX6_told_46 : decode cX6_told 46 = .ok (.iaload, 1) := by decide +kernel
theorem dX6_told_47 : decode cX6_told 47 = .ok (.isub, 1) := by decide +kernel
theorem dX6_told_48 : decode cX6_told 48 = .ok (.istore 5, 2) := by decide +kernel
theorem dX6_told_50 : decode cX6_told 50 = .ok (.iload_n 2, 1) := by decide +kernel
theorem dX6_told_51 : decode cX6_told 51 = .ok (.tableswitch 86 0 5 #[37, 40, 43, 50, 57, 63], 37) := by decide +kernel
theorem dX6_told_88 : decode cX6_told 88 = .ok (.iload 4, 2) := by decide +kernel
theorem dX6_told_90 : decode cX6_told 90 = .ok (.ireturn, 1) := by decide +kernel
theorem dX6_told_91 : decode cX6_told 91 = .ok (.iload 5, 2) := by decide +kernel
theorem dX6_told_93 : decode cX6_told 93 = .ok (.ireturn, 1) := by decide +kernel
theorem dX6_told_94 : decode cX6_told 94 = .ok (.aload_n 0, 1) := by decide +kernel
theorem dX6_told_95 : decode cX6_told 95 = .ok (.getfield 21, 3) := by decide +kernel
theorem dX6_told_98 : decode cX6_told 98 = .ok (.iload_n 3, 1) := by decide +kernel
theorem dX6_told_99 : decode cX6_told 99 = .ok (.iaload, 1) := by decide +kernel
theorem dX6_told_100 : decode cX6_told 100 = .ok (.ireturn, 1) := by decide +kernel
theorem dX6_told_101 : decode cX6_told 101 = .ok (.aload_n 0, 1) := by decide +kernel
theorem dX6_told_102 : decode cX6_told 102 = .ok (.getfield 24, 3) := by decide +kernel
theorem dX6_told_105 : decode cX6_told 105 = .ok (.iload_n 3, 1) := by decide +kernel
theorem dX6_told_106 : decode cX6_told 106 = .ok (.iaload, 1) := by decide +kernel
theorem dX6_told_107 : decode cX6_told 107 = .ok (.ireturn, 1) := by decide +kernel
theorem dX6_told_108 : decode cX6_told 108 = .ok (.aload_n 0, 1) := by decide +kernel
theorem dX6_told_109 : decode cX6_told 109 = .ok (.iload_n 3, 1) := by decide +kernel
theorem dX6_told_110 : decode cX6_told 110 = .ok (.invokevirtual 130, 3) := by decide +kernel
theorem dX6_told_113 : decode cX6_told 113 = .ok (.ireturn, 1) := by decide +kernel
theorem dX6_told_114 : decode cX6_told 114 = .ok (.aload_n 0, 1) := by decide +kernel
theorem dX6_told_115 : decode cX6_told 115 = .ok (.getfield 21, 3) := by decide +kernel
theorem dX6_told_118 : decode cX6_told 118 = .ok (.iload_n 3, 1) := by decide +kernel
theorem dX6_told_119 : decode cX6_told 119 = .ok (.iaload, 1) := by decide +kernel
theorem dX6_told_120 : decode cX6_told 120 = .ok (.aload_n 0, 1) := by decide +kernel
theorem dX6_told_121 : decode cX6_told 121 = .ok (.getfield 24, 3) := by decide +kernel
theorem dX6_told_124 : decode cX6_told 124 = .ok (.iload_n 3, 1) := by decide +kernel
theorem dX6_told_125 : decode cX6_told 125 = .ok (.iaload, 1) := by decide +kernel
theorem dX6_told_126 : decode cX6_told 126 = .ok (.iadd, 1) := by decide +kernel
theorem dX6_told_127 : decode cX6_told 127 = .ok (.aload_n 0, 1) := by decide +kernel
theorem dX6_told_128 : decode cX6_told 128 = .ok (.iload_n 3, 1) := by decide +kernel
theorem dX6_told_129 : decode cX6_told 129 = .ok (.invokevirtual 130, 3) := by decide +kernel
theorem dX6_told_132 : decode cX6_told 132 = .ok (.iadd, 1) := by decide +kernel
theorem dX6_told_133 : decode cX6_told 133 = .ok (.iload 5, 2) := by decide +kernel
theorem dX6_told_135 : decode cX6_told 135 = .ok (.isub, 1) := by decide +kernel
theorem dX6_told_136 : decode cX6_told 136 = .ok (.ireturn, 1) := by decide +kernel
theorem dX6_told_137 : decode cX6_told 137 = .ok (.iconst (-1), 1) := by decide +kernel
theorem dX6_told_138 : decode cX6_told 138 = .ok (.ireturn, 1) := by decide +kernel
theorem dX6_toOthers_0 : decode cX6_toOthers 0 = .ok (.iconst 0, 1) := by decide +kernel
theorem dX6_toOthers_1 : decode cX6_toOthers 1 = .ok (.istore_n 2, 1) := by decide +kernel
theorem dX6_toOthers_2 : decode cX6_toOthers 2 = .ok (.iconst 0, 1) := by decide +kernel
theorem dX6_toOthers_3 : decode cX6_toOthers 3 = .ok (.istore_n 3, 1) := by decide +kernel
theorem dX6_toOthers_4 : decode cX6_toOthers 4 = .ok (.iload_n 3, 1) := by decide +kernel
theorem dX6_toOthers_5 : decode cX6_toOthers 5 = .ok (.aload_n 0, 1) := by decide +kernel
theorem dX6_toOthers_6 : decode cX6_toOthers 6 = .ok (.getfield 40, 3) := by decide +kernel
theorem dX6_toOthers_9 : decode cX6_toOthers 9 = .ok (.invokevirtual 77, 3) := by decide +kernel
theorem dX6_toOthers_12 : decode cX6_toOthers 12 = .ok (.if_icmp .ge 23, 3) := by decide +kernel
theorem dX6_toOthers_15 : decode cX6_toOthers 15 = .ok (.iload_n 2, 1) := by decide +kernel
theorem dX6_toOthers_16 : decode cX6_toOthers 16 = .ok (.aload_n 0, 1) := by decide +kernel
theorem dX6_toOthers_17 : decode cX6_toOthers 17 = .ok (.getfield 27, 3) := by decide +kernel
theorem dX6_toOthers_20 : decode cX6_toOthers 20 = .ok (.iload_n 1, 1) := by decide +kernel
theorem dX6_toOthers_21 : decode cX6_toOthers 21 = .ok (.bipush 16, 2) := by decide +kernel
theorem dX6_toOthers_23 : decode cX6_toOthers 23 = .ok (.imul, 1) := by decide +kernel
theorem dX6_toOthers_24 : decode cX6_toOthers 24 = .ok (.iload_n 3, 1) := by decide +kernel
theorem dX6_toOthers_25 : decode cX6_toOthers 25 = .ok (.iadd, 1) := by decide +kernel
theorem dX6_toOthers_26 : decode cX6_toOthers 26 = .ok (.iaload, 1) := by decide +kernel
theorem dX6_toOthers_27 : decode cX6_toOthers 27 = .ok (.iadd, 1) := by decide +kernel
theorem dX6_toOthers_28 : decode cX6_toOthers 28 = .ok (.istore_n 2, 1) := by decide +kernel
theorem dX6_toOthers_29 : decode cX6_toOthers 29 = .ok (.iinc 3 1, 3) := by decide +kernel
theorem dX6_toOthers_32 : decode cX6_toOthers 32 = .ok (.goto (-28), 3) := by decide +kernel
theorem dX6_toOthers_35 : decode cX6_toOthers 35 = .ok (.iload_n 2, 1) := by decide +kernel
theorem dX6_toOthers_36 : decode cX6_toOthers 36 = .ok (.ireturn, 1) := by decide +kernel
theorem dX6_coinsOf_0 : decode cX6_coinsOf 0 = .ok (.iconst 0, 1) := by decide +kernel
theorem dX6_coinsOf_1 : decode cX6_coinsOf 1 = .ok (.istore_n 2, 1) := by decide +kernel
theorem dX6_coinsOf_2 : decode cX6_coinsOf 2 = .ok (.iconst 0, 1) := by decide +kernel
theorem dX6_coinsOf_3 : decode cX6_coinsOf 3 = .ok (.istore_n 3, 1) := by decide +kernel
theorem dX6_coinsOf_4 : decode cX6_coinsOf 4 = .ok (.iload_n 3, 1) := by decide +kernel
theorem dX6_coinsOf_5 : decode cX6_coinsOf 5 = .ok (.aload_n 0, 1) := by decide +kernel
theorem dX6_coinsOf_6 : decode cX6_coinsOf 6 = .ok (.getfield 40, 3) := by decide +kernel
theorem dX6_coinsOf_9 : decode cX6_coinsOf 9 = .ok (.invokevirtual 77, 3) := by decide +kernel
theorem dX6_coinsOf_12 : decode cX6_coinsOf 12 = .ok (.if_icmp .ge 105, 3) := by decide +kernel
theorem dX6_coinsOf_15 : decode cX6_coinsOf 15 = .ok (.iconst 0, 1) := by decide +kernel
theorem dX6_coinsOf_16 : decode cX6_coinsOf 16 = .ok (.istore 4, 2) := by decide +kernel
theorem dX6_coinsOf_18 : decode cX6_coinsOf 18 = .ok (.iload 4, 2) := by decide +kernel
theorem dX6_coinsOf_20 : decode cX6_coinsOf 20 = .ok (.aload_n 0, 1) := by decide +kernel
theorem dX6_coinsOf_21 : decode cX6_coinsOf 21 = .ok (.getfield 40, 3) := by decide +kernel
theorem dX6_coinsOf_24 : decode cX6_coinsOf 24 = .ok (.invokevirtual 77, 3) := by decide +kernel
theorem dX6_coinsOf_27 : decode cX6_coinsOf 27 = .ok (.if_icmp .ge 84, 3) := by decide +kernel
theorem dX6_coinsOf_30 : decode cX6_coinsOf 30 = .ok (.aload_n 0, 1) := by decide +kernel
theorem dX6_coinsOf_31 : decode cX6_coinsOf 31 = .ok (.getfield 27, 3) := by decide +kernel
theorem dX6_coinsOf_34 : decode cX6_coinsOf 34 = .ok (.iload_n 3, 1) := by decide +kernel
theorem dX6_coinsOf_35 : decode cX6_coinsOf 35 = .ok (.bipush 16, 2) := by decide +kernel
theorem dX6_coinsOf_37 : decode cX6_coinsOf 37 = .ok (.imul, 1) := by decide +kernel
theorem dX6_coinsOf_38 : decode cX6_coinsOf 38 = .ok (.iload 4, 2) := by decide +kernel
theorem dX6_coinsOf_40 : decode cX6_coinsOf 40 = .ok (.iadd, 1) := by decide +kernel
theorem dX6_coinsOf_41 : decode cX6_coinsOf 41 = .ok (.iaload, 1) := by decide +kernel
theorem dX6_coinsOf_42 : decode cX6_coinsOf 42 = .ok (.istore 5, 2) := by decide +kernel
theorem dX6_coinsOf_44 : decode cX6_coinsOf 44 = .ok (.iload_n 2, 1) := by decide +kernel
theorem dX6_coinsOf_45 : decode cX6_coinsOf 45 = .ok (.aload_n 0, 1) := by decide +kernel
theorem dX6_coinsOf_46 : decode cX6_coinsOf 46 = .ok (.getfield 40, 3) := by decide +kernel
theorem dX6_coinsOf_49 : decode cX6_coinsOf 49 = .ok (.getfield 78, 3) := by decide +kernel
theorem dX6_coinsOf_52 : decode cX6_coinsOf 52 = .ok (.iload_n 3, 1) := by decide +kernel
theorem dX6_coinsOf_53 : decode cX6_coinsOf 53 = .ok (.invokevirtual 63, 3) := by decide +kernel
theorem dX6_coinsOf_56 : decode cX6_coinsOf 56 = .ok (.checkcast 67, 3) := by decide +kernel
theorem dX6_coinsOf_59 : decode cX6_coinsOf 59 = .ok (.getfield 133, 3) := by decide +kernel
theorem dX6_coinsOf_62 : decode cX6_coinsOf 62 = .ok (.iload_n 1, 1) := by decide +kernel
theorem dX6_coinsOf_63 : decode cX6_coinsOf 63 = .ok (.if_icmp .ne 8, 3) := by decide +kernel
theorem dX6_coinsOf_66 : decode cX6_coinsOf 66 = .ok (.iload 5, 2) := by decide +kernel
theorem dX6_coinsOf_68 : decode cX6_coinsOf 68 = .ok (.goto 4, 3) := by decide +kernel
theorem dX6_coinsOf_71 : decode cX6_coinsOf 71 = .ok (.iconst 0, 1) := by decide +kernel
theorem dX6_coinsOf_72 : decode cX6_coinsOf 72 = .ok (.iadd, 1) := by decide +kernel
theorem dX6_coinsOf_73 : decode cX6_coinsOf 73 = .ok (.istore_n 2, 1) := by decide +kernel
theorem dX6_coinsOf_74 : decode cX6_coinsOf 74 = .ok (.iload_n 2, 1) := by decide +kernel
theorem dX6_coinsOf_75 : decode cX6_coinsOf 75 = .ok (.aload_n 0, 1) := by decide +kernel
theorem dX6_coinsOf_76 : decode cX6_coinsOf 76 = .ok (.getfield 40, 3) := by decide +kernel
theorem dX6_coinsOf_79 : decode cX6_coinsOf 79 = .ok (.getfield 78, 3) := by decide +kernel
theorem dX6_coinsOf_82 : decode cX6_coinsOf 82 = .ok (.iload 4, 2) := by decide +kernel
theorem dX6_coinsOf_84 : decode cX6_coinsOf 84 = .ok (.invokevirtual 63, 3) := by decide +kernel
theorem dX6_coinsOf_87 : decode cX6_coinsOf 87 = .ok (.checkcast 67, 3) := by decide +kernel
theorem dX6_coinsOf_90 : decode cX6_coinsOf 90 = .ok (.getfield 133, 3) := by decide +kernel
theorem dX6_coinsOf_93 : decode cX6_coinsOf 93 = .ok (.iload_n 1, 1) := by decide +kernel
theorem dX6_coinsOf_94 : decode cX6_coinsOf 94 = .ok (.if_icmp .ne 8, 3) := by decide +kernel
theorem dX6_coinsOf_97 : decode cX6_coinsOf 97 = .ok (.iload 5, 2) := by decide +kernel
theorem dX6_coinsOf_99 : decode cX6_coinsOf 99 = .ok (.goto 4, 3) := by decide +kernel
theorem dX6_coinsOf_102 : decode cX6_coinsOf 102 = .ok (.iconst 0, 1) := by decide +kernel
theorem dX6_coinsOf_103 : decode cX6_coinsOf 103 = .ok (.isub, 1) := by decide +kernel
theorem dX6_coinsOf_104 : decode cX6_coinsOf 104 = .ok (.istore_n 2, 1) := by decide +kernel
theorem dX6_coinsOf_105 : decode cX6_coinsOf 105 = .ok (.iinc 4 1, 3) := by decide +kernel
theorem dX6_coinsOf_108 : decode cX6_coinsOf 108 = .ok (.goto (-90), 3) := by decide +kernel
theorem dX6_coinsOf_111 : decode cX6_coinsOf 111 = .ok (.iinc 3 1, 3) := by decide +kernel
theorem dX6_coinsOf_114 : decode cX6_coinsOf 114 = .ok (.goto (-110), 3) := by decide +kernel
theorem dX6_coinsOf_117 : decode cX6_coinsOf 117 = .ok (.iload_n 2, 1) := by decide +kernel
theorem dX6_coinsOf_118 : decode cX6_coinsOf 118 = .ok (.ireturn, 1) := by decide +kernel
theorem dX7_init_0 : decode cX7_init 0 = .ok (.aload_n 0, 1) := by decide +kernel
theorem dX7_init_1 : decode cX7_init 1 = .ok (.invokespecial 1, 3) := by decide +kernel
theorem dX7_init_4 : decode cX7_init 4 = .ok (.new 7, 3) := by decide +kernel
theorem dX7_init_7 : decode cX7_init 7 = .ok (.dup, 1) := by decide +kernel
theorem dX7_init_8 : decode cX7_init 8 = .ok (.iconst 2, 1) := by decide +kernel
theorem dX7_init_9 : decode cX7_init 9 = .ok (.bipush 8, 2) := by decide +kernel
theorem dX7_init_11 : decode cX7_init 11 = .ok (.iload_n 1, 1) := by decide +kernel
theorem dX7_init_12 : decode cX7_init 12 = .ok (.invokestatic 11, 3) := by decide +kernel
theorem dX7_init_15 : decode cX7_init 15 = .ok (.invokestatic 17, 3) := by decide +kernel
theorem dX7_init_18 : decode cX7_init 18 = .ok (.invokespecial 20, 3) := by decide +kernel
theorem dX7_init_21 : decode cX7_init 21 = .ok (.astore_n 2, 1) := by decide +kernel
theorem dX7_init_22 : decode cX7_init 22 = .ok (.new 23, 3) := by decide +kernel
theorem dX7_init_25 : decode cX7_init 25 = .ok (.dup, 1) := by decide +kernel
theorem dX7_init_26 : decode cX7_init 26 = .ok (.invokespecial 25, 3) := by decide +kernel
theorem dX7_init_29 : decode cX7_init 29 = .ok (.astore_n 3, 1) := by decide +kernel
theorem dX7_init_30 : decode cX7_init 30 = .ok (.new 26, 3) := by decide +kernel
theorem dX7_init_33 : decode cX7_init 33 = .ok (.dup, 1) := by decide +kernel
theorem dX7_init_34 : decode cX7_init 34 = .ok (.aload_n 2, 1) := by decide +kernel
theorem dX7_init_35 : decode cX7_init 35 = .ok (.aload_n 3, 1) := by decide +kernel
theorem dX7_init_36 : decode cX7_init 36 = .ok (.invokespecial 28, 3) := by decide +kernel
theorem dX7_init_39 : decode cX7_init 39 = .ok (.astore 4, 2) := by decide +kernel
theorem dX7_init_41 : decode cX7_init 41 = .ok (.aload_n 0, 1) := by decide +kernel
theorem dX7_init_42 : decode cX7_init 42 = .ok (.aload_n 2, 1) := by decide +kernel
theorem dX7_init_43 : decode cX7_init 43 = .ok (.putfield 31, 3) := by decide +kernel
theorem dX7_init_46 : decode cX7_init 46 = .ok (.aload_n 0, 1) := by decide +kernel
theorem dX7_init_47 : decode cX7_init 47 = .ok (.aload_n 3, 1) := by decide +kernel
theorem dX7_init_48 : decode cX7_init 48 = .ok (.putfield 35, 3) := by decide +kernel
theorem dX7_init_51 : decode cX7_init 51 = .ok (.aload_n 0, 1) := by decide +kernel
theorem dX7_init_52 : decode cX7_init 52 = .ok (.aload 4, 2) := by decide +kernel
theorem dX7_init_54 : decode cX7_init 54 = .ok (.putfield 39, 3) := by decide +kernel
theorem dX7_init_57 : decode cX7_init 57 = .ok (.aload_n 0, 1) := by decide +kernel
theorem dX7_init_58 : decode cX7_init 58 = .ok (.new 43, 3) := by decide +kernel
theorem dX7_init_61 : decode cX7_init 61 = .ok (.dup, 1) := by decide +kernel
theorem dX7_init_62 : decode cX7_init 62 = .ok (.aload_n 3, 1) := by decide +kernel
theorem dX7_init_63 : decode cX7_init 63 = .ok (.aload 4, 2) := by decide +kernel
theorem dX7_init_65 : decode cX7_init 65 = .ok (.invokespecial 45, 3) := by decide +kernel
theorem dX7_init_68 : decode cX7_init 68 = .ok (.putfield 48, 3) := by decide +kernel
theorem dX7_init_71 : decode cX7_init 71 = .ok (.aload_n 0, 1) := by decide +kernel
theorem dX7_init_72 : decode cX7_init 72 = .ok (.new 52, 3) := by decide +kernel
theorem dX7_init_75 : decode cX7_init 75 = .ok (.dup, 1) := by decide +kernel
theorem dX7_init_76 : decode cX7_init 76 = .ok (.aload_n 2, 1) := by decide +kernel
theorem dX7_init_77 : decode cX7_init 77 = .ok (.aload_n 3, 1) := by decide +kernel
theorem dX7_init_78 : decode cX7_init 78 = .ok (.invokespecial 54, 3) := by decide +kernel
theorem dX7_init_81 : decode cX7_init 81 = .ok (.putfield 55, 3) := by decide +kernel
theorem dX7_init_84 : decode cX7_init 84 = .ok (.aload_n 0, 1) := by decide +kernel
theorem dX7_init_85 : decode cX7_init 85 = .ok (.new 59, 3) := by decide +kernel
theorem dX7_init_88 : decode cX7_init 88 = .ok (.dup, 1) := by decide +kernel
theorem dX7_init_89 : decode cX7_init 89 = .ok (.aload_n 2, 1) := by decide +kernel
theorem dX7_init_90 : decode cX7_init 90 = .ok (.aload_n 3, 1) := by decide +kernel
theorem dX7_init_91 : decode cX7_init 91 = .ok (.invokespecial 61, 3) := by decide +kernel
theorem dX7_init_94 : decode cX7_init 94 = .ok (.putfield 62, 3) := by decide +kernel
theorem dX7_init_97 : decode cX7_init 97 = .ok (.return_, 1) := by decide +kernel
theorem dX7_section_0 : decode cX7_section 0 = .ok (.aload_n 0, 1) := by decide +kernel
theorem dX7_section_1 : decode cX7_section 1 = .ok (.getfield 31, 3) := by decide +kernel
theorem dX7_section_4 : decode cX7_section 4 = .ok (.iload_n 1, 1) := by decide +kernel
theorem dX7_section_5 : decode cX7_section 5 = .ok (.invokevirtual 66, 3) := by decide +kernel
theorem dX7_section_8 : decode cX7_section 8 = .ok (.ifCond .eq 24, 3) := by decide +kernel
theorem dX7_section_11 : decode cX7_section 11 = .ok (.iload_n 3, 1) := by decide +kernel
theorem dX7_section_12 : decode cX7_section 12 = .ok (.iconst 1, 1) := by decide +kernel
theorem dX7_section_13 : decode cX7_section 13 = .ok (.bipush 30, 2) := by decide +kernel
theorem dX7_section_15 : decode cX7_section 15 = .ok (.invokestatic 70, 3) := by decide +kernel
theorem dX7_section_18 : decode cX7_section 18 = .ok (.ifCond .eq 14, 3) := by decide +kernel
theorem dX7_section_21 : decode cX7_section 21 = .ok (.iload 4, 2) := by decide +kernel
theorem dX7_section_23 : decode cX7_section 23 = .ok (.iconst 1, 1) := by decide +kernel
theorem dX7_section_24 : decode cX7_section 24 = .ok (.bipush 30, 2) := by decide +kernel
theorem dX7_section_26 : decode cX7_section 26 = .ok (.invokestatic 70, 3) := by decide +kernel
theorem dX7_section_29 : decode cX7_section 29 = .ok (.ifCond .ne 5, 3) := by decide +kernel
theorem dX7_section_32 : decode cX7_section 32 = .ok (.iconst 0, 1) := by decide +kernel
theorem dX7_section_33 : decode cX7_section 33 = .ok (.ireturn, 1) := by decide +kernel
theorem dX7_section_34 : decode cX7_section 34 = .ok (.aload_n 0, 1) := by decide +kernel
theorem dX7_section_35 : decode cX7_section 35 = .ok (.getfield 35, 3) := by decide +kernel
theorem dX7_section_38 : decode cX7_section 38 = .ok (.invokevirtual 74, 3) := by decide +kernel
theorem dX7_section_41 : decode cX7_section 41 = .ok (.ifCond .le 5, 3) := by decide +kernel
theorem dX7_section_44 : decode cX7_section 44 = .ok (.iconst 0, 1) := by decide +kernel
theorem dX7_section_45 : decode cX7_section 45 = .ok (.ireturn, 1) := by decide +kernel
theorem dX7_section_46 : decode cX7_section 46 = .ok (.aload_n 0, 1) := by decide +kernel
theorem dX7_section_47 : decode cX7_section 47 = .ok (.getfield 31, 3) := by decide +kernel
theorem dX7_section_50 : decode cX7_section 50 = .ok (.iload_n 1, 1) := by decide +kernel
theorem dX7_section_51 : decode cX7_section 51 = .ok (.iload_n 2, 1) := by decide +kernel
theorem dX7_section_52 : decode cX7_section 52 = .ok (.iload_n 3, 1) := by decide +kernel
theorem dX7_section_53 : decode cX7_section 53 = .ok (.iload 4, 2) := by decide +kernel
theorem dX7_section_55 : decode cX7_section 55 = .ok (.invokevirtual 78, 3) := by decide +kernel
theorem dX7_section_58 : decode cX7_section 58 = .ok (.aload_n 0, 1) := by decide +kernel
theorem dX7_section_59 : decode cX7_section 59 = .ok (.getfield 62, 3) := by decide +kernel
theorem dX7_section_62 : decode cX7_section 62 = .ok (.invokevirtual 82, 3) := by decide +kernel
theorem dX7_section_65 : decode cX7_section 65 = .ok (.iconst 1, 1) := by decide +kernel
theorem dX7_section_66 : decode cX7_section 66 = .ok (.ireturn, 1) := by decide +kernel
theorem dX7_tracks_0 : decode cX7_tracks 0 = .ok (.aload_n 0, 1) := by decide +kernel
theorem dX7_tracks_1 : decode cX7_tracks 1 = .ok (.getfield 31, 3) := by decide +kernel
theorem dX7_tracks_4 : decode cX7_tracks 4 = .ok (.iload_n 1, 1) := by decide +kernel
theorem dX7_tracks_5 : decode cX7_tracks 5 = .ok (.invokevirtual 85, 3) := by decide +kernel
theorem dX7_tracks_8 : decode cX7_tracks 8 = .ok (.ifCond .eq 13, 3) := by decide +kernel
theorem dX7_tracks_11 : decode cX7_tracks 11 = .ok (.iload_n 2, 1) := by decide +kernel
theorem dX7_tracks_12 : decode cX7_tracks 12 = .ok (.iconst 0, 1) := by decide +kernel
theorem dX7_tracks_13 : decode cX7_tracks 13 = .ok (.bipush 9, 2) := by decide +kernel
theorem dX7_tracks_15 : decode cX7_tracks 15 = .ok (.invokestatic 70, 3) := by decide +kernel
theorem dX7_tracks_18 : decode cX7_tracks 18 = .ok (.ifCond .ne 5, 3) := by decide +kernel
theorem dX7_tracks_21 : decode cX7_tracks 21 = .ok (.iconst 0, 1) := by decide +kernel
theorem dX7_tracks_22 : decode cX7_tracks 22 = .ok (.ireturn, 1) := by decide +kernel
theorem dX7_tracks_23 : decode cX7_tracks 23 = .ok (.aload_n 0, 1) := by decide +kernel
theorem dX7_tracks_24 : decode cX7_tracks 24 = .ok (.getfield 31, 3) := by decide +kernel
theorem dX7_tracks_27 : decode cX7_tracks 27 = .ok (.getfield 88, 3) := by decide +kernel
theorem dX7_tracks_30 : decode cX7_tracks 30 = .ok (.iload_n 1, 1) := by decide +kernel
theorem dX7_tracks_31 : decode cX7_tracks 31 = .ok (.iload_n 2, 1) := by decide +kernel
theorem dX7_tracks_32 : decode cX7_tracks 32 = .ok (.iastore, 1) := by decide +kernel
theorem dX7_tracks_33 : decode cX7_tracks 33 = .ok (.iconst 1, 1) := by decide +kernel
theorem dX7_tracks_34 : decode cX7_tracks 34 = .ok (.ireturn, 1) := by decide +kernel
theorem dX7_headway_0 : decode cX7_headway 0 = .ok (.iload_n 1, 1) := by decide +kernel
theorem dX7_headway_1 : decode cX7_headway 1 = .ok (.iconst 0, 1) := by decide +kernel
theorem dX7_headway_2 : decode cX7_headway 2 = .ok (.bipush 9, 2) := by decide +kernel
theorem dX7_headway_4 : decode cX7_headway 4 = .ok (.invokestatic 70, 3) := by decide +kernel
theorem dX7_headway_7 : decode cX7_headway 7 = .ok (.ifCond .ne 5, 3) := by decide +kernel
theorem dX7_headway_10 : decode cX7_headway 10 = .ok (.iconst 0, 1) := by decide +kernel
theorem dX7_headway_11 : decode cX7_headway 11 = .ok (.ireturn, 1) := by decide +kernel
theorem dX7_headway_12 : decode cX7_headway 12 = .ok (.aload_n 0, 1) := by decide +kernel
theorem dX7_headway_13 : decode cX7_headway 13 = .ok (.getfield 31, 3) := by decide +kernel
theorem dX7_headway_16 : decode cX7_headway 16 = .ok (.iload_n 1, 1) := by decide +kernel
theorem dX7_headway_17 : decode cX7_headway 17 = .ok (.putfield 92, 3) := by decide +kernel
theorem dX7_headway_20 : decode cX7_headway 20 = .ok (.aload_n 0, 1) := by decide +kernel
theorem dX7_headway_21 : decode cX7_headway 21 = .ok (.getfield 62, 3) := by decide +kernel
theorem dX7_headway_24 : decode cX7_headway 24 = .ok (.invokevirtual 82, 3) := by decide +kernel
theorem dX7_headway_27 : decode cX7_headway 27 = .ok (.iconst 1, 1) := by decide +kernel
theorem dX7_headway_28 : decode cX7_headway 28 = .ok (.ireturn, 1) := by decide +kernel
theorem dX7_works_0 : decode cX7_works 0 = .ok (.aload_n 0, 1) := by decide +kernel
theorem dX7_works_1 : decode cX7_works 1 = .ok (.getfield 31, 3) := by decide +kernel
theorem dX7_works_4 : decode cX7_works 4 = .ok (.iload_n 1, 1) := by decide +kernel
theorem dX7_works_5 : decode cX7_works 5 = .ok (.invokevirtual 66, 3) := by decide +kernel
theorem dX7_works_8 : decode cX7_works 8 = .ok (.ifCond .eq 31, 3) := by decide +kernel
theorem dX7_works_11 : decode cX7_works 11 = .ok (.iload_n 2, 1) := by decide +kernel
theorem dX7_works_12 : decode cX7_works 12 = .ok (.ifCond .lt 27, 3) := by decide +kernel
theorem dX7_works_15 : decode cX7_works 15 = .ok (.iload_n 3, 1) := by decide +kernel
theorem dX7_works_16 : decode cX7_works 16 = .ok (.sipush 480, 3) := by decide +kernel
theorem dX7_works_19 : decode cX7_works 19 = .ok (.if_icmp .gt 20, 3) := by decide +kernel
theorem dX7_works_22 : decode cX7_works 22 = .ok (.iload_n 3, 1) := by decide +kernel
theorem dX7_works_23 : decode cX7_works 23 = .ok (.iload_n 2, 1) := by decide +kernel
theorem dX7_works_24 : decode cX7_works 24 = .ok (.if_icmp .le 15, 3) := by decide +kernel
theorem dX7_works_27 : decode cX7_works 27 = .ok (.aload_n 0, 1) := by decide +kernel
theorem dX7_works_28 : decode cX7_works 28 = .ok (.getfield 31, 3) := by decide +kernel
theorem dX7_works_31 : decode cX7_works 31 = .ok (.getfield 96, 3) := by decide +kernel
theorem dX7_works_34 : decode cX7_works 34 = .ok (.bipush 10, 2) := by decide +kernel
theorem dX7_works_36 : decode cX7_works 36 = .ok (.if_icmp .lt 5, 3) := by decide +kernel
theorem dX7_works_39 : decode cX7_works 39 = .ok (.iconst 0, 1) := by decide +kernel
theorem dX7_works_40 : decode cX7_works 40 = .ok (.ireturn, 1) := by decide +kernel
theorem dX7_works_41 : decode cX7_works 41 = .ok (.aload_n 0, 1) := by decide +kernel
theorem dX7_works_42 : decode cX7_works 42 = .ok (.getfield 31, 3) := by decide +kernel
theorem dX7_works_45 : decode cX7_works 45 = .ok (.iload_n 1, 1) := by decide +kernel
theorem dX7_works_46 : decode cX7_works 46 = .ok (.iload_n 2, 1) := by decide +kernel
theorem dX7_works_47 : decode cX7_works 47 = .ok (.iload_n 3, 1) := by decide +kernel
theorem dX7_works_48 : decode cX7_works 48 = .ok (.invokevirtual 99, 3) := by decide +kernel
theorem dX7_works_51 : decode cX7_works 51 = .ok (.aload_n 0, 1) := by decide +kernel
theorem dX7_works_52 : decode cX7_works 52 = .ok (.getfield 62, 3) := by decide +kernel
theorem dX7_works_55 : decode cX7_works 55 = .ok (.invokevirtual 82, 3) := by decide +kernel
theorem dX7_works_58 : decode cX7_works 58 = .ok (.iconst 1, 1) := by decide +kernel
theorem dX7_works_59 : decode cX7_works 59 = .ok (.ireturn, 1) := by decide +kernel
theorem dX7_bid_0 : decode cX7_bid 0 = .ok (.aload_n 0, 1) := by decide +kernel
theorem dX7_bid_1 : decode cX7_bid 1 = .ok (.getfield 35, 3) := by decide +kernel
theorem dX7_bid_4 : decode cX7_bid 4 = .ok (.invokevirtual 103, 3) := by decide +kernel
theorem dX7_bid_7 : decode cX7_bid 7 = .ok (.bipush 16, 2) := by decide +kernel
theorem dX7_bid_9 : decode cX7_bid 9 = .ok (.if_icmp .ge 25, 3) := by decide +kernel
theorem dX7_bid_12 : decode cX7_bid 12 = .ok (.iload_n 3, 1) := by decide +kernel
theorem dX7_bid_13 : decode cX7_bid 13 = .ok (.iconst 0, 1) := by decide +kernel
theorem dX7_bid_14 : decode cX7_bid 14 = .ok (.sipush 1000, 3) := by decide +kernel
theorem dX7_bid_17 : decode cX7_bid 17 = .ok (.invokestatic 70, 3) := by decide +kernel
theorem dX7_bid_20 : decode cX7_bid 20 = .ok (.ifCond .eq 14, 3) := by decide +kernel
theorem dX7_bid_23 : decode cX7_bid 23 = .ok (.iload 4, 2) := by decide +kernel
theorem dX7_bid_25 : decode cX7_bid 25 = .ok (.iconst 0, 1) := by decide +kernel
theorem dX7_bid_26 : decode cX7_bid 26 = .ok (.bipush 99, 2) := by decide +kernel
theorem dX7_bid_28 : decode cX7_bid 28 = .ok (.invokestatic 70, 3) := by decide +kernel
theorem dX7_bid_31 : decode cX7_bid 31 = .ok (.ifCond .ne 5, 3) := by decide +kernel
theorem dX7_bid_34 : decode cX7_bid 34 = .ok (.iconst (-1), 1) := by decide +kernel
theorem dX7_bid_35 : decode cX7_bid 35 = .ok (.ireturn, 1) := by decide +kernel
theorem dX7_bid_36 : decode cX7_bid 36 = .ok (.iload_n 1, 1) := by decide +kernel
theorem dX7_bid_37 : decode cX7_bid 37 = .ok (.aload_n 0, 1) := by decide +kernel
theorem dX7_bid_38 : decode cX7_bid 38 = .ok (.getfield 31, 3) := by decide +kernel
theorem dX7_bid_41 : decode cX7_bid 41 = .ok (.getfield 106, 3) := by decide +kernel
theorem dX7_bid_44 : decode cX7_bid 44 = .ok (.invokestatic 109, 3) := by decide +kernel
theorem dX7_bid_47 : decode cX7_bid 47 = .ok (.ifCond .eq 10, 3) := by decide +kernel
theorem dX7_bid_50 : decode cX7_bid 50 = .ok (.iload_n 2, 1) := by decide +kernel
theorem dX7_bid_51 : decode cX7_bid 51 = .ok (.invokestatic 115, 3) := by decide +kernel
theorem dX7_bid_54 : decode cX7_bid 54 = .ok (.ifCond .ne 5, 3) := by decide +kernel
theorem dX7_bid_57 : decode cX7_bid 57 = .ok (.iconst (-1), 1) := by decide +kernel
theorem dX7_bid_58 : decode cX7_bid 58 = .ok (.ireturn, 1) := by decide +kernel
theorem dX7_bid_59 : decode cX7_bid 59 = .ok (.new 110, 3) := by decide +kernel
theorem dX7_bid_62 : decode cX7_bid 62 = .ok (.dup, 1) := by decide +kernel
theorem dX7_bid_63 : decode cX7_bid 63 = .ok (.aload_n 0, 1) := by decide +kernel
theorem dX7_bid_64 : decode cX7_bid 64 = .ok (.getfield 35, 3) := by decide +kernel
theorem dX7_bid_67 : decode cX7_bid 67 = .ok (.invokevirtual 103, 3) := by decide +kernel
theorem dX7_bid_70 : decode cX7_bid 70 = .ok (.iload_n 1, 1) := by decide +kernel
theorem dX7_bid_71 : decode cX7_bid 71 = .ok (.iload_n 2, 1) := by decide +kernel
theorem dX7_bid_72 : decode cX7_bid 72 = .ok (.iload_n 3, 1) := by decide +kernel
theorem dX7_bid_73 : decode cX7_bid 73 = .ok (.iload 4, 2) := by decide +kernel
theorem dX7_bid_75 : decode cX7_bid 75 = .ok (.invokespecial 118, 3) := by decide +kernel
theorem dX7_bid_78 : decode cX7_bid 78 = .ok (.astore 5, 2) := by decide +kernel
theorem dX7_bid_80 : decode cX7_bid 80 = .ok (.aload_n 0, 1) := by decide +kernel
theorem dX7_bid_81 : decode cX7_bid 81 = .ok (.getfield 35, 3) := by decide +kernel
theorem dX7_bid_84 : decode cX7_bid 84 = .ok (.aload 5, 2) := by decide +kernel
theorem dX7_bid_86 : decode cX7_bid 86 = .ok (.invokevirtual 121, 3) := by decide +kernel
theorem dX7_bid_89 : decode cX7_bid 89 = .ok (.aload_n 0, 1) := by decide +kernel
theorem dX7_bid_90 : decode cX7_bid 90 = .ok (.getfield 62, 3) := by decide +kernel
theorem dX7_bid_93 : decode cX7_bid 93 = .ok (.invokevirtual 82, 3) := by decide +kernel
theorem dX7_bid_96 : decode cX7_bid 96 = .ok (.aload 5, 2) := by decide +kernel
theorem dX7_bid_98 : decode cX7_bid 98 = .ok (.getfield 125, 3) := by decide +kernel
theorem dX7_bid_101 : decode cX7_bid 101 = .ok (.ireturn, 1) := by decide +kernel
theorem dX7_link_0 : decode cX7_link 0 = .ok (.aload_n 0, 1) := by decide +kernel
theorem dX7_link_1 : decode cX7_link 1 = .ok (.getfield 35, 3) := by decide +kernel
theorem dX7_link_4 : decode cX7_link 4 = .ok (.iload_n 1, 1) := by decide +kernel
theorem dX7_link_5 : decode cX7_link 5 = .ok (.invokevirtual 128, 3) := by decide +kernel
theorem dX7_link_8 : decode cX7_link 8 = .ok (.astore_n 3, 1) := by decide +kernel
theorem dX7_link_9 : decode cX7_link 9 = .ok (.aload_n 0, 1) := by decide +kernel
theorem dX7_link_10 : decode cX7_link 10 = .ok (.getfield 35, 3) := by decide +kernel
theorem dX7_link_13 : decode cX7_link 13 = .ok (.iload_n 2, 1) := by decide +kernel
theorem dX7_link_14 : decode cX7_link 14 = .ok (.invokevirtual 128, 3) := by decide +kernel
theorem dX7_link_17 : decode cX7_link 17 = .ok (.astore 4, 2) := by decide +kernel
theorem dX7_link_19 : decode cX7_link 19 = .ok (.aload_n 3, 1) := by decide +kernel
theorem dX7_link_20 : decode cX7_link 20 = .ok (.ifnull 30, 3) := by decide +kernel
theorem dX7_link_23 : decode cX7_link 23 = .ok (.aload 4, 2) := by decide +kernel
theorem dX7_link_25 : decode cX7_link 25 = .ok (.ifnull 25, 3) := by decide +kernel
theorem dX7_link_28 : decode cX7_link 28 = .ok (.iload_n 1, 1) := by decide +kernel
theorem dX7_link_29 : decode cX7_link 29 = .ok (.iload_n 2, 1) := by decide +kernel
theorem dX7_link_30 : decode cX7_link 30 = .ok (.if_icmp .eq 20, 3) := by decide +kernel
theorem dX7_link_33 : decode cX7_link 33 = .ok (.aload_n 3, 1) := by decide +kernel
theorem dX7_link_34 : decode cX7_link 34 = .ok (.getfield 132, 3) := by decide +kernel
theorem dX7_link_37 : decode cX7_link 37 = .ok (.iconst (-1), 1) := by decide +kernel
theorem dX7_link_38 : decode cX7_link 38 = .ok (.if_icmp .ne 12, 3) := by decide +kernel
theorem dX7_link_41 : decode cX7_link 41 = .ok (.aload 4, 2) := by decide +kernel
theorem dX7_link_43 : decode cX7_link 43 = .ok (.getfield 132, 3) := by decide +kernel
theorem dX7_link_46 : decode cX7_link 46 = .ok (.iconst (-1), 1) := by decide +kernel
theorem dX7_link_47 : decode cX7_link 47 = .ok (.if_icmp .eq 5, 3) := by decide +kernel
theorem dX7_link_50 : decode cX7_link 50 = .ok (.iconst 0, 1) := by decide +kernel
theorem dX7_link_51 : decode cX7_link 51 = .ok (.ireturn, 1) := by decide +kernel
theorem dX7_link_52 : decode cX7_link 52 = .ok (.aload_n 3, 1) := by decide +kernel
theorem dX7_link_53 : decode cX7_link 53 = .ok (.iload_n 2, 1) := by decide +kernel
theorem dX7_link_54 : decode cX7_link 54 = .ok (.putfield 132, 3) := by decide +kernel
theorem dX7_link_57 : decode cX7_link 57 = .ok (.aload 4, 2) := by decide +kernel
theorem dX7_link_59 : decode cX7_link 59 = .ok (.iload_n 1, 1) := by decide +kernel
theorem dX7_link_60 : decode cX7_link 60 = .ok (.putfield 132, 3) := by decide +kernel
theorem dX7_link_63 : decode cX7_link 63 = .ok (.iconst 1, 1) := by decide +kernel
theorem dX7_link_64 : decode cX7_link 64 = .ok (.ireturn, 1) := by decide +kernel
theorem dX7_find_0 : decode cX7_find 0 = .ok (.aload_n 0, 1) := by decide +kernel
theorem dX7_find_1 : decode cX7_find 1 = .ok (.getfield 35, 3) := by decide +kernel
theorem dX7_find_4 : decode cX7_find 4 = .ok (.iload_n 1, 1) := by decide +kernel
theorem dX7_find_5 : decode cX7_find 5 = .ok (.invokevirtual 128, 3) := by decide +kernel
