theorem dX0_init_0 : decode cX0_init 0 = .ok (.aload_n 0, 1) := by decide +kernel
theorem dX0_init_1 : decode cX0_init 1 = .ok (.invokespecial 3, 3) := by decide +kernel
theorem dX0_init_4 : decode cX0_init 4 = .ok (.aload_n 0, 1) := by decide +kernel
theorem dX0_init_5 : decode cX0_init 5 = .ok (.iconst (-1), 1) := by decide +kernel
theorem dX0_init_6 : decode cX0_init 6 = .ok (.putfield 9, 3) := by decide +kernel
theorem dX0_init_9 : decode cX0_init 9 = .ok (.aload_n 0, 1) := by decide +kernel
theorem dX0_init_10 : decode cX0_init 10 = .ok (.bipush 8, 2) := by decide +kernel
theorem dX0_init_12 : decode cX0_init 12 = .ok (.newarray .int, 2) := by decide +kernel
theorem dX0_init_14 : decode cX0_init 14 = .ok (.putfield 15, 3) := by decide +kernel
theorem dX0_init_17 : decode cX0_init 17 = .ok (.aload_n 0, 1) := by decide +kernel
theorem dX0_init_18 : decode cX0_init 18 = .ok (.bipush 8, 2) := by decide +kernel
theorem dX0_init_20 : decode cX0_init 20 = .ok (.newarray .int, 2) := by decide +kernel
theorem dX0_init_22 : decode cX0_init 22 = .ok (.putfield 19, 3) := by decide +kernel
theorem dX0_init_25 : decode cX0_init 25 = .ok (.aload_n 0, 1) := by decide +kernel
theorem dX0_init_26 : decode cX0_init 26 = .ok (.bipush 8, 2) := by decide +kernel
theorem dX0_init_28 : decode cX0_init 28 = .ok (.newarray .int, 2) := by decide +kernel
theorem dX0_init_30 : decode cX0_init 30 = .ok (.putfield 22, 3) := by decide +kernel
theorem dX0_init_33 : decode cX0_init 33 = .ok (.aload_n 0, 1) := by decide +kernel
theorem dX0_init_34 : decode cX0_init 34 = .ok (.iload_n 1, 1) := by decide +kernel
theorem dX0_init_35 : decode cX0_init 35 = .ok (.putfield 25, 3) := by decide +kernel
theorem dX0_init_38 : decode cX0_init 38 = .ok (.aload_n 0, 1) := by decide +kernel
theorem dX0_init_39 : decode cX0_init 39 = .ok (.iload_n 2, 1) := by decide +kernel
theorem dX0_init_40 : decode cX0_init 40 = .ok (.sipush 10000, 3) := by decide +kernel
theorem dX0_init_43 : decode cX0_init 43 = .ok (.idiv, 1) := by decide +kernel
theorem dX0_init_44 : decode cX0_init 44 = .ok (.putfield 28, 3) := by decide +kernel
theorem dX0_init_47 : decode cX0_init 47 = .ok (.aload_n 0, 1) := by decide +kernel
theorem dX0_init_48 : decode cX0_init 48 = .ok (.iload_n 2, 1) := by decide +kernel
theorem dX0_init_49 : decode cX0_init 49 = .ok (.sipush 1000, 3) := by decide +kernel
theorem dX0_init_52 : decode cX0_init 52 = .ok (.idiv, 1) := by decide +kernel
theorem dX0_init_53 : decode cX0_init 53 = .ok (.bipush 10, 2) := by decide +kernel
theorem dX0_init_55 : decode cX0_init 55 = .ok (.irem, 1) := by decide +kernel
theorem dX0_init_56 : decode cX0_init 56 = .ok (.putfield 31, 3) := by decide +kernel
theorem dX0_init_59 : decode cX0_init 59 = .ok (.aload_n 0, 1) := by decide +kernel
theorem dX0_init_60 : decode cX0_init 60 = .ok (.iload_n 2, 1) := by decide +kernel
theorem dX0_init_61 : decode cX0_init 61 = .ok (.bipush 100, 2) := by decide +kernel
theorem dX0_init_63 : decode cX0_init 63 = .ok (.idiv, 1) := by decide +kernel
theorem dX0_init_64 : decode cX0_init 64 = .ok (.bipush 10, 2) := by decide +kernel
theorem dX0_init_66 : decode cX0_init 66 = .ok (.irem, 1) := by decide +kernel
theorem dX0_init_67 : decode cX0_init 67 = .ok (.putfield 34, 3) := by decide +kernel
theorem dX0_init_70 : decode cX0_init 70 = .ok (.aload_n 0, 1) := by decide +kernel
theorem dX0_init_71 : decode cX0_init 71 = .ok (.iload_n 2, 1) := by decide +kernel
theorem dX0_init_72 : decode cX0_init 72 = .ok (.bipush 10, 2) := by decide +kernel
theorem dX0_init_74 : decode cX0_init 74 = .ok (.idiv, 1) := by decide +kernel
theorem dX0_init_75 : decode cX0_init 75 = .ok (.bipush 10, 2) := by decide +kernel
theorem dX0_init_77 : decode cX0_init 77 = .ok (.irem, 1) := by decide +kernel
theorem dX0_init_78 : decode cX0_init 78 = .ok (.putfield 37, 3) := by decide +kernel
theorem dX0_init_81 : decode cX0_init 81 = .ok (.aload_n 0, 1) := by decide +kernel
theorem dX0_init_82 : decode cX0_init 82 = .ok (.iload_n 3, 1) := by decide +kernel
theorem dX0_init_83 : decode cX0_init 83 = .ok (.sipush 1000, 3) := by decide +kernel
theorem dX0_init_86 : decode cX0_init 86 = .ok (.idiv, 1) := by decide +kernel
theorem dX0_init_87 : decode cX0_init 87 = .ok (.putfield 40, 3) := by decide +kernel
theorem dX0_init_90 : decode cX0_init 90 = .ok (.aload_n 0, 1) := by decide +kernel
theorem dX0_init_91 : decode cX0_init 91 = .ok (.iload_n 3, 1) := by decide +kernel
theorem dX0_init_92 : decode cX0_init 92 = .ok (.sipush 1000, 3) := by decide +kernel
theorem dX0_init_95 : decode cX0_init 95 = .ok (.irem, 1) := by decide +kernel
theorem dX0_init_96 : decode cX0_init 96 = .ok (.putfield 43, 3) := by decide +kernel
theorem dX0_init_99 : decode cX0_init 99 = .ok (.aload_n 0, 1) := by decide +kernel
theorem dX0_init_100 : decode cX0_init 100 = .ok (.iload 4, 2) := by decide +kernel
theorem dX0_init_102 : decode cX0_init 102 = .ok (.putfield 46, 3) := by decide +kernel
theorem dX0_init_105 : decode cX0_init 105 = .ok (.aload_n 0, 1) := by decide +kernel
theorem dX0_init_106 : decode cX0_init 106 = .ok (.iload 5, 2) := by decide +kernel
theorem dX0_init_108 : decode cX0_init 108 = .ok (.putfield 49, 3) := by decide +kernel
theorem dX0_init_111 : decode cX0_init 111 = .ok (.return_, 1) := by decide +kernel
theorem dX0_isWhat_0 : decode cX0_isWhat 0 = .ok (.iload_n 0, 1) := by decide +kernel
theorem dX0_isWhat_1 : decode cX0_isWhat 1 = .ok (.ifCond .lt 31, 3) := by decide +kernel
theorem dX0_isWhat_4 : decode cX0_isWhat 4 = .ok (.iload_n 0, 1) := by decide +kernel
theorem dX0_isWhat_5 : decode cX0_isWhat 5 = .ok (.sipush 10000, 3) := by decide +kernel
theorem dX0_isWhat_8 : decode cX0_isWhat 8 = .ok (.idiv, 1) := by decide +kernel
theorem dX0_isWhat_9 : decode cX0_isWhat 9 = .ok (.bipush 6, 2) := by decide +kernel
theorem dX0_isWhat_11 : decode cX0_isWhat 11 = .ok (.if_icmp .ge 21, 3) := by decide +kernel
theorem dX0_isWhat_14 : decode cX0_isWhat 14 = .ok (.iload_n 0, 1) := by decide +kernel
theorem dX0_isWhat_15 : decode cX0_isWhat 15 = .ok (.bipush 10, 2) := by decide +kernel
theorem dX0_isWhat_17 : decode cX0_isWhat 17 = .ok (.idiv, 1) := by decide +kernel
theorem dX0_isWhat_18 : decode cX0_isWhat 18 = .ok (.bipush 10, 2) := by decide +kernel
theorem dX0_isWhat_20 : decode cX0_isWhat 20 = .ok (.irem, 1) := by decide +kernel
theorem dX0_isWhat_21 : decode cX0_isWhat 21 = .ok (.iconst 2, 1) := by decide +kernel
theorem dX0_isWhat_22 : decode cX0_isWhat 22 = .ok (.if_icmp .ge 10, 3) := by decide +kernel
theorem dX0_isWhat_25 : decode cX0_isWhat 25 = .ok (.iload_n 0, 1) := by decide +kernel
theorem dX0_isWhat_26 : decode cX0_isWhat 26 = .ok (.bipush 10, 2) := by decide +kernel
theorem dX0_isWhat_28 : decode cX0_isWhat 28 = .ok (.irem, 1) := by decide +kernel
theorem dX0_isWhat_29 : decode cX0_isWhat 29 = .ok (.ifCond .eq 5, 3) := by decide +kernel
theorem dX0_isWhat_32 : decode cX0_isWhat 32 = .ok (.iconst 0, 1) := by decide +kernel
theorem dX0_isWhat_33 : decode cX0_isWhat 33 = .ok (.ireturn, 1) := by decide +kernel
theorem dX0_isWhat_34 : decode cX0_isWhat 34 = .ok (.iload_n 0, 1) := by decide +kernel
theorem dX0_isWhat_35 : decode cX0_isWhat 35 = .ok (.sipush 1000, 3) := by decide +kernel
theorem dX0_isWhat_38 : decode cX0_isWhat 38 = .ok (.idiv, 1) := by decide +kernel
theorem dX0_isWhat_39 : decode cX0_isWhat 39 = .ok (.bipush 10, 2) := by decide +kernel
theorem dX0_isWhat_41 : decode cX0_isWhat 41 = .ok (.irem, 1) := by decide +kernel
theorem dX0_isWhat_42 : decode cX0_isWhat 42 = .ok (.istore_n 2, 1) := by decide +kernel
theorem dX0_isWhat_43 : decode cX0_isWhat 43 = .ok (.iload_n 0, 1) := by decide +kernel
theorem dX0_isWhat_44 : decode cX0_isWhat 44 = .ok (.bipush 100, 2) := by decide +kernel
theorem dX0_isWhat_46 : decode cX0_isWhat 46 = .ok (.idiv, 1) := by decide +kernel
theorem dX0_isWhat_47 : decode cX0_isWhat 47 = .ok (.bipush 10, 2) := by decide +kernel
theorem dX0_isWhat_49 : decode cX0_isWhat 49 = .ok (.irem, 1) := by decide +kernel
theorem dX0_isWhat_50 : decode cX0_isWhat 50 = .ok (.istore_n 3, 1) := by decide +kernel
theorem dX0_isWhat_51 : decode cX0_isWhat 51 = .ok (.iload_n 2, 1) := by decide +kernel
theorem dX0_isWhat_52 : decode cX0_isWhat 52 = .ok (.iload_n 1, 1) := by decide +kernel
theorem dX0_isWhat_53 : decode cX0_isWhat 53 = .ok (.if_icmp .ge 17, 3) := by decide +kernel
theorem dX0_isWhat_56 : decode cX0_isWhat 56 = .ok (.iload_n 3, 1) := by decide +kernel
theorem dX0_isWhat_57 : decode cX0_isWhat 57 = .ok (.iload_n 1, 1) := by decide +kernel
theorem dX0_isWhat_58 : decode cX0_isWhat 58 = .ok (.if_icmp .ge 12, 3) := by decide +kernel
theorem dX0_isWhat_61 : decode cX0_isWhat 61 = .ok (.iload_n 2, 1) := by decide +kernel
theorem dX0_isWhat_62 : decode cX0_isWhat 62 = .ok (.iload_n 3, 1) := by decide +kernel
theorem dX0_isWhat_63 : decode cX0_isWhat 63 = .ok (.if_icmp .eq 7, 3) := by decide +kernel
theorem dX0_isWhat_66 : decode cX0_isWhat 66 = .ok (.iconst 1, 1) := by decide +kernel
theorem dX0_isWhat_67 : decode cX0_isWhat 67 = .ok (.goto 4, 3) := by decide +kernel
theorem dX0_isWhat_70 : decode cX0_isWhat 70 = .ok (.iconst 0, 1) := by decide +kernel
theorem dX0_isWhat_71 : decode cX0_isWhat 71 = .ok (.ireturn, 1) := by decide +kernel
theorem dX0_isWhen_0 : decode cX0_isWhen 0 = .ok (.iload_n 0, 1) := by decide +kernel
theorem dX0_isWhen_1 : decode cX0_isWhen 1 = .ok (.ifCond .lt 29, 3) := by decide +kernel
theorem dX0_isWhen_4 : decode cX0_isWhen 4 = .ok (.iload_n 0, 1) := by decide +kernel
theorem dX0_isWhen_5 : decode cX0_isWhen 5 = .ok (.sipush 1000, 3) := by decide +kernel
theorem dX0_isWhen_8 : decode cX0_isWhen 8 = .ok (.idiv, 1) := by decide +kernel
theorem dX0_isWhen_9 : decode cX0_isWhen 9 = .ok (.sipush 240, 3) := by decide +kernel
theorem dX0_isWhen_12 : decode cX0_isWhen 12 = .ok (.if_icmp .ge 18, 3) := by decide +kernel
theorem dX0_isWhen_15 : decode cX0_isWhen 15 = .ok (.iload_n 0, 1) := by decide +kernel
theorem dX0_isWhen_16 : decode cX0_isWhen 16 = .ok (.sipush 1000, 3) := by decide +kernel
theorem dX0_isWhen_19 : decode cX0_isWhen 19 = .ok (.irem, 1) := by decide +kernel
theorem dX0_isWhen_20 : decode cX0_isWhen 20 = .ok (.sipush 240, 3) := by decide +kernel
theorem dX0_isWhen_23 : decode cX0_isWhen 23 = .ok (.if_icmp .ge 7, 3) := by decide +kernel
theorem dX0_isWhen_26 : decode cX0_isWhen 26 = .ok (.iconst 1, 1) := by decide +kernel
theorem dX0_isWhen_27 : decode cX0_isWhen 27 = .ok (.goto 4, 3) := by decide +kernel
theorem dX0_isWhen_30 : decode cX0_isWhen 30 = .ok (.iconst 0, 1) := by decide +kernel
theorem dX0_isWhen_31 : decode cX0_isWhen 31 = .ok (.ireturn, 1) := by decide +kernel
theorem dX0_takePath_0 : decode cX0_takePath 0 = .ok (.iconst 0, 1) := by decide +kernel
theorem dX0_takePath_1 : decode cX0_takePath 1 = .ok (.istore_n 3, 1) := by decide +kernel
theorem dX0_takePath_2 : decode cX0_takePath 2 = .ok (.iload_n 3, 1) := by decide +kernel
theorem dX0_takePath_3 : decode cX0_takePath 3 = .ok (.bipush 8, 2) := by decide +kernel
theorem dX0_takePath_5 : decode cX0_takePath 5 = .ok (.if_icmp .ge 27, 3) := by decide +kernel
theorem dX0_takePath_8 : decode cX0_takePath 8 = .ok (.aload_n 0, 1) := by decide +kernel
theorem dX0_takePath_9 : decode cX0_takePath 9 = .ok (.getfield 15, 3) := by decide +kernel
theorem dX0_takePath_12 : decode cX0_takePath 12 = .ok (.iload_n 3, 1) := by decide +kernel
theorem dX0_takePath_13 : decode cX0_takePath 13 = .ok (.aload_n 1, 1) := by decide +kernel
theorem dX0_takePath_14 : decode cX0_takePath 14 = .ok (.iload_n 3, 1) := by decide +kernel
theorem dX0_takePath_15 : decode cX0_takePath 15 = .ok (.iaload, 1) := by decide +kernel
theorem dX0_takePath_16 : decode cX0_takePath 16 = .ok (.iastore, 1) := by decide +kernel
theorem dX0_takePath_17 : decode cX0_takePath 17 = .ok (.aload_n 0, 1) := by decide +kernel
theorem dX0_takePath_18 : decode cX0_takePath 18 = .ok (.getfield 19, 3) := by decide +kernel
theorem dX0_takePath_21 : decode cX0_takePath 21 = .ok (.iload_n 3, 1) := by decide +kernel
theorem dX0_takePath_22 : decode cX0_takePath 22 = .ok (.aload_n 2, 1) := by decide +kernel
theorem dX0_takePath_23 : decode cX0_takePath 23 = .ok (.iload_n 3, 1) := by decide +kernel
theorem dX0_takePath_24 : decode cX0_takePath 24 = .ok (.iaload, 1) := by decide +kernel
theorem dX0_takePath_25 : decode cX0_takePath 25 = .ok (.iastore, 1) := by decide +kernel
theorem dX0_takePath_26 : decode cX0_takePath 26 = .ok (.iinc 3 1, 3) := by decide +kernel
theorem dX0_takePath_29 : decode cX0_takePath 29 = .ok (.goto (-27), 3) := by decide +kernel
theorem dX0_takePath_32 : decode cX0_takePath 32 = .ok (.aload_n 0, 1) := by decide +kernel
theorem dX0_takePath_33 : decode cX0_takePath 33 = .ok (.iconst 1, 1) := by decide +kernel
theorem dX0_takePath_34 : decode cX0_takePath 34 = .ok (.putfield 52, 3) := by decide +kernel
theorem dX0_takePath_37 : decode cX0_takePath 37 = .ok (.return_, 1) := by decide +kernel
theorem dX0_steps_0 : decode cX0_steps 0 = .ok (.aload_n 0, 1) := by decide +kernel
theorem dX0_steps_1 : decode cX0_steps 1 = .ok (.getfield 34, 3) := by decide +kernel
theorem dX0_steps_4 : decode cX0_steps 4 = .ok (.aload_n 0, 1) := by decide +kernel
theorem dX0_steps_5 : decode cX0_steps 5 = .ok (.getfield 31, 3) := by decide +kernel
theorem dX0_steps_8 : decode cX0_steps 8 = .ok (.if_icmp .le 15, 3) := by decide +kernel
theorem dX0_steps_11 : decode cX0_steps 11 = .ok (.aload_n 0, 1) := by decide +kernel
theorem dX0_steps_12 : decode cX0_steps 12 = .ok (.getfield 34, 3) := by decide +kernel
theorem dX0_steps_15 : decode cX0_steps 15 = .ok (.aload_n 0, 1) := by decide +kernel
theorem dX0_steps_16 : decode cX0_steps 16 = .ok (.getfield 31, 3) := by decide +kernel
theorem dX0_steps_19 : decode cX0_steps 19 = .ok (.isub, 1) := by decide +kernel
theorem dX0_steps_20 : decode cX0_steps 20 = .ok (.goto 12, 3) := by decide +kernel
theorem dX0_steps_23 : decode cX0_steps 23 = .ok (.aload_n 0, 1) := by decide +kernel
theorem dX0_steps_24 : decode cX0_steps 24 = .ok (.getfield 31, 3) := by decide +kernel
theorem dX0_steps_27 : decode cX0_steps 27 = .ok (.aload_n 0, 1) := by decide +kernel
theorem dX0_steps_28 : decode cX0_steps 28 = .ok (.getfield 34, 3) := by decide +kernel
theorem dX0_steps_31 : decode cX0_steps 31 = .ok (.isub, 1) := by decide +kernel
theorem dX0_steps_32 : decode cX0_steps 32 = .ok (.ireturn, 1) := by decide +kernel
theorem dX0_way_0 : decode cX0_way 0 = .ok (.aload_n 0, 1) := by decide +kernel
theorem dX0_way_1 : decode cX0_way 1 = .ok (.getfield 34, 3) := by decide +kernel
theorem dX0_way_4 : decode cX0_way 4 = .ok (.aload_n 0, 1) := by decide +kernel
theorem dX0_way_5 : decode cX0_way 5 = .ok (.getfield 31, 3) := by decide +kernel
theorem dX0_way_8 : decode cX0_way 8 = .ok (.if_icmp .le 7, 3) := by decide +kernel
theorem dX0_way_11 : decode cX0_way 11 = .ok (.iconst 1, 1) := by decide +kernel
theorem dX0_way_12 : decode cX0_way 12 = .ok (.goto 4, 3) := by decide +kernel
theorem dX0_way_15 : decode cX0_way 15 = .ok (.iconst (-1), 1) := by decide +kernel
theorem dX0_way_16 : decode cX0_way 16 = .ok (.ireturn, 1) := by decide +kernel
theorem dX0_stationAt_0 : decode cX0_stationAt 0 = .ok (.aload_n 0, 1) := by decide +kernel
theorem dX0_stationAt_1 : decode cX0_stationAt 1 = .ok (.getfield 31, 3) := by decide +kernel
theorem dX0_stationAt_4 : decode cX0_stationAt 4 = .ok (.aload_n 0, 1) := by decide +kernel
theorem dX0_stationAt_5 : decode cX0_stationAt 5 = .ok (.invokevirtual 56, 3) := by decide +kernel
theorem dX0_stationAt_8 : decode cX0_stationAt 8 = .ok (.iload_n 1, 1) := by decide +kernel
theorem dX0_stationAt_9 : decode cX0_stationAt 9 = .ok (.imul, 1) := by decide +kernel
theorem dX0_stationAt_10 : decode cX0_stationAt 10 = .ok (.iadd, 1) := by decide +kernel
theorem dX0_stationAt_11 : decode cX0_stationAt 11 = .ok (.ireturn, 1) := by decide +kernel
theorem dX0_sectionAt_0 : decode cX0_sectionAt 0 = .ok (.aload_n 0, 1) := by decide +kernel
theorem dX0_sectionAt_1 : decode cX0_sectionAt 1 = .ok (.getfield 34, 3) := by decide +kernel
theorem dX0_sectionAt_4 : decode cX0_sectionAt 4 = .ok (.aload_n 0, 1) := by decide +kernel
theorem dX0_sectionAt_5 : decode cX0_sectionAt 5 = .ok (.getfield 31, 3) := by decide +kernel
theorem dX0_sectionAt_8 : decode cX0_sectionAt 8 = .ok (.if_icmp .le 12, 3) := by decide +kernel
theorem dX0_sectionAt_11 : decode cX0_sectionAt 11 = .ok (.aload_n 0, 1) := by decide +kernel
theorem dX0_sectionAt_12 : decode cX0_sectionAt 12 = .ok (.getfield 31, 3) := by decide +kernel
theorem dX0_sectionAt_15 : decode cX0_sectionAt 15 = .ok (.iload_n 1, 1) := by decide +kernel
theorem dX0_sectionAt_16 : decode cX0_sectionAt 16 = .ok (.iadd, 1) := by decide +kernel
theorem dX0_sectionAt_17 : decode cX0_sectionAt 17 = .ok (.goto 11, 3) := by decide +kernel
theorem dX0_sectionAt_20 : decode cX0_sectionAt 20 = .ok (.aload_n 0, 1) := by decide +kernel
theorem dX0_sectionAt_21 : decode cX0_sectionAt 21 = .ok (.getfield 31, 3) := by decide +kernel
theorem dX0_sectionAt_24 : decode cX0_sectionAt 24 = .ok (.iload_n 1, 1) := by decide +kernel
theorem dX0_sectionAt_25 : decode cX0_sectionAt 25 = .ok (.isub, 1) := by decide +kernel
theorem dX0_sectionAt_26 : decode cX0_sectionAt 26 = .ok (.iconst 1, 1) := by decide +kernel
theorem dX0_sectionAt_27 : decode cX0_sectionAt 27 = .ok (.isub, 1) := by decide +kernel
theorem dX0_sectionAt_28 : decode cX0_sectionAt 28 = .ok (.ireturn, 1) := by decide +kernel
theorem dX0_stepAtStation_0 : decode cX0_stepAtStation 0 = .ok (.aload_n 0, 1) := by decide +kernel
theorem dX0_stepAtStation_1 : decode cX0_stepAtStation 1 = .ok (.getfield 34, 3) := by decide +kernel
theorem dX0_stepAtStation_4 : decode cX0_stepAtStation 4 = .ok (.aload_n 0, 1) := by decide +kernel
theorem dX0_stepAtStation_5 : decode cX0_stepAtStation 5 = .ok (.getfield 31, 3) := by decide +kernel
theorem dX0_stepAtStation_8 : decode cX0_stepAtStation 8 = .ok (.if_icmp .le 30, 3) := by decide +kernel
theorem dX0_stepAtStation_11 : decode cX0_stepAtStation 11 = .ok (.iload_n 1, 1) := by decide +kernel
theorem dX0_stepAtStation_12 : decode cX0_stepAtStation 12 = .ok (.aload_n 0, 1) := by decide +kernel
theorem dX0_stepAtStation_13 : decode cX0_stepAtStation 13 = .ok (.getfield 31, 3) := by decide +kernel
theorem dX0_stepAtStation_16 : decode cX0_stepAtStation 16 = .ok (.if_icmp .lt 20, 3) := by decide +kernel
theorem dX0_stepAtStation_19 : decode cX0_stepAtStation 19 = .ok (.iload_n 1, 1) := by decide +kernel
theorem dX0_stepAtStation_20 : decode cX0_stepAtStation 20 = .ok (.aload_n 0, 1) := by decide +kernel
theorem dX0_stepAtStation_21 : decode cX0_stepAtStation 21 = .ok (.getfield 34, 3) := by decide +kernel
theorem dX0_stepAtStation_24 : decode cX0_stepAtStation 24 = .ok (.if_icmp .gt 12, 3) := by decide +kernel
theorem dX0_stepAtStation_27 : decode cX0_stepAtStation 27 = .ok (.iload_n 1, 1) := by decide +kernel
theorem dX0_stepAtStation_28 : decode cX0_stepAtStation 28 = .ok (.aload_n 0, 1) := by decide +kernel
theorem dX0_stepAtStation_29 : decode cX0_stepAtStation 29 = .ok (.getfield 31, 3) := by decide +kernel
theorem dX0_stepAtStation_32 : decode cX0_stepAtStation 32 = .ok (.isub, 1) := by decide +kernel
theorem dX0_stepAtStation_33 : decode cX0_stepAtStation 33 = .ok (.goto 4, 3) := by decide +kernel
theorem dX0_stepAtStation_36 : decode cX0_stepAtStation 36 = .ok (.iconst (-1), 1) := by decide +kernel
theorem dX0_stepAtStation_37 : decode cX0_stepAtStation 37 = .ok (.ireturn, 1) := by decide +kernel
theorem dX0_stepAtStation_38 : decode cX0_stepAtStation 38 = .ok (.iload_n 1, 1) := by decide +kernel
theorem dX0_stepAtStation_39 : decode cX0_stepAtStation 39 = .ok (.aload_n 0, 1) := by decide +kernel
theorem dX0_stepAtStation_40 : decode cX0_stepAtStation 40 = .ok (.getfield 34, 3) := by decide +kernel
theorem dX0_stepAtStation_43 : decode cX0_stepAtStation 43 = .ok (.if_icmp .lt 20, 3) := by decide +kernel
theorem dX0_stepAtStation_46 : decode cX0_stepAtStation 46 = .ok (.iload_n 1, 1) := by decide +kernel
theorem dX0_stepAtStation_47 : decode cX0_stepAtStation 47 = .ok (.aload_n 0, 1) := by decide +kernel
theorem dX0_stepAtStation_48 : decode cX0_stepAtStation 48 = .ok (.getfield 31, 3) := by decide +kernel
theorem dX0_stepAtStation_51 : decode cX0_stepAtStation 51 = .ok (.if_icmp .gt 12, 3) := by decide +kernel
theorem dX0_stepAtStation_54 : decode cX0_stepAtStation 54 = .ok (.aload_n 0, 1) := by decide +kernel
theorem dX0_stepAtStation_55 : decode cX0_stepAtStation 55 = .ok (.getfield 31, 3) := by decide +kernel
theorem dX0_stepAtStation_58 : decode cX0_stepAtStation 58 = .ok (.iload_n 1, 1) := by decide +kernel
theorem dX0_stepAtStation_59 : decode cX0_stepAtStation 59 = .ok (.isub, 1) := by decide +kernel
theorem dX0_stepAtStation_60 : decode cX0_stepAtStation 60 = .ok (.goto 4, 3) := by decide +kernel
theorem dX0_stepAtStation_63 : decode cX0_stepAtStation 63 = .ok (.iconst (-1), 1) := by decide +kernel
theorem dX0_stepAtStation_64 : decode cX0_stepAtStation 64 = .ok (.ireturn, 1) := by decide +kernel
theorem dX0_stepInSection_0 : decode cX0_stepInSection 0 = .ok (.aload_n 0, 1) := by decide +kernel
theorem dX0_stepInSection_1 : decode cX0_stepInSection 1 = .ok (.getfield 34, 3) := by decide +kernel
theorem dX0_stepInSection_4 : decode cX0_stepInSection 4 = .ok (.aload_n 0, 1) := by decide +kernel
theorem dX0_stepInSection_5 : decode cX0_stepInSection 5 = .ok (.getfield 31, 3) := by decide +kernel
theorem dX0_stepInSection_8 : decode cX0_stepInSection 8 = .ok (.if_icmp .le 30, 3) := by decide +kernel
theorem dX0_stepInSection_11 : decode cX0_stepInSection 11 = .ok (.iload_n 1, 1) := by decide +kernel
theorem dX0_stepInSection_12 : decode cX0_stepInSection 12 = .ok (.aload_n 0, 1) := by decide +kernel
theorem dX0_stepInSection_13 : decode cX0_stepInSection 13 = .ok (.getfield 31, 3) := by decide +kernel
theorem dX0_stepInSection_16 : decode cX0_stepInSection 16 = .ok (.if_icmp .lt 20, 3) := by decide +kernel
theorem dX0_stepInSection_19 : decode cX0_stepInSection 19 = .ok (.iload_n 1, 1) := by decide +kernel
theorem dX0_stepInSection_20 : decode cX0_stepInSection 20 = .ok (.aload_n 0, 1) := by decide +kernel
theorem dX0_stepInSection_21 : decode cX0_stepInSection 21 = .ok (.getfield 34, 3) := by decide +kernel
theorem dX0_stepInSection_24 : decode cX0_stepInSection 24 = .ok (.if_icmp .ge 12, 3) := by decide +kernel
theorem dX0_stepInSection_27 : decode cX0_stepInSection 27 = .ok (.iload_n 1, 1) := by decide +kernel
theorem dX0_stepInSection_28 : decode cX0_stepInSection 28 = .ok (.aload_n 0, 1) := by decide +kernel
theorem dX0_stepInSection_29 : decode cX0_stepInSection 29 = .ok (.getfield 31, 3) := by decide +kernel
theorem dX0_stepInSection_32 : decode cX0_stepInSection 32 = .ok (.isub, 1) := by decide +kernel
theorem dX0_stepInSection_33 : decode cX0_stepInSection 33 = .ok (.goto 4, 3) := by decide +kernel
theorem dX0_stepInSection_36 : decode cX0_stepInSection 36 = .ok (.iconst (-1), 1) := by decide +kernel
theorem dX0_stepInSection_37 : decode cX0_stepInSection 37 = .ok (.ireturn, 1) := by decide +kernel
theorem dX0_stepInSection_38 : decode cX0_stepInSection 38 = .ok (.iload_n 1, 1) := by decide +kernel
theorem dX0_stepInSection_39 : decode cX0_stepInSection 39 = .ok (.aload_n 0, 1) := by decide +kernel
theorem dX0_stepInSection_40 : decode cX0_stepInSection 40 = .ok (.getfield 34, 3) := by decide +kernel
theorem dX0_stepInSection_43 : decode cX0_stepInSection 43 = .ok (.if_icmp .lt 22, 3) := by decide +kernel
theorem dX0_stepInSection_46 : decode cX0_stepInSection 46 = .ok (.iload_n 1, 1) := by decide +kernel
theorem dX0_stepInSection_47 : decode cX0_stepInSection 47 = .ok (.aload_n 0, 1) := by decide +kernel
theorem dX0_stepInSection_48 : decode cX0_stepInSection 48 = .ok (.getfield 31, 3) := by decide +kernel
theorem dX0_stepInSection_51 : decode cX0_stepInSection 51 = .ok (.if_icmp .ge 14, 3) := by decide +kernel
theorem dX0_stepInSection_54 : decode cX0_stepInSection 54 = .ok (.aload_n 0, 1) := by decide +kernel
theorem dX0_stepInSection_55 : decode cX0_stepInSection 55 = .ok (.getfield 31, 3) := by decide +kernel
theorem dX0_stepInSection_58 : decode cX0_stepInSection 58 = .ok (.iload_n 1, 1) := by decide +kernel
theorem dX0_stepInSection_59 : decode cX0_stepInSection 59 = .ok (.isub, 1) := by decide +kernel
theorem dX0_stepInSection_60 : decode cX0_stepInSection 60 = .ok (.iconst 1, 1) := by decide +kernel
theorem dX0_stepInSection_61 : decode cX0_stepInSection 61 = .ok (.isub, 1) := by decide +kernel
theorem dX0_stepInSection_62 : decode cX0_stepInSection 62 = .ok (.goto 4, 3) := by decide +kernel
theorem dX0_stepInSection_65 : decode cX0_stepInSection 65 = .ok (.iconst (-1), 1) := by decide +kernel
theorem dX0_stepInSection_66 : decode cX0_stepInSection 66 = .ok (.ireturn, 1) := by decide +kernel
theorem dX1_init_0 : decode cX1_init 0 = .ok (.aload_n 0, 1) := by decide +kernel
theorem dX1_init_1 : decode cX1_init 1 = .ok (.invokespecial 1, 3) := by decide +kernel
theorem dX1_init_4 : decode cX1_init 4 = .ok (.aload_n 0, 1) := by decide +kernel
theorem dX1_init_5 : decode cX1_init 5 = .ok (.new 7, 3) := by decide +kernel
theorem dX1_init_8 : decode cX1_init 8 = .ok (.dup, 1) := by decide +kernel
theorem dX1_init_9 : decode cX1_init 9 = .ok (.invokespecial 9, 3) := by decide +kernel
theorem dX1_init_12 : decode cX1_init 12 = .ok (.putfield 10, 3) := by decide +kernel
theorem dX1_init_15 : decode cX1_init 15 = .ok (.aload_n 0, 1) := by decide +kernel
theorem dX1_init_16 : decode cX1_init 16 = .ok (.new 7, 3) := by decide +kernel
theorem dX1_init_19 : decode cX1_init 19 = .ok (.dup, 1) := by decide +kernel
theorem dX1_init_20 : decode cX1_init 20 = .ok (.invokespecial 9, 3) := by decide +kernel
theorem dX1_init_23 : decode cX1_init 23 = .ok (.putfield 16, 3) := by decide +kernel
theorem dX1_init_26 : decode cX1_init 26 = .ok (.return_, 1) := by decide +kernel
theorem dX1_size_0 : decode cX1_size 0 = .ok (.aload_n 0, 1) := by decide +kernel
theorem dX1_size_1 : decode cX1_size 1 = .ok (.getfield 10, 3) := by decide +kernel
theorem dX1_size_4 : decode cX1_size 4 = .ok (.invokevirtual 19, 3) := by decide +kernel
theorem dX1_size_7 : decode cX1_size 7 = .ok (.ireturn, 1) := by decide +kernel
theorem dX1_at_0 : decode cX1_at 0 = .ok (.iload_n 1, 1) := by decide +kernel
theorem dX1_at_1 : decode cX1_at 1 = .ok (.ifCond .lt 28, 3) := by decide +kernel
theorem dX1_at_4 : decode cX1_at 4 = .ok (.iload_n 1, 1) := by decide +kernel
theorem dX1_at_5 : decode cX1_at 5 = .ok (.aload_n 0, 1) := by decide +kernel
theorem dX1_at_6 : decode cX1_at 6 = .ok (.getfield 10, 3) := by decide +kernel
theorem dX1_at_9 : decode cX1_at 9 = .ok (.invokevirtual 19, 3) := by decide +kernel
theorem dX1_at_12 : decode cX1_at 12 = .ok (.if_icmp .ge 17, 3) := by decide +kernel
theorem dX1_at_15 : decode cX1_at 15 = .ok (.aload_n 0, 1) := by decide +kernel
theorem dX1_at_16 : decode cX1_at 16 = .ok (.getfield 10, 3) := by decide +kernel
theorem dX1_at_19 : decode cX1_at 19 = .ok (.iload_n 1, 1) := by decide +kernel
theorem dX1_at_20 : decode cX1_at 20 = .ok (.invokevirtual 23, 3) := by decide +kernel
theorem dX1_at_23 : decode cX1_at 23 = .ok (.checkcast 27, 3) := by decide +kernel
theorem dX1_at_26 : decode cX1_at 26 = .ok (.goto 4, 3) := by decide +kernel
theorem dX1_at_29 : decode cX1_at 29 = .ok (.aconst_null, 1) := by decide +kernel
theorem dX1_at_30 : decode cX1_at 30 = .ok (.areturn, 1) := by decide +kernel
theorem dX1_add_0 : decode cX1_add 0 = .ok (.aload_n 0, 1) := by decide +kernel
theorem dX1_add_1 : decode cX1_add 1 = .ok (.getfield 16, 3) := by decide +kernel
theorem dX1_add_4 : decode cX1_add 4 = .ok (.invokevirtual 19, 3) := by decide +kernel
theorem dX1_add_7 : decode cX1_add 7 = .ok (.istore_n 2, 1) := by decide +kernel
theorem dX1_add_8 : decode cX1_add 8 = .ok (.iload_n 2, 1) := by decide +kernel
theorem dX1_add_9 : decode cX1_add 9 = .ok (.ifCond .le 32, 3) := by decide +kernel
theorem dX1_add_12 : decode cX1_add 12 = .ok (.aload_n 0, 1) := by decide +kernel
theorem dX1_add_13 : decode cX1_add 13 = .ok (.getfield 16, 3) := by decide +kernel
theorem dX1_add_16 : decode cX1_add 16 = .ok (.iload_n 2, 1) := by decide +kernel
theorem dX1_add_17 : decode cX1_add 17 = .ok (.iconst 1, 1) := by decide +kernel
theorem dX1_add_18 : decode cX1_add 18 = .ok (.isub, 1) := by decide +kernel
theorem dX1_add_19 : decode cX1_add 19 = .ok (.invokevirtual 23, 3) := by decide +kernel
theorem dX1_add_22 : decode cX1_add 22 = .ok (.checkcast 27, 3) := by decide +kernel
theorem dX1_add_25 : decode cX1_add 25 = .ok (.getfield 29, 3) := by decide +kernel
theorem dX1_add_28 : decode cX1_add 28 = .ok (.aload_n 1, 1) := by decide +kernel
theorem dX1_add_29 : decode cX1_add 29 = .ok (.getfield 29, 3) := by decide +kernel
theorem dX1_add_32 : decode cX1_add 32 = .ok (.if_icmp .le 9, 3) := by decide +kernel
theorem dX1_add_35 : decode cX1_add 35 = .ok (.iinc 2 (-1), 3) := by decide +kernel
theorem dX1_add_38 : decode cX1_add 38 = .ok (.goto (-30), 3) := by decide +kernel
theorem dX1_add_41 : decode cX1_add 41 = .ok (.aload_n 0, 1) := by decide +kernel
theorem dX1_add_42 : decode cX1_add 42 = .ok (.getfield 16, 3) := by decide +kernel
theorem dX1_add_45 : decode cX1_add 45 = .ok (.iload_n 2, 1) := by decide +kernel
theorem dX1_add_46 : decode cX1_add 46 = .ok (.aload_n 1, 1) := by decide +kernel
theorem dX1_add_47 : decode cX1_add 47 = .ok (.invokevirtual 33, 3) := by decide +kernel
theorem dX1_add_50 : decode cX1_add 50 = .ok (.aload_n 0, 1) := by decide +kernel
theorem dX1_add_51 : decode cX1_add 51 = .ok (.getfield 10, 3) := by decide +kernel
theorem dX1_add_54 : decode cX1_add 54 = .ok (.aload_n 1, 1) := by decide +kernel
theorem dX1_add_55 : decode cX1_add 55 = .ok (.invokevirtual 37, 3) := by decide +kernel
theorem dX1_add_58 : decode cX1_add 58 = .ok (.pop, 1) := by decide +kernel
theorem dX1_add_59 : decode cX1_add 59 = .ok (.return_, 1) := by decide +kernel
theorem dX1_dropAll_0 : decode cX1_dropAll 0 = .ok (.iconst 0, 1) := by decide +kernel
theorem dX1_dropAll_1 : decode cX1_dropAll 1 = .ok (.istore_n 1, 1) := by decide +kernel
theorem dX1_dropAll_2 : decode cX1_dropAll 2 = .ok (.iload_n 1, 1) := by decide +kernel
theorem dX1_dropAll_3 : decode cX1_dropAll 3 = .ok (.aload_n 0, 1) := by decide +kernel
theorem dX1_dropAll_4 : decode cX1_dropAll 4 = .ok (.getfield 10, 3) := by decide +kernel
theorem dX1_dropAll_7 : decode cX1_dropAll 7 = .ok (.invokevirtual 19, 3) := by decide +kernel
theorem dX1_dropAll_10 : decode cX1_dropAll 10 = .ok (.if_icmp .ge 24, 3) := by decide +kernel
theorem dX1_dropAll_13 : decode cX1_dropAll 13 = .ok (.aload_n 0, 1) := by decide +kernel
theorem dX1_dropAll_14 : decode cX1_dropAll 14 = .ok (.getfield 10, 3) := by decide +kernel
theorem dX1_dropAll_17 : decode cX1_dropAll 17 = .ok (.iload_n 1, 1) := by decide +kernel
theorem dX1_dropAll_18 : decode cX1_dropAll 18 = .ok (.invokevirtual 23, 3) := by decide +kernel
theorem dX1_dropAll_21 : decode cX1_dropAll 21 = .ok (.checkcast 27, 3) := by decide +kernel
theorem dX1_dropAll_24 : decode cX1_dropAll 24 = .ok (.iconst 0, 1) := by decide +kernel
theorem dX1_dropAll_25 : decode cX1_dropAll 25 = .ok (.putfield 40, 3) := by decide +kernel
theorem dX1_dropAll_28 : decode cX1_dropAll 28 = .ok (.iinc 1 1, 3) := by decide +kernel
theorem dX1_dropAll_31 : decode cX1_dropAll 31 = .ok (.goto (-29), 3) := by decide +kernel
theorem dX1_dropAll_34 : decode cX1_dropAll 34 = .ok (.return_, 1) := by decide +kernel
theorem dX1_pathsGiven_0 : decode cX1_pathsGiven 0 = .ok (.iconst 0, 1) := by decide +kernel
theorem dX1_pathsGiven_1 : decode cX1_pathsGiven 1 = .ok (.istore_n 1, 1) := by decide +kernel
theorem dX1_pathsGiven_2 : decode cX1_pathsGiven 2 = .ok (.iconst 0, 1) := by decide +kernel
theorem dX1_pathsGiven_3 : decode cX1_pathsGiven 3 = .ok (.istore_n 2, 1) := by decide +kernel
theorem dX1_pathsGiven_4 : decode cX1_pathsGiven 4 = .ok (.iload_n 2, 1) := by decide +kernel
theorem dX1_pathsGiven_5 : decode cX1_pathsGiven 5 = .ok (.aload_n 0, 1) := by decide +kernel
theorem dX1_pathsGiven_6 : decode cX1_pathsGiven 6 = .ok (.getfield 10, 3) := by decide +kernel
theorem dX1_pathsGiven_9 : decode cX1_pathsGiven 9 = .ok (.invokevirtual 19, 3) := by decide +kernel
theorem dX1_pathsGiven_12 : decode cX1_pathsGiven 12 = .ok (.if_icmp .ge 34, 3) := by decide +kernel
theorem dX1_pathsGiven_15 : decode cX1_pathsGiven 15 = .ok (.iload_n 1, 1) := by decide +kernel
theorem dX1_pathsGiven_16 : decode cX1_pathsGiven 16 = .ok (.aload_n 0, 1) := by decide +kernel
theorem dX1_pathsGiven_17 : decode cX1_pathsGiven 17 = .ok (.getfield 10, 3) := by decide +kernel
theorem dX1_pathsGiven_20 : decode cX1_pathsGiven 20 = .ok (.iload_n 2, 1) := by decide +kernel
theorem dX1_pathsGiven_21 : decode cX1_pathsGiven 21 = .ok (.invokevirtual 23, 3) := by decide +kernel
theorem dX1_pathsGiven_24 : decode cX1_pathsGiven 24 = .ok (.checkcast 27, 3) := by decide +kernel
theorem dX1_pathsGiven_27 : decode cX1_pathsGiven 27 = .ok (.getfield 40, 3) := by decide +kernel
theorem dX1_pathsGiven_30 : decode cX1_pathsGiven 30 = .ok (.ifCond .eq 7, 3) := by decide +kernel
theorem dX1_pathsGiven_33 : decode cX1_pathsGiven 33 = .ok (.iconst 1, 1) := by decide +kernel
theorem dX1_pathsGiven_34 : decode cX1_pathsGiven 34 = .ok (.goto 4, 3) := by decide +kernel
theorem dX1_pathsGiven_37 : decode cX1_pathsGiven 37 = .ok (.iconst 0, 1) := by decide +kernel
theorem dX1_pathsGiven_38 : decode cX1_pathsGiven 38 = .ok (.iadd, 1) := by decide +kernel
theorem dX1_pathsGiven_39 : decode cX1_pathsGiven 39 = .ok (.istore_n 1, 1) := by decide +kernel
theorem dX1_pathsGiven_40 : decode cX1_pathsGiven 40 = .ok (.iinc 2 1, 3) := by decide +kernel
theorem dX1_pathsGiven_43 : decode cX1_pathsGiven 43 = .ok (.goto (-39), 3) := by decide +kernel
theorem dX1_pathsGiven_46 : decode cX1_pathsGiven 46 = .ok (.iload_n 1, 1) := by decide +kernel
theorem dX1_pathsGiven_47 : decode cX1_pathsGiven 47 = .ok (.ireturn, 1) := by decide +kernel
theorem dX1_worthsGiven_0 : decode cX1_worthsGiven 0 = .ok (.iconst 0, 1) := by decide +kernel
theorem dX1_worthsGiven_1 : decode cX1_worthsGiven 1 = .ok (.istore_n 1, 1) := by decide +kernel
theorem dX1_worthsGiven_2 : decode cX1_worthsGiven 2 = .ok (.iconst 0, 1) := by decide +kernel
theorem dX1_worthsGiven_3 : decode cX1_worthsGiven 3 = .ok (.istore_n 2, 1) := by decide +kernel
theorem dX1_worthsGiven_4 : decode cX1_worthsGiven 4 = .ok (.iload_n 2, 1) := by decide +kernel
theorem dX1_worthsGiven_5 : decode cX1_worthsGiven 5 = .ok (.aload_n 0, 1) := by decide +kernel
theorem dX1_worthsGiven_6 : decode cX1_worthsGiven 6 = .ok (.getfield 10, 3) := by decide +kernel
theorem dX1_worthsGiven_9 : decode cX1_worthsGiven 9 = .ok (.invokevirtual 19, 3) := by decide +kernel
theorem dX1_worthsGiven_12 : decode cX1_worthsGiven 12 = .ok (.if_icmp .ge 47, 3) := by decide +kernel
theorem dX1_worthsGiven_15 : decode cX1_worthsGiven 15 = .ok (.iload_n 1, 1) := by decide +kernel
theorem dX1_worthsGiven_16 : decode cX1_worthsGiven 16 = .ok (.aload_n 0, 1) := by decide +kernel
theorem dX1_worthsGiven_17 : decode cX1_worthsGiven 17 = .ok (.getfield 10, 3) := by decide +kernel
theorem dX1_worthsGiven_20 : decode cX1_worthsGiven 20 = .ok (.iload_n 2, 1) := by decide +kernel
theorem dX1_worthsGiven_21 : decode cX1_worthsGiven 21 = .ok (.invokevirtual 23, 3) := by decide +kernel
theorem dX1_worthsGiven_24 : decode cX1_worthsGiven 24 = .ok (.checkcast 27, 3) := by decide +kernel
theorem dX1_worthsGiven_27 : decode cX1_worthsGiven 27 = .ok (.getfield 40, 3) := by decide +kernel
theorem dX1_worthsGiven_30 : decode cX1_worthsGiven 30 = .ok (.ifCond .eq 20, 3) := by decide +kernel
theorem dX1_worthsGiven_33 : decode cX1_worthsGiven 33 = .ok (.aload_n 0, 1) := by decide +kernel
theorem dX1_worthsGiven_34 : decode cX1_worthsGiven 34 = .ok (.getfield 10, 3) := by decide +kernel
theorem dX1_worthsGiven_37 : decode cX1_worthsGiven 37 = .ok (.iload_n 2, 1) := by decide +kernel
theorem dX1_worthsGiven_38 : decode cX1_worthsGiven 38 = .ok (.invokevirtual 23, 3) := by decide +kernel
theorem dX1_worthsGiven_41 : decode cX1_worthsGiven 41 = .ok (.checkcast 27, 3) := by decide +kernel
theorem dX1_worthsGiven_44 : decode cX1_worthsGiven 44 = .ok (.getfield 44, 3) := by decide +kernel
theorem dX1_worthsGiven_47 : decode cX1_worthsGiven 47 = .ok (.goto 4, 3) := by decide +kernel
theorem dX1_worthsGiven_50 : decode cX1_worthsGiven 50 = .ok (.iconst 0, 1) := by decide +kernel
theorem dX1_worthsGiven_51 : decode cX1_worthsGiven 51 = .ok (.iadd, 1) := by decide +kernel
theorem dX1_worthsGiven_52 : decode cX1_worthsGiven 52 = .ok (.istore_n 1, 1) := by decide +kernel
theorem dX1_worthsGiven_53 : decode cX1_worthsGiven 53 = .ok (.iinc 2 1, 3) := by decide +kernel
theorem dX1_worthsGiven_56 : decode cX1_worthsGiven 56 = .ok (.goto (-52), 3) := by decide +kernel
theorem dX1_worthsGiven_59 : decode cX1_worthsGiven 59 = .ok (.iload_n 1, 1) := by decide +kernel
theorem dX1_worthsGiven_60 : decode cX1_worthsGiven 60 = .ok (.ireturn, 1) := by decide +kernel
theorem dX2_init_0 : decode cX2_init 0 = .ok (.aload_n 0, 1) := by decide +kernel
theorem dX2_init_1 : decode cX2_init 1 = .ok (.invokespecial 3, 3) := by decide +kernel
theorem dX2_init_4 : decode cX2_init 4 = .ok (.aload_n 0, 1) := by decide +kernel
theorem dX2_init_5 : decode cX2_init 5 = .ok (.aload_n 1, 1) := by decide +kernel
theorem dX2_init_6 : decode cX2_init 6 = .ok (.putfield 9, 3) := by decide +kernel
theorem dX2_init_9 : decode cX2_init 9 = .ok (.aload_n 0, 1) := by decide +kernel
theorem dX2_init_10 : decode cX2_init 10 = .ok (.aload_n 2, 1) := by decide +kernel
theorem dX2_init_11 : decode cX2_init 11 = .ok (.putfield 15, 3) := by decide +kernel
theorem dX2_init_14 : decode cX2_init 14 = .ok (.return_, 1) := by decide +kernel
theorem dX2_seekFirst_0 : decode cX2_seekFirst 0 = .ok (.iconst 0, 1) := by decide +kernel
theorem dX2_seekFirst_1 : decode cX2_seekFirst 1 = .ok (.istore_n 1, 1) := by decide +kernel
theorem dX2_seekFirst_2 : decode cX2_seekFirst 2 = .ok (.iload_n 1, 1) := by decide +kernel
theorem dX2_seekFirst_3 : decode cX2_seekFirst 3 = .ok (.aload_n 0, 1) := by decide +kernel
theorem dX2_seekFirst_4 : decode cX2_seekFirst 4 = .ok (.getfield 15, 3) := by decide +kernel
theorem dX2_seekFirst_7 : decode cX2_seekFirst 7 = .ok (.invokevirtual 19, 3) := by decide +kernel
theorem dX2_seekFirst_10 : decode cX2_seekFirst 10 = .ok (.if_icmp .ge 76, 3) := by decide +kernel
theorem dX2_seekFirst_13 : decode cX2_seekFirst 13 = .ok (.aload_n 0, 1) := by decide +kernel
theorem dX2_seekFirst_14 : decode cX2_seekFirst 14 = .ok (.getfield 15, 3) := by decide +kernel
theorem dX2_seekFirst_17 : decode cX2_seekFirst 17 = .ok (.getfield 25, 3) := by decide +kernel
theorem dX2_seekFirst_20 : decode cX2_seekFirst 20 = .ok (.iload_n 1, 1) := by decide +kernel
theorem dX2_seekFirst_21 : decode cX2_seekFirst 21 = .ok (.invokevirtual 29, 3) := by decide +kernel
theorem dX2_seekFirst_24 : decode cX2_seekFirst 24 = .ok (.checkcast 35, 3) := by decide +kernel
theorem dX2_seekFirst_27 : decode cX2_seekFirst 27 = .ok (.astore_n 2, 1) := by decide +kernel
theorem dX2_seekFirst_28 : decode cX2_seekFirst 28 = .ok (.iconst 1, 1) := by decide +kernel
theorem dX2_seekFirst_29 : decode cX2_seekFirst 29 = .ok (.istore_n 3, 1) := by decide +kernel
theorem dX2_seekFirst_30 : decode cX2_seekFirst 30 = .ok (.iload_n 3, 1) := by decide +kernel
theorem dX2_seekFirst_31 : decode cX2_seekFirst 31 = .ok (.iconst 3, 1) := by decide +kernel
theorem dX2_seekFirst_32 : decode cX2_seekFirst 32 = .ok (.if_icmp .gt 48, 3) := by decide +kernel
theorem dX2_seekFirst_35 : decode cX2_seekFirst 35 = .ok (.aload_n 2, 1) := by decide +kernel
theorem dX2_seekFirst_36 : decode cX2_seekFirst 36 = .ok (.getfield 37, 3) := by decide +kernel
theorem dX2_seekFirst_39 : decode cX2_seekFirst 39 = .ok (.ifCond .eq 41, 3) := by decide +kernel
theorem dX2_seekFirst_42 : decode cX2_seekFirst 42 = .ok (.aload_n 0, 1) := by decide +kernel
theorem dX2_seekFirst_43 : decode cX2_seekFirst 43 = .ok (.aload_n 2, 1) := by decide +kernel
theorem dX2_seekFirst_44 : decode cX2_seekFirst 44 = .ok (.iload_n 3, 1) := by decide +kernel
theorem dX2_seekFirst_45 : decode cX2_seekFirst 45 = .ok (.invokevirtual 41, 3) := by decide +kernel
theorem dX2_seekFirst_48 : decode cX2_seekFirst 48 = .ok (.istore 4, 2) := by decide +kernel
theorem dX2_seekFirst_50 : decode cX2_seekFirst 50 = .ok (.iload 4, 2) := by decide +kernel
theorem dX2_seekFirst_52 : decode cX2_seekFirst 52 = .ok (.iconst (-1), 1) := by decide +kernel
theorem dX2_seekFirst_53 : decode cX2_seekFirst 53 = .ok (.if_icmp .eq 21, 3) := by decide +kernel
theorem dX2_seekFirst_56 : decode cX2_seekFirst 56 = .ok (.aload_n 0, 1) := by decide +kernel
theorem dX2_seekFirst_57 : decode cX2_seekFirst 57 = .ok (.iload_n 1, 1) := by decide +kernel
theorem dX2_seekFirst_58 : decode cX2_seekFirst 58 = .ok (.putfield 45, 3) := by decide +kernel
theorem dX2_seekFirst_61 : decode cX2_seekFirst 61 = .ok (.aload_n 0, 1) := by decide +kernel
theorem dX2_seekFirst_62 : decode cX2_seekFirst 62 = .ok (.iload_n 3, 1) := by decide +kernel
theorem dX2_seekFirst_63 : decode cX2_seekFirst 63 = .ok (.putfield 49, 3) := by decide +kernel
theorem dX2_seekFirst_66 : decode cX2_seekFirst 66 = .ok (.aload_n 0, 1) := by decide +kernel
theorem dX2_seekFirst_67 : decode cX2_seekFirst 67 = .ok (.iload 4, 2) := by decide +kernel
theorem dX2_seekFirst_69 : decode cX2_seekFirst 69 = .ok (.putfield 52, 3) := by decide +kernel
theorem dX2_seekFirst_72 : decode cX2_seekFirst 72 = .ok (.iconst 1, 1) := by decide +kernel
theorem dX2_seekFirst_73 : decode cX2_seekFirst 73 = .ok (.ireturn, 1) := by decide +kernel
theorem dX2_seekFirst_74 : decode cX2_seekFirst 74 = .ok (.iinc 3 1, 3) := by decide +kernel
theorem dX2_seekFirst_77 : decode cX2_seekFirst 77 = .ok (.goto (-47), 3) := by decide +kernel
theorem dX2_seekFirst_80 : decode cX2_seekFirst 80 = .ok (.iinc 1 1, 3) := by decide +kernel
theorem dX2_seekFirst_83 : decode cX2_seekFirst 83 = .ok (.goto (-81), 3) := by decide +kernel
theorem dX2_seekFirst_86 : decode cX2_seekFirst 86 = .ok (.iconst 0, 1) := by decide +kernel
theorem dX2_seekFirst_87 : decode cX2_seekFirst 87 = .ok (.ireturn, 1) := by decide +kernel
theorem dX2_firstMinute_0 : decode cX2_firstMinute 0 = .ok (.iload_n 2, 1) := by decide +kernel
theorem dX2_firstMinute_1 : decode cX2_firstMinute 1 = .ok (.iconst 1, 1) := by decide +kernel
theorem dX2_firstMinute_2 : decode cX2_firstMinute 2 = .ok (.if_icmp .ne 9, 3) := by decide +kernel
theorem dX2_firstMinute_5 : decode cX2_firstMinute 5 = .ok (.aload_n 0, 1) := by decide +kernel
theorem dX2_firstMinute_6 : decode cX2_firstMinute 6 = .ok (.aload_n 1, 1) := by decide +kernel
theorem dX2_firstMinute_7 : decode cX2_firstMinute 7 = .ok (.invokevirtual 55, 3) := by decide +kernel
theorem dX2_firstMinute_10 : decode cX2_firstMinute 10 = .ok (.ireturn, 1) := by decide +kernel
theorem dX2_firstMinute_11 : decode cX2_firstMinute 11 = .ok (.iload_n 2, 1) := by decide +kernel
theorem dX2_firstMinute_12 : decode cX2_firstMinute 12 = .ok (.iconst 2, 1) := by decide +kernel
theorem dX2_firstMinute_13 : decode cX2_firstMinute 13 = .ok (.if_icmp .ne 11, 3) := by decide +kernel
theorem dX2_firstMinute_16 : decode cX2_firstMinute 16 = .ok (.aload_n 0, 1) := by decide +kernel
theorem dX2_firstMinute_17 : decode cX2_firstMinute 17 = .ok (.aload_n 1, 1) := by decide +kernel
theorem dX2_firstMinute_18 : decode cX2_firstMinute 18 = .ok (.invokevirtual 59, 3) := by decide +kernel
theorem dX2_firstMinute_21 : decode cX2_firstMinute 21 = .ok (.goto 8, 3) := by decide +kernel
theorem dX2_firstMinute_24 : decode cX2_firstMinute 24 = .ok (.aload_n 0, 1) := by decide +kernel
theorem dX2_firstMinute_25 : decode cX2_firstMinute 25 = .ok (.aload_n 1, 1) := by decide +kernel
theorem dX2_firstMinute_26 : decode cX2_firstMinute 26 = .ok (.invokevirtual 62, 3) := by decide +kernel
theorem dX2_firstMinute_29 : decode cX2_firstMinute 29 = .ok (.ireturn, 1) := by decide +kernel
theorem dX2_firstClosed_0 : decode cX2_firstClosed 0 = .ok (.iconst 0, 1) := by decide +kernel
theorem dX2_firstClosed_1 : decode cX2_firstClosed 1 = .ok (.istore_n 2, 1) := by decide +kernel
theorem dX2_firstClosed_2 : decode cX2_firstClosed 2 = .ok (.iload_n 2, 1) := by decide +kernel
theorem dX2_firstClosed_3 : decode cX2_firstClosed 3 = .ok (.aload_n 1, 1) := by decide +kernel
theorem dX2_firstClosed_4 : decode cX2_firstClosed 4 = .ok (.invokevirtual 65, 3) := by decide +kernel
theorem dX2_firstClosed_7 : decode cX2_firstClosed 7 = .ok (.if_icmp .ge 52, 3) := by decide +kernel
theorem dX2_firstClosed_10 : decode cX2_firstClosed 10 = .ok (.aload_n 1, 1) := by decide +kernel
theorem dX2_firstClosed_11 : decode cX2_firstClosed 11 = .ok (.getfield 68, 3) := by decide +kernel
theorem dX2_firstClosed_14 : decode cX2_firstClosed 14 = .ok (.iload_n 2, 1) := by decide +kernel
theorem dX2_firstClosed_15 : decode cX2_firstClosed 15 = .ok (.iaload, 1) := by decide +kernel
theorem dX2_firstClosed_16 : decode cX2_firstClosed 16 = .ok (.istore_n 3, 1) := by decide +kernel
theorem dX2_firstClosed_17 : decode cX2_firstClosed 17 = .ok (.iload_n 3, 1) := by decide +kernel
theorem dX2_firstClosed_18 : decode cX2_firstClosed 18 = .ok (.aload_n 1, 1) := by decide +kernel
theorem dX2_firstClosed_19 : decode cX2_firstClosed 19 = .ok (.getfield 72, 3) := by decide +kernel
theorem dX2_firstClosed_22 : decode cX2_firstClosed 22 = .ok (.iload_n 2, 1) := by decide +kernel
theorem dX2_firstClosed_23 : decode cX2_firstClosed 23 = .ok (.iconst 1, 1) := by decide +kernel
theorem dX2_firstClosed_24 : decode cX2_firstClosed 24 = .ok (.iadd, 1) := by decide +kernel
theorem dX2_firstClosed_25 : decode cX2_firstClosed 25 = .ok (.iaload, 1) := by decide +kernel
theorem dX2_firstClosed_26 : decode cX2_firstClosed 26 = .ok (.if_icmp .ge 27, 3) := by decide +kernel
theorem dX2_firstClosed_29 : decode cX2_firstClosed 29 = .ok (.aload_n 0, 1) := by decide +kernel
theorem dX2_firstClosed_30 : decode cX2_firstClosed 30 = .ok (.getfield 9, 3) := by decide +kernel
theorem dX2_firstClosed_33 : decode cX2_firstClosed 33 = .ok (.aload_n 1, 1) := by decide +kernel
theorem dX2_firstClosed_34 : decode cX2_firstClosed 34 = .ok (.iload_n 2, 1) := by decide +kernel
theorem dX2_firstClosed_35 : decode cX2_firstClosed 35 = .ok (.invokevirtual 75, 3) := by decide +kernel
theorem dX2_firstClosed_38 : decode cX2_firstClosed 38 = .ok (.iload_n 3, 1) := by decide +kernel
theorem dX2_firstClosed_39 : decode cX2_firstClosed 39 = .ok (.invokevirtual 79, 3) := by decide +kernel
theorem dX2_firstClosed_42 : decode cX2_firstClosed 42 = .ok (.ifCond .eq 5, 3) := by decide +kernel
theorem dX2_firstClosed_45 : decode cX2_firstClosed 45 = .ok (.iload_n 3, 1) := by decide +kernel
theorem dX2_firstClosed_46 : decode cX2_firstClosed 46 = .ok (.ireturn, 1) := by decide +kernel
theorem dX2_firstClosed_47 : decode cX2_firstClosed 47 = .ok (.iinc 3 1, 3) := by decide +kernel
theorem dX2_firstClosed_50 : decode cX2_firstClosed 50 = .ok (.goto (-33), 3) := by decide +kernel
theorem dX2_firstClosed_53 : decode cX2_firstClosed 53 = .ok (.iinc 2 1, 3) := by decide +kernel
theorem dX2_firstClosed_56 : decode cX2_firstClosed 56 = .ok (.goto (-54), 3) := by decide +kernel
theorem dX2_firstClosed_59 : decode cX2_firstClosed 59 = .ok (.iconst (-1), 1) := by decide +kernel
theorem dX2_firstClosed_60 : decode cX2_firstClosed 60 = .ok (.ireturn, 1) := by decide +kernel
theorem dX2_firstHeld_0 : decode cX2_firstHeld 0 = .ok (.iconst 0, 1) := by decide +kernel
theorem dX2_firstHeld_1 : decode cX2_firstHeld 1 = .ok (.istore_n 2, 1) := by decide +kernel
theorem dX2_firstHeld_2 : decode cX2_firstHeld 2 = .ok (.iload_n 2, 1) := by decide +kernel
theorem dX2_firstHeld_3 : decode cX2_firstHeld 3 = .ok (.aload_n 1, 1) := by decide +kernel
theorem dX2_firstHeld_4 : decode cX2_firstHeld 4 = .ok (.invokevirtual 65, 3) := by decide +kernel
theorem dX2_firstHeld_7 : decode cX2_firstHeld 7 = .ok (.if_icmp .ge 50, 3) := by decide +kernel
theorem dX2_firstHeld_10 : decode cX2_firstHeld 10 = .ok (.aload_n 1, 1) := by decide +kernel
theorem dX2_firstHeld_11 : decode cX2_firstHeld 11 = .ok (.getfield 68, 3) := by decide +kernel
theorem dX2_firstHeld_14 : decode cX2_firstHeld 14 = .ok (.iload_n 2, 1) := by decide +kernel
theorem dX2_firstHeld_15 : decode cX2_firstHeld 15 = .ok (.iaload, 1) := by decide +kernel
theorem dX2_firstHeld_16 : decode cX2_firstHeld 16 = .ok (.istore_n 3, 1) := by decide +kernel
theorem dX2_firstHeld_17 : decode cX2_firstHeld 17 = .ok (.iload_n 3, 1) := by decide +kernel
theorem dX2_firstHeld_18 : decode cX2_firstHeld 18 = .ok (.aload_n 1, 1) := by decide +kernel
theorem dX2_firstHeld_19 : decode cX2_firstHeld 19 = .ok (.getfield 72, 3) := by decide +kernel
theorem dX2_firstHeld_22 : decode cX2_firstHeld 22 = .ok (.iload_n 2, 1) := by decide +kernel
theorem dX2_firstHeld_23 : decode cX2_firstHeld 23 = .ok (.iconst 1, 1) := by decide +kernel
theorem dX2_firstHeld_24 : decode cX2_firstHeld 24 = .ok (.iadd, 1) := by decide +kernel
theorem dX2_firstHeld_25 : decode cX2_firstHeld 25 = .ok (.iaload, 1) := by decide +kernel
theorem dX2_firstHeld_26 : decode cX2_firstHeld 26 = .ok (.if_icmp .ge 25, 3) := by decide +kernel
theorem dX2_firstHeld_29 : decode cX2_firstHeld 29 = .ok (.aload_n 0, 1) := by decide +kernel
theorem dX2_firstHeld_30 : decode cX2_firstHeld 30 = .ok (.aload_n 1, 1) := by decide +kernel
theorem dX2_firstHeld_31 : decode cX2_firstHeld 31 = .ok (.aload_n 1, 1) := by decide +kernel
theorem dX2_firstHeld_32 : decode cX2_firstHeld 32 = .ok (.iload_n 2, 1) := by decide +kernel
theorem dX2_firstHeld_33 : decode cX2_firstHeld 33 = .ok (.invokevirtual 75, 3) := by decide +kernel
theorem dX2_firstHeld_36 : decode cX2_firstHeld 36 = .ok (.iload_n 3, 1) := by decide +kernel
theorem dX2_firstHeld_37 : decode cX2_firstHeld 37 = .ok (.invokevirtual 85, 3) := by decide +kernel
theorem dX2_firstHeld_40 : decode cX2_firstHeld 40 = .ok (.ifCond .eq 5, 3) := by decide +kernel
theorem dX2_firstHeld_43 : decode cX2_firstHeld 43 = .ok (.iload_n 3, 1) := by decide +kernel
theorem dX2_firstHeld_44 : decode cX2_firstHeld 44 = .ok (.ireturn, 1) := by decide +kernel
theorem dX2_firstHeld_45 : decode cX2_firstHeld 45 = .ok (.iinc 3 1, 3) := by decide +kernel
theorem dX2_firstHeld_48 : decode cX2_firstHeld 48 = .ok (.goto (-31), 3) := by decide +kernel
theorem dX2_firstHeld_51 : decode cX2_firstHeld 51 = .ok (.iinc 2 1, 3) := by decide +kernel
theorem dX2_firstHeld_54 : decode cX2_firstHeld 54 = .ok (.goto (-52), 3) := by decide +kernel
theorem dX2_firstHeld_57 : decode cX2_firstHeld 57 = .ok (.iconst (-1), 1) := by decide +kernel
theorem dX2_firstHeld_58 : decode cX2_firstHeld 58 = .ok (.ireturn, 1) := by decide +kernel
theorem dX2_isHeldByOther_0 : decode cX2_isHeldByOther 0 = .ok (.iconst 0, 1) := by decide +kernel
theorem dX2_isHeldByOther_1 : decode cX2_isHeldByOther 1 = .ok (.istore 4, 2) := by decide +kernel
theorem dX2_isHeldByOther_3 : decode cX2_isHeldByOther 3 = .ok (.iload 4, 2) := by decide +kernel
theorem dX2_isHeldByOther_5 : decode cX2_isHeldByOther 5 = .ok (.aload_n 0, 1) := by decide +kernel
theorem dX2_isHeldByOther_6 : decode cX2_isHeldByOther 6 = .ok (.getfield 15, 3) := by decide +kernel
theorem dX2_isHeldByOther_9 : decode cX2_isHeldByOther 9 = .ok (.invokevirtual 19, 3) := by decide +kernel
theorem dX2_isHeldByOther_12 : decode cX2_isHeldByOther 12 = .ok (.if_icmp .ge 104, 3) := by decide +kernel
theorem dX2_isHeldByOther_15 : decode cX2_isHeldByOther 15 = .ok (.aload_n 0, 1) := by decide +kernel
theorem dX2_isHeldByOther_16 : decode cX2_isHeldByOther 16 = .ok (.getfield 15, 3) := by decide +kernel
theorem dX2_isHeldByOther_19 : decode cX2_isHeldByOther 19 = .ok (.getfield 25, 3) := by decide +kernel
theorem dX2_isHeldByOther_22 : decode cX2_isHeldByOther 22 = .ok (.iload 4, 2) := by decide +kernel
theorem dX2_isHeldByOther_24 : decode cX2_isHeldByOther 24 = .ok (.invokevirtual 29, 3) := by decide +kernel
theorem dX2_isHeldByOther_27 : decode cX2_isHeldByOther 27 = .ok (.checkcast 35, 3) := by decide +kernel
theorem dX2_isHeldByOther_30 : decode cX2_isHeldByOther 30 = .ok (.astore 5, 2) := by decide +kernel
theorem dX2_isHeldByOther_32 : decode cX2_isHeldByOther 32 = .ok (.aload 5, 2) := by decide +kernel
theorem dX2_isHeldByOther_34 : decode cX2_isHeldByOther 34 = .ok (.iload_n 2, 1) := by decide +kernel
theorem dX2_isHeldByOther_35 : decode cX2_isHeldByOther 35 = .ok (.invokevirtual 89, 3) := by decide +kernel
theorem dX2_isHeldByOther_38 : decode cX2_isHeldByOther 38 = .ok (.istore 6, 2) := by decide +kernel
theorem dX2_isHeldByOther_40 : decode cX2_isHeldByOther 40 = .ok (.aload 5, 2) := by decide +kernel
theorem dX2_isHeldByOther_42 : decode cX2_isHeldByOther 42 = .ok (.aload_n 1, 1) := by decide +kernel
theorem dX2_isHeldByOther_43 : decode cX2_isHeldByOther 43 = .ok (.if_acmp .eq 67, 3) := by decide +kernel
theorem dX2_isHeldByOther_46 : decode cX2_isHeldByOther 46 = .ok (.aload 5, 2) := by decide +kernel
theorem dX2_isHeldByOther_48 : decode cX2_isHeldByOther 48 = .ok (.getfield 37, 3) := by decide +kernel
theorem dX2_isHeldByOther_51 : decode cX2_isHeldByOther 51 = .ok (.ifCond .eq 59, 3) := by decide +kernel
theorem dX2_isHeldByOther_54 : decode cX2_isHeldByOther 54 = .ok (.iload 6, 2) := by decide +kernel
theorem dX2_isHeldByOther_56 : decode cX2_isHeldByOther 56 = .ok (.iconst (-1), 1) := by decide +kernel
theorem dX2_isHeldByOther_57 : decode cX2_isHeldByOther 57 = .ok (.if_icmp .eq 53, 3) := by decide +kernel
theorem dX2_isHeldByOther_60 : decode cX2_isHeldByOther 60 = .ok (.aload_n 0, 1) := by decide +kernel
theorem dX2_isHeldByOther_61 : decode cX2_isHeldByOther 61 = .ok (.getfield 9, 3) := by decide +kernel
theorem dX2_isHeldByOther_64 : decode cX2_isHeldByOther 64 = .ok (.iload_n 2, 1) := by decide +kernel
theorem dX2_isHeldByOther_65 : decode cX2_isHeldByOther 65 = .ok (.aload_n 1, 1) := by decide +kernel
theorem dX2_isHeldByOther_66 : decode cX2_isHeldByOther 66 = .ok (.aload 5, 2) := by decide +kernel
theorem dX2_isHeldByOther_68 : decode cX2_isHeldByOther 68 = .ok (.invokevirtual 92, 3) := by decide +kernel
theorem dX2_isHeldByOther_71 : decode cX2_isHeldByOther 71 = .ok (.ifCond .eq 39, 3) := by decide +kernel
theorem dX2_isHeldByOther_74 : decode cX2_isHeldByOther 74 = .ok (.iload_n 3, 1) := by decide +kernel
theorem dX2_isHeldByOther_75 : decode cX2_isHeldByOther 75 = .ok (.aload 5, 2) := by decide +kernel
theorem dX2_isHeldByOther_77 : decode cX2_isHeldByOther 77 = .ok (.getfield 68, 3) := by decide +kernel
theorem dX2_isHeldByOther_80 : decode cX2_isHeldByOther 80 = .ok (.iload 6, 2) := by decide +kernel
theorem dX2_isHeldByOther_82 : decode cX2_isHeldByOther 82 = .ok (.iaload, 1) := by decide +kernel
theorem dX2_isHeldByOther_83 : decode cX2_isHeldByOther 83 = .ok (.if_icmp .lt 27, 3) := by decide +kernel
theorem dX2_isHeldByOther_86 : decode cX2_isHeldByOther 86 = .ok (.iload_n 3, 1) := by decide +kernel
theorem dX2_isHeldByOther_87 : decode cX2_isHeldByOther 87 = .ok (.aload 5, 2) := by decide +kernel
theorem dX2_isHeldByOther_89 : decode cX2_isHeldByOther 89 = .ok (.getfield 72, 3) := by decide +kernel
theorem dX2_isHeldByOther_92 : decode cX2_isHeldByOther 92 = .ok (.iload 6, 2) := by decide +kernel
theorem dX2_isHeldByOther_94 : decode cX2_isHeldByOther 94 = .ok (.iconst 1, 1) := by decide +kernel
theorem dX2_isHeldByOther_95 : decode cX2_isHeldByOther 95 = .ok (.iadd, 1) := by decide +kernel
theorem dX2_isHeldByOther_96 : decode cX2_isHeldByOther 96 = .ok (.iaload, 1) := by decide +kernel
theorem dX2_isHeldByOther_97 : decode cX2_isHeldByOther 97 = .ok (.aload_n 0, 1) := by decide +kernel
theorem dX2_isHeldByOther_98 : decode cX2_isHeldByOther 98 = .ok (.getfield 9, 3) := by decide +kernel
theorem dX2_isHeldByOther_101 : decode cX2_isHeldByOther 101 = .ok (.invokevirtual 96, 3) := by decide +kernel
theorem dX2_isHeldByOther_104 : decode cX2_isHeldByOther 104 = .ok (.iadd, 1) := by decide +kernel
theorem dX2_isHeldByOther_105 : decode cX2_isHeldByOther 105 = .ok (.if_icmp .ge 5, 3) := by decide +kernel
theorem dX2_isHeldByOther_108 : decode cX2_isHeldByOther 108 = .ok (.iconst 1, 1) := by decide +kernel
theorem dX2_isHeldByOther_109 : decode cX2_isHeldByOther 109 = .ok (.ireturn, 1) := by decide +kernel
theorem dX2_isHeldByOther_110 : decode cX2_isHeldByOther 110 = .ok (.iinc 4 1, 3) := by decide +kernel
theorem dX2_isHeldByOther_113 : decode cX2_isHeldByOther 113 = .ok (.goto (-110), 3) := by decide +kernel
theorem dX2_isHeldByOther_116 : decode cX2_isHeldByOther 116 = .ok (.iconst 0, 1) := by decide +kernel
theorem dX2_isHeldByOther_117 : decode cX2_isHeldByOther 117 = .ok (.ireturn, 1) := by decide +kernel
theorem dX2_firstCrowded_0 : decode cX2_firstCrowded 0 = .ok (.iconst 1, 1) := by decide +kernel
theorem dX2_firstCrowded_1 : decode cX2_firstCrowded 1 = .ok (.istore_n 2, 1) := by decide +kernel
theorem dX2_firstCrowded_2 : decode cX2_firstCrowded 2 = .ok (.iload_n 2, 1) := by decide +kernel
theorem dX2_firstCrowded_3 : decode cX2_firstCrowded 3 = .ok (.aload_n 1, 1) := by decide +kernel
theorem dX2_firstCrowded_4 : decode cX2_firstCrowded 4 = .ok (.invokevirtual 65, 3) := by decide +kernel
theorem dX2_firstCrowded_7 : decode cX2_firstCrowded 7 = .ok (.if_icmp .ge 62, 3) := by decide +kernel
theorem dX2_firstCrowded_10 : decode cX2_firstCrowded 10 = .ok (.aload_n 1, 1) := by decide +kernel
theorem dX2_firstCrowded_11 : decode cX2_firstCrowded 11 = .ok (.iload_n 2, 1) := by decide +kernel
theorem dX2_firstCrowded_12 : decode cX2_firstCrowded 12 = .ok (.invokevirtual 99, 3) := by decide +kernel
theorem dX2_firstCrowded_15 : decode cX2_firstCrowded 15 = .ok (.istore_n 3, 1) := by decide +kernel
theorem dX2_firstCrowded_16 : decode cX2_firstCrowded 16 = .ok (.aload_n 1, 1) := by decide +kernel
theorem dX2_firstCrowded_17 : decode cX2_firstCrowded 17 = .ok (.getfield 72, 3) := by decide +kernel
theorem dX2_firstCrowded_20 : decode cX2_firstCrowded 20 = .ok (.iload_n 2, 1) := by decide +kernel
theorem dX2_firstCrowded_21 : decode cX2_firstCrowded 21 = .ok (.iaload, 1) := by decide +kernel
theorem dX2_firstCrowded_22 : decode cX2_firstCrowded 22 = .ok (.istore 4, 2) := by decide +kernel
theorem dX2_firstCrowded_24 : decode cX2_firstCrowded 24 = .ok (.iload 4, 2) := by decide +kernel
theorem dX2_firstCrowded_26 : decode cX2_firstCrowded 26 = .ok (.aload_n 1, 1) := by decide +kernel
theorem dX2_firstCrowded_27 : decode cX2_firstCrowded 27 = .ok (.getfield 68, 3) := by decide +kernel
theorem dX2_firstCrowded_30 : decode cX2_firstCrowded 30 = .ok (.iload_n 2, 1) := by decide +kernel
theorem dX2_firstCrowded_31 : decode cX2_firstCrowded 31 = .ok (.iaload, 1) := by decide +kernel
theorem dX2_firstCrowded_32 : decode cX2_firstCrowded 32 = .ok (.if_icmp .ge 31, 3) := by decide +kernel
theorem dX2_firstCrowded_35 : decode cX2_firstCrowded 35 = .ok (.aload_n 0, 1) := by decide +kernel
theorem dX2_firstCrowded_36 : decode cX2_firstCrowded 36 = .ok (.iload_n 3, 1) := by decide +kernel
theorem dX2_firstCrowded_37 : decode cX2_firstCrowded 37 = .ok (.iload 4, 2) := by decide +kernel
theorem dX2_firstCrowded_39 : decode cX2_firstCrowded 39 = .ok (.invokevirtual 102, 3) := by decide +kernel
theorem dX2_firstCrowded_42 : decode cX2_firstCrowded 42 = .ok (.aload_n 0, 1) := by decide +kernel
theorem dX2_firstCrowded_43 : decode cX2_firstCrowded 43 = .ok (.getfield 9, 3) := by decide +kernel
theorem dX2_firstCrowded_46 : decode cX2_firstCrowded 46 = .ok (.getfield 106, 3) := by decide +kernel
theorem dX2_firstCrowded_49 : decode cX2_firstCrowded 49 = .ok (.iload_n 3, 1) := by decide +kernel
theorem dX2_firstCrowded_50 : decode cX2_firstCrowded 50 = .ok (.iaload, 1) := by decide +kernel
theorem dX2_firstCrowded_51 : decode cX2_firstCrowded 51 = .ok (.if_icmp .le 6, 3) := by decide +kernel
theorem dX2_firstCrowded_54 : decode cX2_firstCrowded 54 = .ok (.iload 4, 2) := by decide +kernel
theorem dX2_firstCrowded_56 : decode cX2_firstCrowded 56 = .ok (.ireturn, 1) := by decide +kernel
theorem dX2_firstCrowded_57 : decode cX2_firstCrowded 57 = .ok (.iinc 4 1, 3) := by decide +kernel
theorem dX2_firstCrowded_60 : decode cX2_firstCrowded 60 = .ok (.goto (-36), 3) := by decide +kernel
theorem dX2_firstCrowded_63 : decode cX2_firstCrowded 63 = .ok (.iinc 2 1, 3) := by decide +kernel
theorem dX2_firstCrowded_66 : decode cX2_firstCrowded 66 = .ok (.goto (-64), 3) := by decide +kernel
theorem dX2_firstCrowded_69 : decode cX2_firstCrowded 69 = .ok (.iconst (-1), 1) := by decide +kernel
theorem dX2_firstCrowded_70 : decode cX2_firstCrowded 70 = .ok (.ireturn, 1) := by decide +kernel
theorem dX2_standingAt_0 : decode cX2_standingAt 0 = .ok (.iconst 0, 1) := by decide +kernel
theorem dX2_standingAt_1 : decode cX2_standingAt 1 = .ok (.istore_n 3, 1) := by decide +kernel
theorem dX2_standingAt_2 : decode cX2_standingAt 2 = .ok (.iconst 0, 1) := by decide +kernel
theorem dX2_standingAt_3 : decode cX2_standingAt 3 = .ok (.istore 4, 2) := by decide +kernel
theorem dX2_standingAt_5 : decode cX2_standingAt 5 = .ok (.iload 4, 2) := by decide +kernel
theorem dX2_standingAt_7 : decode cX2_standingAt 7 = .ok (.aload_n 0, 1) := by decide +kernel
theorem dX2_standingAt_8 : decode cX2_standingAt 8 = .ok (.getfield 15, 3) := by decide +kernel
theorem dX2_standingAt_11 : decode cX2_standingAt 11 = .ok (.invokevirtual 19, 3) := by decide +kernel
theorem dX2_standingAt_14 : decode cX2_standingAt 14 = .ok (.if_icmp .ge 84, 3) := by decide +kernel
theorem dX2_standingAt_17 : decode cX2_standingAt 17 = .ok (.aload_n 0, 1) := by decide +kernel
theorem dX2_standingAt_18 : decode cX2_standingAt 18 = .ok (.getfield 15, 3) := by decide +kernel
theorem dX2_standingAt_21 : decode cX2_standingAt 21 = .ok (.getfield 25, 3) := by decide +kernel
theorem dX2_standingAt_24 : decode cX2_standingAt 24 = .ok (.iload 4, 2) := by decide +kernel
theorem dX2_standingAt_26 : decode cX2_standingAt 26 = .ok (.invokevirtual 29, 3) := by decide +kernel
theorem dX2_standingAt_29 : decode cX2_standingAt 29 = .ok (.checkcast 35, 3) := by decide +kernel
theorem dX2_standingAt_32 : decode cX2_standingAt 32 = .ok (.astore 5, 2) := by decide +kernel
theorem dX2_standingAt_34 : decode cX2_standingAt 34 = .ok (.aload 5, 2) := by decide +kernel
theorem dX2_standingAt_36 : decode cX2_standingAt 36 = .ok (.iload_n 1, 1) := by decide +kernel
theorem dX2_standingAt_37 : decode cX2_standingAt 37 = .ok (.invokevirtual 109, 3) := by decide +kernel
theorem dX2_standingAt_40 : decode cX2_standingAt 40 = .ok (.istore 6, 2) := by decide +kernel
theorem dX2_standingAt_42 : decode cX2_standingAt 42 = .ok (.aload 5, 2) := by decide +kernel
theorem dX2_standingAt_44 : decode cX2_standingAt 44 = .ok (.getfield 37, 3) := by decide +kernel
theorem dX2_standingAt_47 : decode cX2_standingAt 47 = .ok (.ifCond .eq 45, 3) := by decide +kernel
theorem dX2_standingAt_50 : decode cX2_standingAt 50 = .ok (.iload 6, 2) := by decide +kernel
theorem dX2_standingAt_52 : decode cX2_standingAt 52 = .ok (.ifCond .le 40, 3) := by decide +kernel
theorem dX2_standingAt_55 : decode cX2_standingAt 55 = .ok (.iload 6, 2) := by decide +kernel
theorem dX2_standingAt_57 : decode cX2_standingAt 57 = .ok (.aload 5, 2) := by decide +kernel
theorem dX2_standingAt_59 : decode cX2_standingAt 59 = .ok (.invokevirtual 65, 3) := by decide +kernel
theorem dX2_standingAt_62 : decode cX2_standingAt 62 = .ok (.if_icmp .ge 30, 3) := by decide +kernel
theorem dX2_standingAt_65 : decode cX2_standingAt 65 = .ok (.iload_n 2, 1) := by decide +kernel
theorem dX2_standingAt_66 : decode cX2_standingAt 66 = .ok (.aload 5, 2) := by decide +kernel
theorem dX2_standingAt_68 : decode cX2_standingAt 68 = .ok (.getfield 72, 3) := by decide +kernel
theorem dX2_standingAt_71 : decode cX2_standingAt 71 = .ok (.iload 6, 2) := by decide +kernel
theorem dX2_standingAt_73 : decode cX2_standingAt 73 = .ok (.iaload, 1) := by decide +kernel
theorem dX2_standingAt_74 : decode cX2_standingAt 74 = .ok (.if_icmp .lt 18, 3) := by decide +kernel
theorem dX2_standingAt_77 : decode cX2_standingAt 77 = .ok (.iload_n 2, 1) := by decide +kernel
theorem dX2_standingAt_78 : decode cX2_standingAt 78 = .ok (.aload 5, 2) := by decide +kernel
theorem dX2_standingAt_80 : decode cX2_standingAt 80 = .ok (.getfield 68, 3) := by decide +kernel
theorem dX2_standingAt_83 : decode cX2_standingAt 83 = .ok (.iload 6, 2) := by decide +kernel
theorem dX2_standingAt_85 : decode cX2_standingAt 85 = .ok (.iaload, 1) := by decide +kernel
theorem dX2_standingAt_86 : decode cX2_standingAt 86 = .ok (.if_icmp .ge 6, 3) := by decide +kernel
theorem dX2_standingAt_89 : decode cX2_standingAt 89 = .ok (.iinc 3 1, 3) := by decide +kernel
theorem dX2_standingAt_92 : decode cX2_standingAt 92 = .ok (.iinc 4 1, 3) := by decide +kernel
theorem dX2_standingAt_95 : decode cX2_standingAt 95 = .ok (.goto (-90), 3) := by decide +kernel
theorem dX2_standingAt_98 : decode cX2_standingAt 98 = .ok (.iload_n 3, 1) := by decide +kernel
theorem dX2_standingAt_99 : decode cX2_standingAt 99 = .ok (.ireturn, 1) := by decide +kernel
theorem dX3_init_0 : decode cX3_init 0 = .ok (.aload_n 0, 1) := by decide +kernel
theorem dX3_init_1 : decode cX3_init 1 = .ok (.invokespecial 3, 3) := by decide +kernel
theorem dX3_init_4 : decode cX3_init 4 = .ok (.aload_n 0, 1) := by decide +kernel
theorem dX3_init_5 : decode cX3_init 5 = .ok (.bipush 8, 2) := by decide +kernel
theorem dX3_init_7 : decode cX3_init 7 = .ok (.newarray .boolean, 2) := by decide +kernel
theorem dX3_init_9 : decode cX3_init 9 = .ok (.putfield 9, 3) := by decide +kernel
theorem dX3_init_12 : decode cX3_init 12 = .ok (.aload_n 0, 1) := by decide +kernel
theorem dX3_init_13 : decode cX3_init 13 = .ok (.bipush 8, 2) := by decide +kernel
theorem dX3_init_15 : decode cX3_init 15 = .ok (.newarray .int, 2) := by decide +kernel
theorem dX3_init_17 : decode cX3_init 17 = .ok (.putfield 15, 3) := by decide +kernel
theorem dX3_init_20 : decode cX3_init 20 = .ok (.aload_n 0, 1) := by decide +kernel
theorem dX3_init_21 : decode cX3_init 21 = .ok (.bipush 8, 2) := by decide +kernel
theorem dX3_init_23 : decode cX3_init 23 = .ok (.newarray .int, 2) := by decide +kernel
theorem dX3_init_25 : decode cX3_init 25 = .ok (.putfield 19, 3) := by decide +kernel
theorem dX3_init_28 : decode cX3_init 28 = .ok (.aload_n 0, 1) := by decide +kernel
theorem dX3_init_29 : decode cX3_init 29 = .ok (.bipush 8, 2) := by decide +kernel
theorem dX3_init_31 : decode cX3_init 31 = .ok (.newarray .int, 2) := by decide +kernel
theorem dX3_init_33 : decode cX3_init 33 = .ok (.putfield 22, 3) := by decide +kernel
theorem dX3_init_36 : decode cX3_init 36 = .ok (.aload_n 0, 1) := by decide +kernel
theorem dX3_init_37 : decode cX3_init 37 = .ok (.bipush 10, 2) := by decide +kernel
theorem dX3_init_39 : decode cX3_init 39 = .ok (.newarray .int, 2) := by decide +kernel
theorem dX3_init_41 : decode cX3_init 41 = .ok (.putfield 25, 3) := by decide +kernel
theorem dX3_init_44 : decode cX3_init 44 = .ok (.aload_n 0, 1) := by decide +kernel
theorem dX3_init_45 : decode cX3_init 45 = .ok (.bipush 10, 2) := by decide +kernel
theorem dX3_init_47 : decode cX3_init 47 = .ok (.newarray .int, 2) := by decide +kernel
theorem dX3_init_49 : decode cX3_init 49 = .ok (.putfield 28, 3) := by decide +kernel
theorem dX3_init_52 : decode cX3_init 52 = .ok (.aload_n 0, 1) := by decide +kernel
theorem dX3_init_53 : decode cX3_init 53 = .ok (.bipush 10, 2) := by decide +kernel
theorem dX3_init_55 : decode cX3_init 55 = .ok (.newarray .int, 2) := by decide +kernel
theorem dX3_init_57 : decode cX3_init 57 = .ok (.putfield 31, 3) := by decide +kernel
theorem dX3_init_60 : decode cX3_init 60 = .ok (.aload_n 0, 1) := by decide +kernel
theorem dX3_init_61 : decode cX3_init 61 = .ok (.iconst 1, 1) := by decide +kernel
theorem dX3_init_62 : decode cX3_init 62 = .ok (.putfield 34, 3) := by decide +kernel
theorem dX3_init_65 : decode cX3_init 65 = .ok (.aload_n 0, 1) := by decide +kernel
theorem dX3_init_66 : decode cX3_init 66 = .ok (.iload_n 1, 1) := by decide +kernel
theorem dX3_init_67 : decode cX3_init 67 = .ok (.putfield 38, 3) := by decide +kernel
theorem dX3_init_70 : decode cX3_init 70 = .ok (.iconst 0, 1) := by decide +kernel
theorem dX3_init_71 : decode cX3_init 71 = .ok (.istore_n 2, 1) := by decide +kernel
theorem dX3_init_72 : decode cX3_init 72 = .ok (.iload_n 2, 1) := by decide +kernel
theorem dX3_init_73 : decode cX3_init 73 = .ok (.bipush 8, 2) := by decide +kernel
theorem dX3_init_75 : decode cX3_init 75 = .ok (.if_icmp .ge 31, 3) := by decide +kernel
theorem dX3_init_78 : decode cX3_init 78 = .ok (.aload_n 0, 1) := by decide +kernel
theorem dX3_init_79 : decode cX3_init 79 = .ok (.getfield 15, 3) := by decide +kernel
theorem dX3_init_82 : decode cX3_init 82 = .ok (.iload_n 2, 1) := by decide +kernel
theorem dX3_init_83 : decode cX3_init 83 = .ok (.iconst 5, 1) := by decide +kernel
theorem dX3_init_84 : decode cX3_init 84 = .ok (.iastore, 1) := by decide +kernel
theorem dX3_init_85 : decode cX3_init 85 = .ok (.aload_n 0, 1) := by decide +kernel
theorem dX3_init_86 : decode cX3_init 86 = .ok (.getfield 19, 3) := by decide +kernel
theorem dX3_init_89 : decode cX3_init 89 = .ok (.iload_n 2, 1) := by decide +kernel
theorem dX3_init_90 : decode cX3_init 90 = .ok (.bipush 8, 2) := by decide +kernel
theorem dX3_init_92 : decode cX3_init 92 = .ok (.iastore, 1) := by decide +kernel
theorem dX3_init_93 : decode cX3_init 93 = .ok (.aload_n 0, 1) := by decide +kernel
theorem dX3_init_94 : decode cX3_init 94 = .ok (.getfield 22, 3) := by decide +kernel
theorem dX3_init_97 : decode cX3_init 97 = .ok (.iload_n 2, 1) := by decide +kernel
theorem dX3_init_98 : decode cX3_init 98 = .ok (.iconst 2, 1) := by decide +kernel
theorem dX3_init_99 : decode cX3_init 99 = .ok (.iastore, 1) := by decide +kernel
theorem dX3_init_100 : decode cX3_init 100 = .ok (.iinc 2 1, 3) := by decide +kernel
theorem dX3_init_103 : decode cX3_init 103 = .ok (.goto (-31), 3) := by decide +kernel
theorem dX3_init_106 : decode cX3_init 106 = .ok (.return_, 1) := by decide +kernel
theorem dX3_hasStation_0 : decode cX3_hasStation 0 = .ok (.iload_n 1, 1) := by decide +kernel
theorem dX3_hasStation_1 : decode cX3_hasStation 1 = .ok (.ifCond .lt 15, 3) := by decide +kernel
theorem dX3_hasStation_4 : decode cX3_hasStation 4 = .ok (.iload_n 1, 1) := by decide +kernel
theorem dX3_hasStation_5 : decode cX3_hasStation 5 = .ok (.aload_n 0, 1) := by decide +kernel
theorem dX3_hasStation_6 : decode cX3_hasStation 6 = .ok (.getfield 38, 3) := by decide +kernel
theorem dX3_hasStation_9 : decode cX3_hasStation 9 = .ok (.if_icmp .ge 7, 3) := by decide +kernel
theorem dX3_hasStation_12 : decode cX3_hasStation 12 = .ok (.iconst 1, 1) := by decide +kernel
theorem dX3_hasStation_13 : decode cX3_hasStation 13 = .ok (.goto 4, 3) := by decide +kernel
theorem dX3_hasStation_16 : decode cX3_hasStation 16 = .ok (.iconst 0, 1) := by decide +kernel
theorem dX3_hasStation_17 : decode cX3_hasStation 17 = .ok (.ireturn, 1) := by decide +kernel
theorem dX3_hasSection_0 : decode cX3_hasSection 0 = .ok (.iload_n 1, 1) := by decide +kernel
theorem dX3_hasSection_1 : decode cX3_hasSection 1 = .ok (.ifCond .lt 17, 3) := by decide +kernel
theorem dX3_hasSection_4 : decode cX3_hasSection 4 = .ok (.iload_n 1, 1) := by decide +kernel
theorem dX3_hasSection_5 : decode cX3_hasSection 5 = .ok (.aload_n 0, 1) := by decide +kernel
theorem dX3_hasSection_6 : decode cX3_hasSection 6 = .ok (.getfield 38, 3) := by decide +kernel
theorem dX3_hasSection_9 : decode cX3_hasSection 9 = .ok (.iconst 1, 1) := by decide +kernel
theorem dX3_hasSection_10 : decode cX3_hasSection 10 = .ok (.isub, 1) := by decide +kernel
theorem dX3_hasSection_11 : decode cX3_hasSection 11 = .ok (.if_icmp .ge 7, 3) := by decide +kernel
theorem dX3_hasSection_14 : decode cX3_hasSection 14 = .ok (.iconst 1, 1) := by decide +kernel
theorem dX3_hasSection_15 : decode cX3_hasSection 15 = .ok (.goto 4, 3) := by decide +kernel
theorem dX3_hasSection_18 : decode cX3_hasSection 18 = .ok (.iconst 0, 1) := by decide +kernel
theorem dX3_hasSection_19 : decode cX3_hasSection 19 = .ok (.ireturn, 1) := by decide +kernel
theorem dX3_setSection_0 : decode cX3_setSection 0 = .ok (.aload_n 0, 1) := by decide +kernel
theorem dX3_setSection_1 : decode cX3_setSection 1 = .ok (.getfield 9, 3) := by decide +kernel
theorem dX3_setSection_4 : decode cX3_setSection 4 = .ok (.iload_n 1, 1) := by decide +kernel
theorem dX3_setSection_5 : decode cX3_setSection 5 = .ok (.iload_n 2, 1) := by decide +kernel
theorem dX3_setSection_6 : decode cX3_setSection 6 = .ok (.bastore, 1) := by decide +kernel
theorem dX3_setSection_7 : decode cX3_setSection 7 = .ok (.aload_n 0, 1) := by decide +kernel
theorem dX3_setSection_8 : decode cX3_setSection 8 = .ok (.getfield 15, 3) := by decide +kernel
theorem dX3_setSection_11 : decode cX3_setSection 11 = .ok (.iload_n 1, 1) := by decide +kernel
theorem dX3_setSection_12 : decode cX3_setSection 12 = .ok (.iload_n 3, 1) := by decide +kernel
theorem dX3_setSection_13 : decode cX3_setSection 13 = .ok (.iastore, 1) := by decide +kernel
theorem dX3_setSection_14 : decode cX3_setSection 14 = .ok (.aload_n 0, 1) := by decide +kernel
theorem dX3_setSection_15 : decode cX3_setSection 15 = .ok (.getfield 19, 3) := by decide +kernel
theorem dX3_setSection_18 : decode cX3_setSection 18 = .ok (.iload_n 1, 1) := by decide +kernel
theorem dX3_setSection_19 : decode cX3_setSection 19 = .ok (.iload 4, 2) := by decide +kernel
theorem dX3_setSection_21 : decode cX3_setSection 21 = .ok (.iastore, 1) := by decide +kernel
theorem dX3_setSection_22 : decode cX3_setSection 22 = .ok (.return_, 1) := by decide +kernel
theorem dX3_addWorks_0 : decode cX3_addWorks 0 = .ok (.aload_n 0, 1) := by decide +kernel
theorem dX3_addWorks_1 : decode cX3_addWorks 1 = .ok (.getfield 25, 3) := by decide +kernel
theorem dX3_addWorks_4 : decode cX3_addWorks 4 = .ok (.aload_n 0, 1) := by decide +kernel
theorem dX3_addWorks_5 : decode cX3_addWorks 5 = .ok (.getfield 41, 3) := by decide +kernel
theorem dX3_addWorks_8 : decode cX3_addWorks 8 = .ok (.iload_n 1, 1) := by decide +kernel
theorem dX3_addWorks_9 : decode cX3_addWorks 9 = .ok (.iastore, 1) := by decide +kernel
theorem dX3_addWorks_10 : decode cX3_addWorks 10 = .ok (.aload_n 0, 1) := by decide +kernel
theorem dX3_addWorks_11 : decode cX3_addWorks 11 = .ok (.getfield 28, 3) := by decide +kernel
theorem dX3_addWorks_14 : decode cX3_addWorks 14 = .ok (.aload_n 0, 1) := by decide +kernel
theorem dX3_addWorks_15 : decode cX3_addWorks 15 = .ok (.getfield 41, 3) := by decide +kernel
theorem dX3_addWorks_18 : decode cX3_addWorks 18 = .ok (.iload_n 2, 1) := by decide +kernel
theorem dX3_addWorks_19 : decode cX3_addWorks 19 = .ok (.iastore, 1) := by decide +kernel
theorem dX3_addWorks_20 : decode cX3_addWorks 20 = .ok (.aload_n 0, 1) := by decide +kernel
theorem dX3_addWorks_21 : decode cX3_addWorks 21 = .ok (.getfield 31, 3) := by decide +kernel
theorem dX3_addWorks_24 : decode cX3_addWorks 24 = .ok (.aload_n 0, 1) := by decide +kernel
theorem dX3_addWorks_25 : decode cX3_addWorks 25 = .ok (.getfield 41, 3) := by decide +kernel
theorem dX3_addWorks_28 : decode cX3_addWorks 28 = .ok (.iload_n 3, 1) := by decide +kernel
theorem dX3_addWorks_29 : decode cX3_addWorks 29 = .ok (.iastore, 1) := by decide +kernel
theorem dX3_addWorks_30 : decode cX3_addWorks 30 = .ok (.aload_n 0, 1) := by decide +kernel
theorem dX3_addWorks_31 : decode cX3_addWorks 31 = .ok (.dup, 1) := by decide +kernel
theorem dX3_addWorks_32 : decode cX3_addWorks 32 = .ok (.getfield 41, 3) := by decide +kernel
theorem dX3_addWorks_35 : decode cX3_addWorks 35 = .ok (.iconst 1, 1) := by decide +kernel
theorem dX3_addWorks_36 : decode cX3_addWorks 36 = .ok (.iadd, 1) := by decide +kernel
theorem dX3_addWorks_37 : decode cX3_addWorks 37 = .ok (.putfield 41, 3) := by decide +kernel
theorem dX3_addWorks_40 : decode cX3_addWorks 40 = .ok (.return_, 1) := by decide +kernel
theorem dX3_isClosed_0 : decode cX3_isClosed 0 = .ok (.iconst 0, 1) := by decide +kernel
theorem dX3_isClosed_1 : decode cX3_isClosed 1 = .ok (.istore_n 3, 1) := by decide +kernel
theorem dX3_isClosed_2 : decode cX3_isClosed 2 = .ok (.iload_n 3, 1) := by decide +kernel
theorem dX3_isClosed_3 : decode cX3_isClosed 3 = .ok (.aload_n 0, 1) := by decide +kernel
theorem dX3_isClosed_4 : decode cX3_isClosed 4 = .ok (.getfield 41, 3) := by decide +kernel
theorem dX3_isClosed_7 : decode cX3_isClosed 7 = .ok (.if_icmp .ge 41, 3) := by decide +kernel
theorem dX3_isClosed_10 : decode cX3_isClosed 10 = .ok (.aload_n 0, 1) := by decide +kernel
theorem dX3_isClosed_11 : decode cX3_isClosed 11 = .ok (.getfield 25, 3) := by decide +kernel
theorem dX3_isClosed_14 : decode cX3_isClosed 14 = .ok (.iload_n 3, 1) := by decide +kernel
theorem dX3_isClosed_15 : decode cX3_isClosed 15 = .ok (.iaload, 1) := by decide +kernel
theorem dX3_isClosed_16 : decode cX3_isClosed 16 = .ok (.iload_n 1, 1) := by decide +kernel
theorem dX3_isClosed_17 : decode cX3_isClosed 17 = .ok (.if_icmp .ne 25, 3) := by decide +kernel
theorem dX3_isClosed_20 : decode cX3_isClosed 20 = .ok (.iload_n 2, 1) := by decide +kernel
theorem dX3_isClosed_21 : decode cX3_isClosed 21 = .ok (.aload_n 0, 1) := by decide +kernel
theorem dX3_isClosed_22 : decode cX3_isClosed 22 = .ok (.getfield 28, 3) := by decide +kernel
theorem dX3_isClosed_25 : decode cX3_isClosed 25 = .ok (.iload_n 3, 1) := by decide +kernel
theorem dX3_isClosed_26 : decode cX3_isClosed 26 = .ok (.iaload, 1) := by decide +kernel
theorem dX3_isClosed_27 : decode cX3_isClosed 27 = .ok (.if_icmp .lt 15, 3) := by decide +kernel
theorem dX3_isClosed_30 : decode cX3_isClosed 30 = .ok (.iload_n 2, 1) := by decide +kernel
theorem dX3_isClosed_31 : decode cX3_isClosed 31 = .ok (.aload_n 0, 1) := by decide +kernel
theorem dX3_isClosed_32 : decode cX3_isClosed 32 = .ok (.getfield 31, 3) := by decide +kernel
theorem dX3_isClosed_35 : decode cX3_isClosed 35 = .ok (.iload_n 3, 1) := by decide +kernel
theorem dX3_isClosed_36 : decode cX3_isClosed 36 = .ok (.iaload, 1) := by decide +kernel
theorem dX3_isClosed_37 : decode cX3_isClosed 37 = .ok (.if_icmp .ge 5, 3) := by decide +kernel
theorem dX3_isClosed_40 : decode cX3_isClosed 40 = .ok (.iconst 1, 1) := by decide +kernel
theorem dX3_isClosed_41 : decode cX3_isClosed 41 = .ok (.ireturn, 1) := by decide +kernel
theorem dX3_isClosed_42 : decode cX3_isClosed 42 = .ok (.iinc 3 1, 3) := by decide +kernel
theorem dX3_isClosed_45 : decode cX3_isClosed 45 = .ok (.goto (-43), 3) := by decide +kernel
theorem dX3_isClosed_48 : decode cX3_isClosed 48 = .ok (.iconst 0, 1) := by decide +kernel
theorem dX3_isClosed_49 : decode cX3_isClosed 49 = .ok (.ireturn, 1) := by decide +kernel
theorem dX3_holdBehind_0 : decode cX3_holdBehind 0 = .ok (.iconst 0, 1) := by decide +kernel
theorem dX3_holdBehind_1 : decode cX3_holdBehind 1 = .ok (.aload_n 0, 1) := by decide +kernel
theorem dX3_holdBehind_2 : decode cX3_holdBehind 2 = .ok (.getfield 34, 3) := by decide +kernel
theorem dX3_holdBehind_5 : decode cX3_holdBehind 5 = .ok (.iconst 1, 1) := by decide +kernel
theorem dX3_holdBehind_6 : decode cX3_holdBehind 6 = .ok (.isub, 1) := by decide +kernel
theorem dX3_holdBehind_7 : decode cX3_holdBehind 7 = .ok (.invokestatic 44, 3) := by decide +kernel
theorem dX3_holdBehind_10 : decode cX3_holdBehind 10 = .ok (.ireturn, 1) := by decide +kernel
theorem dX3_isShared_0 : decode cX3_isShared 0 = .ok (.aload_n 0, 1) := by decide +kernel
theorem dX3_isShared_1 : decode cX3_isShared 1 = .ok (.getfield 9, 3) := by decide +kernel
theorem dX3_isShared_4 : decode cX3_isShared 4 = .ok (.iload_n 1, 1) := by decide +kernel
theorem dX3_isShared_5 : decode cX3_isShared 5 = .ok (.baload, 1) := by decide +kernel
theorem dX3_isShared_6 : decode cX3_isShared 6 = .ok (.ifCond .eq 14, 3) := by decide +kernel
theorem dX3_isShared_9 : decode cX3_isShared 9 = .ok (.aload_n 2, 1) := by decide +kernel
theorem dX3_isShared_10 : decode cX3_isShared 10 = .ok (.invokevirtual 50, 3) := by decide +kernel
theorem dX3_isShared_13 : decode cX3_isShared 13 = .ok (.aload_n 3, 1) := by decide +kernel
theorem dX3_isShared_14 : decode cX3_isShared 14 = .ok (.invokevirtual 50, 3) := by decide +kernel
theorem dX3_isShared_17 : decode cX3_isShared 17 = .ok (.if_icmp .ne 7, 3) := by decide +kernel
theorem dX3_isShared_20 : decode cX3_isShared 20 = .ok (.iconst 1, 1) := by decide +kernel
theorem dX3_isShared_21 : decode cX3_isShared 21 = .ok (.goto 4, 3) := by decide +kernel
theorem dX3_isShared_24 : decode cX3_isShared 24 = .ok (.iconst 0, 1) := by decide +kernel
theorem dX3_isShared_25 : decode cX3_isShared 25 = .ok (.ireturn, 1) := by decide +kernel
theorem dX3_lengthOf_0 : decode cX3_lengthOf 0 = .ok (.aload_n 1, 1) := by decide +kernel
theorem dX3_lengthOf_1 : decode cX3_lengthOf 1 = .ok (.iload_n 2, 1) := by decide +kernel
theorem dX3_lengthOf_2 : decode cX3_lengthOf 2 = .ok (.invokevirtual 56, 3) := by decide +kernel
theorem dX3_lengthOf_5 : decode cX3_lengthOf 5 = .ok (.istore_n 3, 1) := by decide +kernel
theorem dX3_lengthOf_6 : decode cX3_lengthOf 6 = .ok (.aload_n 1, 1) := by decide +kernel
theorem dX3_lengthOf_7 : decode cX3_lengthOf 7 = .ok (.getfield 60, 3) := by decide +kernel
theorem dX3_lengthOf_10 : decode cX3_lengthOf 10 = .ok (.ifCond .ne 12, 3) := by decide +kernel
theorem dX3_lengthOf_13 : decode cX3_lengthOf 13 = .ok (.aload_n 0, 1) := by decide +kernel
theorem dX3_lengthOf_14 : decode cX3_lengthOf 14 = .ok (.getfield 15, 3) := by decide +kernel
theorem dX3_lengthOf_17 : decode cX3_lengthOf 17 = .ok (.iload_n 3, 1) := by decide +kernel
theorem dX3_lengthOf_18 : decode cX3_lengthOf 18 = .ok (.iaload, 1) := by decide +kernel
theorem dX3_lengthOf_19 : decode cX3_lengthOf 19 = .ok (.goto 9, 3) := by decide +kernel
theorem dX3_lengthOf_22 : decode cX3_lengthOf 22 = .ok (.aload_n 0, 1) := by decide +kernel
theorem dX3_lengthOf_23 : decode cX3_lengthOf 23 = .ok (.getfield 19, 3) := by decide +kernel
theorem dX3_lengthOf_26 : decode cX3_lengthOf 26 = .ok (.iload_n 3, 1) := by decide +kernel
theorem dX3_lengthOf_27 : decode cX3_lengthOf 27 = .ok (.iaload, 1) := by decide +kernel
theorem dX3_lengthOf_28 : decode cX3_lengthOf 28 = .ok (.ireturn, 1) := by decide +kernel
theorem dX4_init_0 : decode cX4_init 0 = .ok (.aload_n 0, 1) := by decide +kernel
theorem dX4_init_1 : decode cX4_init 1 = .ok (.invokespecial 3, 3) := by decide +kernel
theorem dX4_init_4 : decode cX4_init 4 = .ok (.aload_n 0, 1) := by decide +kernel
theorem dX4_init_5 : decode cX4_init 5 = .ok (.sipush 1920, 3) := by decide +kernel
theorem dX4_init_8 : decode cX4_init 8 = .ok (.newarray .boolean, 2) := by decide +kernel
theorem dX4_init_10 : decode cX4_init 10 = .ok (.putfield 9, 3) := by decide +kernel
theorem dX4_init_13 : decode cX4_init 13 = .ok (.aload_n 0, 1) := by decide +kernel
theorem dX4_init_14 : decode cX4_init 14 = .ok (.sipush 240, 3) := by decide +kernel
theorem dX4_init_17 : decode cX4_init 17 = .ok (.newarray .boolean, 2) := by decide +kernel
theorem dX4_init_19 : decode cX4_init 19 = .ok (.putfield 15, 3) := by decide +kernel
theorem dX4_init_22 : decode cX4_init 22 = .ok (.aload_n 0, 1) := by decide +kernel
theorem dX4_init_23 : decode cX4_init 23 = .ok (.sipush 240, 3) := by decide +kernel
theorem dX4_init_26 : decode cX4_init 26 = .ok (.newarray .int, 2) := by decide +kernel
theorem dX4_init_28 : decode cX4_init 28 = .ok (.putfield 18, 3) := by decide +kernel
theorem dX4_init_31 : decode cX4_init 31 = .ok (.aload_n 0, 1) := by decide +kernel
theorem dX4_init_32 : decode cX4_init 32 = .ok (.bipush 8, 2) := by decide +kernel
theorem dX4_init_34 : decode cX4_init 34 = .ok (.newarray .int, 2) := by decide +kernel
theorem dX4_init_36 : decode cX4_init 36 = .ok (.putfield 22, 3) := by decide +kernel
theorem dX4_init_39 : decode cX4_init 39 = .ok (.aload_n 0, 1) := by decide +kernel
theorem dX4_init_40 : decode cX4_init 40 = .ok (.bipush 8, 2) := by decide +kernel
theorem dX4_init_42 : decode cX4_init 42 = .ok (.newarray .int, 2) := by decide +kernel
theorem dX4_init_44 : decode cX4_init 44 = .ok (.putfield 25, 3) := by decide +kernel
theorem dX4_init_47 : decode cX4_init 47 = .ok (.aload_n 0, 1) := by decide +kernel
theorem dX4_init_48 : decode cX4_init 48 = .ok (.aload_n 1, 1) := by decide +kernel
theorem dX4_init_49 : decode cX4_init 49 = .ok (.putfield 28, 3) := by decide +kernel
theorem dX4_init_52 : decode cX4_init 52 = .ok (.aload_n 0, 1) := by decide +kernel
theorem dX4_init_53 : decode cX4_init 53 = .ok (.aload_n 2, 1) := by decide +kernel
theorem dX4_init_54 : decode cX4_init 54 = .ok (.putfield 32, 3) := by decide +kernel
theorem dX4_init_57 : decode cX4_init 57 = .ok (.return_, 1) := by decide +kernel
theorem dX4_endFor_0 : decode cX4_endFor 0 = .ok (.aload_n 1, 1) := by decide +kernel
theorem dX4_endFor_1 : decode cX4_endFor 1 = .ok (.getfield 36, 3) := by decide +kernel
theorem dX4_endFor_4 : decode cX4_endFor 4 = .ok (.aload_n 1, 1) := by decide +kernel
theorem dX4_endFor_5 : decode cX4_endFor 5 = .ok (.getfield 42, 3) := by decide +kernel
theorem dX4_endFor_8 : decode cX4_endFor 8 = .ok (.if_icmp .le 5, 3) := by decide +kernel
theorem dX4_endFor_11 : decode cX4_endFor 11 = .ok (.iconst (-1), 1) := by decide +kernel
theorem dX4_endFor_12 : decode cX4_endFor 12 = .ok (.ireturn, 1) := by decide +kernel
theorem dX4_endFor_13 : decode cX4_endFor 13 = .ok (.aload_n 1, 1) := by decide +kernel
theorem dX4_endFor_14 : decode cX4_endFor 14 = .ok (.invokevirtual 45, 3) := by decide +kernel
theorem dX4_endFor_17 : decode cX4_endFor 17 = .ok (.istore_n 2, 1) := by decide +kernel
theorem dX4_endFor_18 : decode cX4_endFor 18 = .ok (.iconst 0, 1) := by decide +kernel
theorem dX4_endFor_19 : decode cX4_endFor 19 = .ok (.istore_n 3, 1) := by decide +kernel
theorem dX4_endFor_20 : decode cX4_endFor 20 = .ok (.iload_n 3, 1) := by decide +kernel
theorem dX4_endFor_21 : decode cX4_endFor 21 = .ok (.iload_n 2, 1) := by decide +kernel
theorem dX4_endFor_22 : decode cX4_endFor 22 = .ok (.if_icmp .ge 46, 3) := by decide +kernel
theorem dX4_endFor_25 : decode cX4_endFor 25 = .ok (.aload_n 0, 1) := by decide +kernel
theorem dX4_endFor_26 : decode cX4_endFor 26 = .ok (.aload_n 1, 1) := by decide +kernel
theorem dX4_endFor_27 : decode cX4_endFor 27 = .ok (.invokevirtual 49, 3) := by decide +kernel
theorem dX4_endFor_30 : decode cX4_endFor 30 = .ok (.aload_n 0, 1) := by decide +kernel
theorem dX4_endFor_31 : decode cX4_endFor 31 = .ok (.aload_n 1, 1) := by decide +kernel
theorem dX4_endFor_32 : decode cX4_endFor 32 = .ok (.iload_n 3, 1) := by decide +kernel
theorem dX4_endFor_33 : decode cX4_endFor 33 = .ok (.invokevirtual 53, 3) := by decide +kernel
theorem dX4_endFor_36 : decode cX4_endFor 36 = .ok (.aload_n 0, 1) := by decide +kernel
theorem dX4_endFor_37 : decode cX4_endFor 37 = .ok (.aload_n 1, 1) := by decide +kernel
theorem dX4_endFor_38 : decode cX4_endFor 38 = .ok (.iload_n 3, 1) := by decide +kernel
theorem dX4_endFor_39 : decode cX4_endFor 39 = .ok (.invokevirtual 57, 3) := by decide +kernel
theorem dX4_endFor_42 : decode cX4_endFor 42 = .ok (.aload_n 0, 1) := by decide +kernel
theorem dX4_endFor_43 : decode cX4_endFor 43 = .ok (.aload_n 1, 1) := by decide +kernel
theorem dX4_endFor_44 : decode cX4_endFor 44 = .ok (.iload_n 3, 1) := by decide +kernel
theorem dX4_endFor_45 : decode cX4_endFor 45 = .ok (.invokevirtual 60, 3) := by decide +kernel
theorem dX4_endFor_48 : decode cX4_endFor 48 = .ok (.aload_n 0, 1) := by decide +kernel
theorem dX4_endFor_49 : decode cX4_endFor 49 = .ok (.aload_n 1, 1) := by decide +kernel
theorem dX4_endFor_50 : decode cX4_endFor 50 = .ok (.iload_n 3, 1) := by decide +kernel
theorem dX4_endFor_51 : decode cX4_endFor 51 = .ok (.iconst 1, 1) := by decide +kernel
theorem dX4_endFor_52 : decode cX4_endFor 52 = .ok (.iadd, 1) := by decide +kernel
theorem dX4_endFor_53 : decode cX4_endFor 53 = .ok (.invokevirtual 63, 3) := by decide +kernel
theorem dX4_endFor_56 : decode cX4_endFor 56 = .ok (.aload_n 0, 1) := by decide +kernel
theorem dX4_endFor_57 : decode cX4_endFor 57 = .ok (.aload_n 1, 1) := by decide +kernel
theorem dX4_endFor_58 : decode cX4_endFor 58 = .ok (.iload_n 3, 1) := by decide +kernel
theorem dX4_endFor_59 : decode cX4_endFor 59 = .ok (.invokevirtual 66, 3) := by decide +kernel
theorem dX4_endFor_62 : decode cX4_endFor 62 = .ok (.iinc 3 1, 3) := by decide +kernel
theorem dX4_endFor_65 : decode cX4_endFor 65 = .ok (.goto (-45), 3) := by decide +kernel
theorem dX4_endFor_68 : decode cX4_endFor 68 = .ok (.aload_n 1, 1) := by decide +kernel
theorem dX4_endFor_69 : decode cX4_endFor 69 = .ok (.getfield 36, 3) := by decide +kernel
theorem dX4_endFor_72 : decode cX4_endFor 72 = .ok (.istore_n 3, 1) := by decide +kernel
theorem dX4_endFor_73 : decode cX4_endFor 73 = .ok (.iload_n 3, 1) := by decide +kernel
theorem dX4_endFor_74 : decode cX4_endFor 74 = .ok (.aload_n 1, 1) := by decide +kernel
theorem dX4_endFor_75 : decode cX4_endFor 75 = .ok (.getfield 42, 3) := by decide +kernel
theorem dX4_endFor_78 : decode cX4_endFor 78 = .ok (.if_icmp .gt 32, 3) := by decide +kernel
theorem dX4_endFor_81 : decode cX4_endFor 81 = .ok (.aload_n 0, 1) := by decide +kernel
theorem dX4_endFor_82 : decode cX4_endFor 82 = .ok (.getfield 9, 3) := by decide +kernel
theorem dX4_endFor_85 : decode cX4_endFor 85 = .ok (.iload_n 2, 1) := by decide +kernel
theorem dX4_endFor_86 : decode cX4_endFor 86 = .ok (.sipush 240, 3) := by decide +kernel
theorem dX4_endFor_89 : decode cX4_endFor 89 = .ok (.imul, 1) := by decide +kernel
theorem dX4_endFor_90 : decode cX4_endFor 90 = .ok (.iload_n 3, 1) := by decide +kernel
theorem dX4_endFor_91 : decode cX4_endFor 91 = .ok (.iadd, 1) := by decide +kernel
theorem dX4_endFor_92 : decode cX4_endFor 92 = .ok (.baload, 1) := by decide +kernel
theorem dX4_endFor_93 : decode cX4_endFor 93 = .ok (.ifCond .eq 11, 3) := by decide +kernel
theorem dX4_endFor_96 : decode cX4_endFor 96 = .ok (.aload_n 0, 1) := by decide +kernel
theorem dX4_endFor_97 : decode cX4_endFor 97 = .ok (.aload_n 1, 1) := by decide +kernel
theorem dX4_endFor_98 : decode cX4_endFor 98 = .ok (.iload_n 3, 1) := by decide +kernel
theorem dX4_endFor_99 : decode cX4_endFor 99 = .ok (.invokevirtual 69, 3) := by decide +kernel
theorem dX4_endFor_102 : decode cX4_endFor 102 = .ok (.iload_n 3, 1) := by decide +kernel
theorem dX4_endFor_103 : decode cX4_endFor 103 = .ok (.ireturn, 1) := by decide +kernel
theorem dX4_endFor_104 : decode cX4_endFor 104 = .ok (.iinc 3 1, 3) := by decide +kernel
theorem dX4_endFor_107 : decode cX4_endFor 107 = .ok (.goto (-34), 3) := by decide +kernel
theorem dX4_endFor_110 : decode cX4_endFor 110 = .ok (.iconst (-1), 1) := by decide +kernel
theorem dX4_endFor_111 : decode cX4_endFor 111 = .ok (.ireturn, 1) := by decide +kernel
theorem dX4_clearComings_0 : decode cX4_clearComings 0 = .ok (.aload_n 1, 1) := by decide +kernel
theorem dX4_clearComings_1 : decode cX4_clearComings 1 = .ok (.getfield 36, 3) := by decide +kernel
theorem dX4_clearComings_4 : decode cX4_clearComings 4 = .ok (.istore_n 3, 1) := by decide +kernel
theorem dX4_clearComings_5 : decode cX4_clearComings 5 = .ok (.iload_n 3, 1) := by decide +kernel
theorem dX4_clearComings_6 : decode cX4_clearComings 6 = .ok (.aload_n 1, 1) := by decide +kernel
theorem dX4_clearComings_7 : decode cX4_clearComings 7 = .ok (.getfield 42, 3) := by decide +kernel
theorem dX4_clearComings_10 : decode cX4_clearComings 10 = .ok (.if_icmp .gt 22, 3) := by decide +kernel
theorem dX4_clearComings_13 : decode cX4_clearComings 13 = .ok (.aload_n 0, 1) := by decide +kernel
theorem dX4_clearComings_14 : decode cX4_clearComings 14 = .ok (.getfield 9, 3) := by decide +kernel
theorem dX4_clearComings_17 : decode cX4_clearComings 17 = .ok (.iload_n 2, 1) := by decide +kernel
theorem dX4_clearComings_18 : decode cX4_clearComings 18 = .ok (.sipush 240, 3) := by decide +kernel
theorem dX4_clearComings_21 : decode cX4_clearComings 21 = .ok (.imul, 1) := by decide +kernel
theorem dX4_clearComings_22 : decode cX4_clearComings 22 = .ok (.iload_n 3, 1) := by decide +kernel
theorem dX4_clearComings_23 : decode cX4_clearComings 23 = .ok (.iadd, 1) := by decide +kernel
theorem dX4_clearComings_24 : decode cX4_clearComings 24 = .ok (.iconst 0, 1) := by decide +kernel
theorem dX4_clearComings_25 : decode cX4_clearComings 25 = .ok (.bastore, 1) := by decide +kernel
theorem dX4_clearComings_26 : decode cX4_clearComings 26 = .ok (.iinc 3 1, 3) := by decide +kernel
theorem dX4_clearComings_29 : decode cX4_clearComings 29 = .ok (.goto (-24), 3) := by decide +kernel
theorem dX4_clearComings_32 : decode cX4_clearComings 32 = .ok (.return_, 1) := by decide +kernel
theorem dX4_clearMinutes_0 : decode cX4_clearMinutes 0 = .ok (.aload_n 1, 1) := by decide +kernel
theorem dX4_clearMinutes_1 : decode cX4_clearMinutes 1 = .ok (.getfield 36, 3) := by decide +kernel
theorem dX4_clearMinutes_4 : decode cX4_clearMinutes 4 = .ok (.istore_n 2, 1) := by decide +kernel
theorem dX4_clearMinutes_5 : decode cX4_clearMinutes 5 = .ok (.iload_n 2, 1) := by decide +kernel
theorem dX4_clearMinutes_6 : decode cX4_clearMinutes 6 = .ok (.aload_n 1, 1) := by decide +kernel
theorem dX4_clearMinutes_7 : decode cX4_clearMinutes 7 = .ok (.getfield 42, 3) := by decide +kernel
theorem dX4_clearMinutes_10 : decode cX4_clearMinutes 10 = .ok (.if_icmp .gt 23, 3) := by decide +kernel
theorem dX4_clearMinutes_13 : decode cX4_clearMinutes 13 = .ok (.aload_n 0, 1) := by decide +kernel
theorem dX4_clearMinutes_14 : decode cX4_clearMinutes 14 = .ok (.getfield 15, 3) := by decide +kernel
theorem dX4_clearMinutes_17 : decode cX4_clearMinutes 17 = .ok (.iload_n 2, 1) := by decide +kernel
theorem dX4_clearMinutes_18 : decode cX4_clearMinutes 18 = .ok (.iconst 0, 1) := by decide +kernel
theorem dX4_clearMinutes_19 : decode cX4_clearMinutes 19 = .ok (.bastore, 1) := by decide +kernel
theorem dX4_clearMinutes_20 : decode cX4_clearMinutes 20 = .ok (.aload_n 0, 1) := by decide +kernel
theorem dX4_clearMinutes_21 : decode cX4_clearMinutes 21 = .ok (.getfield 18, 3) := by decide +kernel
theorem dX4_clearMinutes_24 : decode cX4_clearMinutes 24 = .ok (.iload_n 2, 1) := by decide +kernel
theorem dX4_clearMinutes_25 : decode cX4_clearMinutes 25 = .ok (.iconst 0, 1) := by decide +kernel
theorem dX4_clearMinutes_26 : decode cX4_clearMinutes 26 = .ok (.iastore, 1) := by decide +kernel
theorem dX4_clearMinutes_27 : decode cX4_clearMinutes 27 = .ok (.iinc 2 1, 3) := by decide +kernel
theorem dX4_clearMinutes_30 : decode cX4_clearMinutes 30 = .ok (.goto (-25), 3) := by decide +kernel
theorem dX4_clearMinutes_33 : decode cX4_clearMinutes 33 = .ok (.return_, 1) := by decide +kernel
theorem dX4_blockByWorks_0 : decode cX4_blockByWorks 0 = .ok (.aload_n 1, 1) := by decide +kernel
theorem dX4_blockByWorks_1 : decode cX4_blockByWorks 1 = .ok (.iload_n 2, 1) := by decide +kernel
theorem dX4_blockByWorks_2 : decode cX4_blockByWorks 2 = .ok (.invokevirtual 72, 3) := by decide +kernel
theorem dX4_blockByWorks_5 : decode cX4_blockByWorks 5 = .ok (.istore_n 3, 1) := by decide +kernel
theorem dX4_blockByWorks_6 : decode cX4_blockByWorks 6 = .ok (.aload_n 0, 1) := by decide +kernel
theorem dX4_blockByWorks_7 : decode cX4_blockByWorks 7 = .ok (.getfield 28, 3) := by decide +kernel
theorem dX4_blockByWorks_10 : decode cX4_blockByWorks 10 = .ok (.aload_n 1, 1) := by decide +kernel
theorem dX4_blockByWorks_11 : decode cX4_blockByWorks 11 = .ok (.iload_n 2, 1) := by decide +kernel
theorem dX4_blockByWorks_12 : decode cX4_blockByWorks 12 = .ok (.invokevirtual 76, 3) := by decide +kernel
theorem dX4_blockByWorks_15 : decode cX4_blockByWorks 15 = .ok (.istore 4, 2) := by decide +kernel
theorem dX4_blockByWorks_17 : decode cX4_blockByWorks 17 = .ok (.iconst 0, 1) := by decide +kernel
theorem dX4_blockByWorks_18 : decode cX4_blockByWorks 18 = .ok (.istore 5, 2) := by decide +kernel
theorem dX4_blockByWorks_20 : decode cX4_blockByWorks 20 = .ok (.iload 5, 2) := by decide +kernel
theorem dX4_blockByWorks_22 : decode cX4_blockByWorks 22 = .ok (.aload_n 0, 1) := by decide +kernel
theorem dX4_blockByWorks_23 : decode cX4_blockByWorks 23 = .ok (.getfield 28, 3) := by decide +kernel
theorem dX4_blockByWorks_26 : decode cX4_blockByWorks 26 = .ok (.getfield 82, 3) := by decide +kernel
theorem dX4_blockByWorks_29 : decode cX4_blockByWorks 29 = .ok (.if_icmp .ge 54, 3) := by decide +kernel
theorem dX4_blockByWorks_32 : decode cX4_blockByWorks 32 = .ok (.aload_n 0, 1) := by decide +kernel
theorem dX4_blockByWorks_33 : decode cX4_blockByWorks 33 = .ok (.getfield 28, 3) := by decide +kernel
theorem dX4_blockByWorks_36 : decode cX4_blockByWorks 36 = .ok (.getfield 85, 3) := by decide +kernel
theorem dX4_blockByWorks_39 : decode cX4_blockByWorks 39 = .ok (.iload 5, 2) := by decide +kernel
theorem dX4_blockByWorks_41 : decode cX4_blockByWorks 41 = .ok (.iaload, 1) := by decide +kernel
theorem dX4_blockByWorks_42 : decode cX4_blockByWorks 42 = .ok (.iload_n 3, 1) := by decide +kernel
theorem dX4_blockByWorks_43 : decode cX4_blockByWorks 43 = .ok (.if_icmp .ne 34, 3) := by decide +kernel
theorem dX4_blockByWorks_46 : decode cX4_blockByWorks 46 = .ok (.aload_n 0, 1) := by decide +kernel
theorem dX4_blockByWorks_47 : decode cX4_blockByWorks 47 = .ok (.aload_n 0, 1) := by decide +kernel
theorem dX4_blockByWorks_48 : decode cX4_blockByWorks 48 = .ok (.getfield 28, 3) := by decide +kernel
theorem dX4_blockByWorks_51 : decode cX4_blockByWorks 51 = .ok (.getfield 88, 3) := by decide +kernel
theorem dX4_blockByWorks_54 : decode cX4_blockByWorks 54 = .ok (.iload 5, 2) := by decide +kernel
theorem dX4_blockByWorks_56 : decode cX4_blockByWorks 56 = .ok (.iaload, 1) := by decide +kernel
theorem dX4_blockByWorks_57 : decode cX4_blockByWorks 57 = .ok (.iload 4, 2) := by decide +kernel
theorem dX4_blockByWorks_59 : decode cX4_blockByWorks 59 = .ok (.isub, 1) := by decide +kernel
theorem dX4_blockByWorks_60 : decode cX4_blockByWorks 60 = .ok (.iconst 1, 1) := by decide +kernel
theorem dX4_blockByWorks_61 : decode cX4_blockByWorks 61 = .ok (.iadd, 1) := by decide +kernel
theorem dX4_blockByWorks_62 : decode cX4_blockByWorks 62 = .ok (.aload_n 0, 1) := by decide +kernel
theorem dX4_blockByWorks_63 : decode cX4_blockByWorks 63 = .ok (.getfield 28, 3) := by decide +kernel
theorem dX4_blockByWorks_66 : decode cX4_blockByWorks 66 = .ok (.getfield 91, 3) := by decide +kernel
theorem dX4_blockByWorks_69 : decode cX4_blockByWorks 69 = .ok (.iload 5, 2) := by decide +kernel
theorem dX4_blockByWorks_71 : decode cX4_blockByWorks 71 = .ok (.iaload, 1) := by decide +kernel
theorem dX4_blockByWorks_72 : decode cX4_blockByWorks 72 = .ok (.iconst 1, 1) := by decide +kernel
theorem dX4_blockByWorks_73 : decode cX4_blockByWorks 73 = .ok (.isub, 1) := by decide +kernel
theorem dX4_blockByWorks_74 : decode cX4_blockByWorks 74 = .ok (.invokevirtual 94, 3) := by decide +kernel
theorem dX4_blockByWorks_77 : decode cX4_blockByWorks 77 = .ok (.iinc 5 1, 3) := by decide +kernel
theorem dX4_blockByWorks_80 : decode cX4_blockByWorks 80 = .ok (.goto (-60), 3) := by decide +kernel
theorem dX4_blockByWorks_83 : decode cX4_blockByWorks 83 = .ok (.return_, 1) := by decide +kernel
theorem dX4_blockByOthers_0 : decode cX4_blockByOthers 0 = .ok (.aload_n 1, 1) := by decide +kernel
theorem dX4_blockByOthers_1 : decode cX4_blockByOthers 1 = .ok (.iload_n 2, 1) := by decide +kernel
theorem dX4_blockByOthers_2 : decode cX4_blockByOthers 2 = .ok (.invokevirtual 72, 3) := by decide +kernel
theorem dX4_blockByOthers_5 : decode cX4_blockByOthers 5 = .ok (.istore_n 3, 1) := by decide +kernel
theorem dX4_blockByOthers_6 : decode cX4_blockByOthers 6 = .ok (.aload_n 0, 1) := by decide +kernel
theorem dX4_blockByOthers_7 : decode cX4_blockByOthers 7 = .ok (.getfield 28, 3) := by decide +kernel
theorem dX4_blockByOthers_10 : decode cX4_blockByOthers 10 = .ok (.aload_n 1, 1) := by decide +kernel
theorem dX4_blockByOthers_11 : decode cX4_blockByOthers 11 = .ok (.iload_n 2, 1) := by decide +kernel
theorem dX4_blockByOthers_12 : decode cX4_blockByOthers 12 = .ok (.invokevirtual 76, 3) := by decide +kernel
theorem dX4_blockByOthers_15 : decode cX4_blockByOthers 15 = .ok (.istore 4, 2) := by decide +kernel
theorem dX4_blockByOthers_17 : decode cX4_blockByOthers 17 = .ok (.aload_n 0, 1) := by decide +kernel
theorem dX4_blockByOthers_18 : decode cX4_blockByOthers 18 = .ok (.getfield 28, 3) := by decide +kernel
theorem dX4_blockByOthers_21 : decode cX4_blockByOthers 21 = .ok (.invokevirtual 98, 3) := by decide +kernel
theorem dX4_blockByOthers_24 : decode cX4_blockByOthers 24 = .ok (.istore 5, 2) := by decide +kernel
theorem dX4_blockByOthers_26 : decode cX4_blockByOthers 26 = .ok (.iconst 0, 1) := by decide +kernel
theorem dX4_blockByOthers_27 : decode cX4_blockByOthers 27 = .ok (.istore 6, 2) := by decide +kernel
theorem dX4_blockByOthers_29 : decode cX4_blockByOthers 29 = .ok (.iload 6, 2) := by decide +kernel
theorem dX4_blockByOthers_31 : decode cX4_blockByOthers 31 = .ok (.aload_n 0, 1) := by decide +kernel
theorem dX4_blockByOthers_32 : decode cX4_blockByOthers 32 = .ok (.getfield 32, 3) := by decide +kernel
theorem dX4_blockByOthers_35 : decode cX4_blockByOthers 35 = .ok (.getfield 101, 3) := by decide +kernel
theorem dX4_blockByOthers_38 : decode cX4_blockByOthers 38 = .ok (.invokevirtual 107, 3) := by decide +kernel
theorem dX4_blockByOthers_41 : decode cX4_blockByOthers 41 = .ok (.if_icmp .ge 107, 3) := by decide +kernel
theorem dX4_blockByOthers_44 : decode cX4_blockByOthers 44 = .ok (.aload_n 0, 1) := by decide +kernel
theorem dX4_blockByOthers_45 : decode cX4_blockByOthers 45 = .ok (.getfield 32, 3) := by decide +kernel
theorem dX4_blockByOthers_48 : decode cX4_blockByOthers 48 = .ok (.getfield 101, 3) := by decide +kernel
theorem dX4_blockByOthers_51 : decode cX4_blockByOthers 51 = .ok (.iload 6, 2) := by decide +kernel
theorem dX4_blockByOthers_53 : decode cX4_blockByOthers 53 = .ok (.invokevirtual 112, 3) := by decide +kernel
theorem dX4_blockByOthers_56 : decode cX4_blockByOthers 56 = .ok (.checkcast 37, 3) := by decide +kernel
theorem dX4_blockByOthers_59 : decode cX4_blockByOthers 59 = .ok (.astore 7, 2) := by decide +kernel
theorem dX4_blockByOthers_61 : decode cX4_blockByOthers 61 = .ok (.aload 7, 2) := by decide +kernel
theorem dX4_blockByOthers_63 : decode cX4_blockByOthers 63 = .ok (.iload_n 3, 1) := by decide +kernel
theorem dX4_blockByOthers_64 : decode cX4_blockByOthers 64 = .ok (.invokevirtual 116, 3) := by decide +kernel
theorem dX4_blockByOthers_67 : decode cX4_blockByOthers 67 = .ok (.istore 8, 2) := by decide +kernel
theorem dX4_blockByOthers_69 : decode cX4_blockByOthers 69 = .ok (.aload 7, 2) := by decide +kernel
theorem dX4_blockByOthers_71 : decode cX4_blockByOthers 71 = .ok (.aload_n 1, 1) := by decide +kernel
theorem dX4_blockByOthers_72 : decode cX4_blockByOthers 72 = .ok (.if_acmp .eq 70, 3) := by decide +kernel
theorem dX4_blockByOthers_75 : decode cX4_blockByOthers 75 = .ok (.aload 7, 2) := by decide +kernel
theorem dX4_blockByOthers_77 : decode cX4_blockByOthers 77 = .ok (.getfield 119, 3) := by decide +kernel
theorem dX4_blockByOthers_80 : decode cX4_blockByOthers 80 = .ok (.ifCond .eq 62, 3) := by decide +kernel
theorem dX4_blockByOthers_83 : decode cX4_blockByOthers 83 = .ok (.iload 8, 2) := by decide +kernel
theorem dX4_blockByOthers_85 : decode cX4_blockByOthers 85 = .ok (.iconst (-1), 1) := by decide +kernel
theorem dX4_blockByOthers_86 : decode cX4_blockByOthers 86 = .ok (.if_icmp .eq 56, 3) := by decide +kernel
theorem dX4_blockByOthers_89 : decode cX4_blockByOthers 89 = .ok (.aload_n 0, 1) := by decide +kernel
theorem dX4_blockByOthers_90 : decode cX4_blockByOthers 90 = .ok (.getfield 28, 3) := by decide +kernel
theorem dX4_blockByOthers_93 : decode cX4_blockByOthers 93 = .ok (.iload_n 3, 1) := by decide +kernel
theorem dX4_blockByOthers_94 : decode cX4_blockByOthers 94 = .ok (.aload_n 1, 1) := by decide +kernel
theorem dX4_blockByOthers_95 : decode cX4_blockByOthers 95 = .ok (.aload 7, 2) := by decide +kernel
theorem dX4_blockByOthers_97 : decode cX4_blockByOthers 97 = .ok (.invokevirtual 123, 3) := by decide +kernel
theorem dX4_blockByOthers_100 : decode cX4_blockByOthers 100 = .ok (.ifCond .eq 42, 3) := by decide +kernel
theorem dX4_blockByOthers_103 : decode cX4_blockByOthers 103 = .ok (.aload 7, 2) := by decide +kernel
theorem dX4_blockByOthers_105 : decode cX4_blockByOthers 105 = .ok (.getfield 127, 3) := by decide +kernel
theorem dX4_blockByOthers_108 : decode cX4_blockByOthers 108 = .ok (.iload 8, 2) := by decide +kernel
theorem dX4_blockByOthers_110 : decode cX4_blockByOthers 110 = .ok (.iaload, 1) := by decide +kernel
theorem dX4_blockByOthers_111 : decode cX4_blockByOthers 111 = .ok (.iload 4, 2) := by decide +kernel
theorem dX4_blockByOthers_113 : decode cX4_blockByOthers 113 = .ok (.isub, 1) := by decide +kernel
theorem dX4_blockByOthers_114 : decode cX4_blockByOthers 114 = .ok (.iload 5, 2) := by decide +kernel
theorem dX4_blockByOthers_116 : decode cX4_blockByOthers 116 = .ok (.isub, 1) := by decide +kernel
theorem dX4_blockByOthers_117 : decode cX4_blockByOthers 117 = .ok (.istore 9, 2) := by decide +kernel
theorem dX4_blockByOthers_119 : decode cX4_blockByOthers 119 = .ok (.aload_n 0, 1) := by decide +kernel
theorem dX4_blockByOthers_120 : decode cX4_blockByOthers 120 = .ok (.iload 9, 2) := by decide +kernel
theorem dX4_blockByOthers_122 : decode cX4_blockByOthers 122 = .ok (.iconst 1, 1) := by decide +kernel
theorem dX4_blockByOthers_123 : decode cX4_blockByOthers 123 = .ok (.iadd, 1) := by decide +kernel
theorem dX4_blockByOthers_124 : decode cX4_blockByOthers 124 = .ok (.aload 7, 2) := by decide +kernel
theorem dX4_blockByOthers_126 : decode cX4_blockByOthers 126 = .ok (.getfield 128, 3) := by decide +kernel
theorem dX4_blockByOthers_129 : decode cX4_blockByOthers 129 = .ok (.iload 8, 2) := by decide +kernel
theorem dX4_blockByOthers_131 : decode cX4_blockByOthers 131 = .ok (.iconst 1, 1) := by decide +kernel
theorem dX4_blockByOthers_132 : decode cX4_blockByOthers 132 = .ok (.iadd, 1) := by decide +kernel
theorem dX4_blockByOthers_133 : decode cX4_blockByOthers 133 = .ok (.iaload, 1) := by decide +kernel
theorem dX4_blockByOthers_134 : decode cX4_blockByOthers 134 = .ok (.iconst 1, 1) := by decide +kernel
theorem dX4_blockByOthers_135 : decode cX4_blockByOthers 135 = .ok (.isub, 1) := by decide +kernel
theorem dX4_blockByOthers_136 : decode cX4_blockByOthers 136 = .ok (.iload 5, 2) := by decide +kernel
theorem dX4_blockByOthers_138 : decode cX4_blockByOthers 138 = .ok (.iadd, 1) := by decide +kernel
theorem dX4_blockByOthers_139 : decode cX4_blockByOthers 139 = .ok (.invokevirtual 94, 3) := by decide +kernel
theorem dX4_blockByOthers_142 : decode cX4_blockByOthers 142 = .ok (.iinc 6 1, 3) := by decide +kernel
theorem dX4_blockByOthers_145 : decode cX4_blockByOthers 145 = .ok (.goto (-116), 3) := by decide +kernel
theorem dX4_blockByOthers_148 : decode cX4_blockByOthers 148 = .ok (.return_, 1) := by decide +kernel
theorem dX4_block_0 : decode cX4_block 0 = .ok (.iload_n 2, 1) := by decide +kernel
theorem dX4_block_1 : decode cX4_block 1 = .ok (.sipush 239, 3) := by decide +kernel
theorem dX4_block_4 : decode cX4_block 4 = .ok (.invokestatic 129, 3) := by decide +kernel
theorem dX4_block_7 : decode cX4_block 7 = .ok (.istore_n 3, 1) := by decide +kernel
theorem dX4_block_8 : decode cX4_block 8 = .ok (.iload_n 1, 1) := by decide +kernel
theorem dX4_block_9 : decode cX4_block 9 = .ok (.iconst 0, 1) := by decide +kernel
theorem dX4_block_10 : decode cX4_block 10 = .ok (.invokestatic 135, 3) := by decide +kernel
theorem dX4_block_13 : decode cX4_block 13 = .ok (.istore 4, 2) := by decide +kernel
theorem dX4_block_15 : decode cX4_block 15 = .ok (.iload 4, 2) := by decide +kernel
theorem dX4_block_17 : decode cX4_block 17 = .ok (.iload_n 3, 1) := by decide +kernel
theorem dX4_block_18 : decode cX4_block 18 = .ok (.if_icmp .gt 17, 3) := by decide +kernel
theorem dX4_block_21 : decode cX4_block 21 = .ok (.aload_n 0, 1) := by decide +kernel
theorem dX4_block_22 : decode cX4_block 22 = .ok (.getfield 15, 3) := by decide +kernel
theorem dX4_block_25 : decode cX4_block 25 = .ok (.iload 4, 2) := by decide +kernel
theorem dX4_block_27 : decode cX4_block 27 = .ok (.iconst 1, 1) := by decide +kernel
theorem dX4_block_28 : decode cX4_block 28 = .ok (.bastore, 1) := by decide +kernel
theorem dX4_block_29 : decode cX4_block 29 = .ok (.iinc 4 1, 3) := by decide +kernel
theorem dX4_block_32 : decode cX4_block 32 = .ok (.goto (-17), 3) := by decide +kernel
theorem dX4_block_35 : decode cX4_block 35 = .ok (.return_, 1) := by decide +kernel
theorem dX4_countStanding_0 : decode cX4_countStanding 0 = .ok (.aload_n 1, 1) := by decide +kernel
theorem dX4_countStanding_1 : decode cX4_countStanding 1 = .ok (.iload_n 2, 1) := by decide +kernel
theorem dX4_countStanding_2 : decode cX4_countStanding 2 = .ok (.invokevirtual 138, 3) := by decide +kernel
theorem dX4_countStanding_5 : decode cX4_countStanding 5 = .ok (.istore_n 3, 1) := by decide +kernel
theorem dX4_countStanding_6 : decode cX4_countStanding 6 = .ok (.iconst 0, 1) := by decide +kernel
theorem dX4_countStanding_7 : decode cX4_countStanding 7 = .ok (.istore 4, 2) := by decide +kernel
theorem dX4_countStanding_9 : decode cX4_countStanding 9 = .ok (.iload 4, 2) := by decide +kernel
theorem dX4_countStanding_11 : decode cX4_countStanding 11 = .ok (.aload_n 0, 1) := by decide +kernel
theorem dX4_countStanding_12 : decode cX4_countStanding 12 = .ok (.getfield 32, 3) := by decide +kernel
theorem dX4_countStanding_15 : decode cX4_countStanding 15 = .ok (.getfield 101, 3) := by decide +kernel
theorem dX4_countStanding_18 : decode cX4_countStanding 18 = .ok (.invokevirtual 107, 3) := by decide +kernel
theorem dX4_countStanding_21 : decode cX4_countStanding 21 = .ok (.if_icmp .ge 103, 3) := by decide +kernel
theorem dX4_countStanding_24 : decode cX4_countStanding 24 = .ok (.aload_n 0, 1) := by decide +kernel
theorem dX4_countStanding_25 : decode cX4_countStanding 25 = .ok (.getfield 32, 3) := by decide +kernel
theorem dX4_countStanding_28 : decode cX4_countStanding 28 = .ok (.getfield 101, 3) := by decide +kernel
theorem dX4_countStanding_31 : decode cX4_countStanding 31 = .ok (.iload 4, 2) := by decide +kernel
theorem dX4_countStanding_33 : decode cX4_countStanding 33 = .ok (.invokevirtual 112, 3) := by decide +kernel
theorem dX4_countStanding_36 : decode cX4_countStanding 36 = .ok (.checkcast 37, 3) := by decide +kernel
theorem dX4_countStanding_39 : decode cX4_countStanding 39 = .ok (.astore 5, 2) := by decide +kernel
theorem dX4_countStanding_41 : decode cX4_countStanding 41 = .ok (.aload 5, 2) := by decide +kernel
theorem dX4_countStanding_43 : decode cX4_countStanding 43 = .ok (.iload_n 3, 1) := by decide +kernel
theorem dX4_countStanding_44 : decode cX4_countStanding 44 = .ok (.invokevirtual 141, 3) := by decide +kernel
theorem dX4_countStanding_47 : decode cX4_countStanding 47 = .ok (.istore 6, 2) := by decide +kernel
theorem dX4_countStanding_49 : decode cX4_countStanding 49 = .ok (.aload 5, 2) := by decide +kernel
theorem dX4_countStanding_51 : decode cX4_countStanding 51 = .ok (.aload_n 1, 1) := by decide +kernel
theorem dX4_countStanding_52 : decode cX4_countStanding 52 = .ok (.if_acmp .eq 66, 3) := by decide +kernel
theorem dX4_countStanding_55 : decode cX4_countStanding 55 = .ok (.aload 5, 2) := by decide +kernel
theorem dX4_countStanding_57 : decode cX4_countStanding 57 = .ok (.getfield 119, 3) := by decide +kernel
theorem dX4_countStanding_60 : decode cX4_countStanding 60 = .ok (.ifCond .eq 58, 3) := by decide +kernel
theorem dX4_countStanding_63 : decode cX4_countStanding 63 = .ok (.iload 6, 2) := by decide +kernel
theorem dX4_countStanding_65 : decode cX4_countStanding 65 = .ok (.ifCond .le 53, 3) := by decide +kernel
theorem dX4_countStanding_68 : decode cX4_countStanding 68 = .ok (.iload 6, 2) := by decide +kernel
theorem dX4_countStanding_70 : decode cX4_countStanding 70 = .ok (.aload 5, 2) := by decide +kernel
theorem dX4_countStanding_72 : decode cX4_countStanding 72 = .ok (.invokevirtual 45, 3) := by decide +kernel
theorem dX4_countStanding_75 : decode cX4_countStanding 75 = .ok (.if_icmp .ge 43, 3) := by decide +kernel
theorem dX4_countStanding_78 : decode cX4_countStanding 78 = .ok (.aload 5, 2) := by decide +kernel
theorem dX4_countStanding_80 : decode cX4_countStanding 80 = .ok (.getfield 128, 3) := by decide +kernel
theorem dX4_countStanding_83 : decode cX4_countStanding 83 = .ok (.iload 6, 2) := by decide +kernel
theorem dX4_countStanding_85 : decode cX4_countStanding 85 = .ok (.iaload, 1) := by decide +kernel
