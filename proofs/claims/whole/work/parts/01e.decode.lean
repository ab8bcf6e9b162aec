theorem dX7_find_8 : decode cX7_find 8 = .ok (.astore_n 2, 1) := by decide +kernel
theorem dX7_find_9 : decode cX7_find 9 = .ok (.aload_n 2, 1) := by decide +kernel
theorem dX7_find_10 : decode cX7_find 10 = .ok (.ifnonnull 7, 3) := by decide +kernel
theorem dX7_find_13 : decode cX7_find 13 = .ok (.iconst (-1), 1) := by decide +kernel
theorem dX7_find_14 : decode cX7_find 14 = .ok (.goto 11, 3) := by decide +kernel
theorem dX7_find_17 : decode cX7_find 17 = .ok (.aload_n 0, 1) := by decide +kernel
theorem dX7_find_18 : decode cX7_find 18 = .ok (.getfield 39, 3) := by decide +kernel
theorem dX7_find_21 : decode cX7_find 21 = .ok (.aload_n 2, 1) := by decide +kernel
theorem dX7_find_22 : decode cX7_find 22 = .ok (.invokevirtual 135, 3) := by decide +kernel
theorem dX7_find_25 : decode cX7_find 25 = .ok (.ireturn, 1) := by decide +kernel
theorem dX7_give_0 : decode cX7_give 0 = .ok (.aload_n 0, 1) := by decide +kernel
theorem dX7_give_1 : decode cX7_give 1 = .ok (.getfield 35, 3) := by decide +kernel
theorem dX7_give_4 : decode cX7_give 4 = .ok (.iload_n 1, 1) := by decide +kernel
theorem dX7_give_5 : decode cX7_give 5 = .ok (.invokevirtual 128, 3) := by decide +kernel
theorem dX7_give_8 : decode cX7_give 8 = .ok (.astore_n 2, 1) := by decide +kernel
theorem dX7_give_9 : decode cX7_give 9 = .ok (.aload_n 2, 1) := by decide +kernel
theorem dX7_give_10 : decode cX7_give 10 = .ok (.ifnull 15, 3) := by decide +kernel
theorem dX7_give_13 : decode cX7_give 13 = .ok (.aload_n 0, 1) := by decide +kernel
theorem dX7_give_14 : decode cX7_give 14 = .ok (.getfield 39, 3) := by decide +kernel
theorem dX7_give_17 : decode cX7_give 17 = .ok (.aload_n 2, 1) := by decide +kernel
theorem dX7_give_18 : decode cX7_give 18 = .ok (.invokevirtual 135, 3) := by decide +kernel
theorem dX7_give_21 : decode cX7_give 21 = .ok (.iconst (-1), 1) := by decide +kernel
theorem dX7_give_22 : decode cX7_give 22 = .ok (.if_icmp .ne 5, 3) := by decide +kernel
theorem dX7_give_25 : decode cX7_give 25 = .ok (.iconst 0, 1) := by decide +kernel
theorem dX7_give_26 : decode cX7_give 26 = .ok (.ireturn, 1) := by decide +kernel
theorem dX7_give_27 : decode cX7_give 27 = .ok (.aload_n 2, 1) := by decide +kernel
theorem dX7_give_28 : decode cX7_give 28 = .ok (.aload_n 0, 1) := by decide +kernel
theorem dX7_give_29 : decode cX7_give 29 = .ok (.getfield 39, 3) := by decide +kernel
theorem dX7_give_32 : decode cX7_give 32 = .ok (.getfield 139, 3) := by decide +kernel
theorem dX7_give_35 : decode cX7_give 35 = .ok (.aload_n 0, 1) := by decide +kernel
theorem dX7_give_36 : decode cX7_give 36 = .ok (.getfield 39, 3) := by decide +kernel
theorem dX7_give_39 : decode cX7_give 39 = .ok (.getfield 142, 3) := by decide +kernel
theorem dX7_give_42 : decode cX7_give 42 = .ok (.invokevirtual 145, 3) := by decide +kernel
theorem dX7_give_45 : decode cX7_give 45 = .ok (.aload_n 0, 1) := by decide +kernel
theorem dX7_give_46 : decode cX7_give 46 = .ok (.getfield 62, 3) := by decide +kernel
theorem dX7_give_49 : decode cX7_give 49 = .ok (.invokevirtual 82, 3) := by decide +kernel
theorem dX7_give_52 : decode cX7_give 52 = .ok (.iconst 1, 1) := by decide +kernel
theorem dX7_give_53 : decode cX7_give 53 = .ok (.ireturn, 1) := by decide +kernel
theorem dX7_drop_0 : decode cX7_drop 0 = .ok (.aload_n 0, 1) := by decide +kernel
theorem dX7_drop_1 : decode cX7_drop 1 = .ok (.getfield 35, 3) := by decide +kernel
theorem dX7_drop_4 : decode cX7_drop 4 = .ok (.iload_n 1, 1) := by decide +kernel
theorem dX7_drop_5 : decode cX7_drop 5 = .ok (.invokevirtual 128, 3) := by decide +kernel
theorem dX7_drop_8 : decode cX7_drop 8 = .ok (.astore_n 2, 1) := by decide +kernel
theorem dX7_drop_9 : decode cX7_drop 9 = .ok (.aload_n 2, 1) := by decide +kernel
theorem dX7_drop_10 : decode cX7_drop 10 = .ok (.ifnull 10, 3) := by decide +kernel
theorem dX7_drop_13 : decode cX7_drop 13 = .ok (.aload_n 2, 1) := by decide +kernel
theorem dX7_drop_14 : decode cX7_drop 14 = .ok (.getfield 149, 3) := by decide +kernel
theorem dX7_drop_17 : decode cX7_drop 17 = .ok (.ifCond .ne 5, 3) := by decide +kernel
theorem dX7_drop_20 : decode cX7_drop 20 = .ok (.iconst 0, 1) := by decide +kernel
theorem dX7_drop_21 : decode cX7_drop 21 = .ok (.ireturn, 1) := by decide +kernel
theorem dX7_drop_22 : decode cX7_drop 22 = .ok (.aload_n 2, 1) := by decide +kernel
theorem dX7_drop_23 : decode cX7_drop 23 = .ok (.iconst 0, 1) := by decide +kernel
theorem dX7_drop_24 : decode cX7_drop 24 = .ok (.putfield 149, 3) := by decide +kernel
theorem dX7_drop_27 : decode cX7_drop 27 = .ok (.aload_n 0, 1) := by decide +kernel
theorem dX7_drop_28 : decode cX7_drop 28 = .ok (.getfield 62, 3) := by decide +kernel
theorem dX7_drop_31 : decode cX7_drop 31 = .ok (.invokevirtual 82, 3) := by decide +kernel
theorem dX7_drop_34 : decode cX7_drop 34 = .ok (.iconst 1, 1) := by decide +kernel
theorem dX7_drop_35 : decode cX7_drop 35 = .ok (.ireturn, 1) := by decide +kernel
theorem dX7_round_0 : decode cX7_round 0 = .ok (.aload_n 0, 1) := by decide +kernel
theorem dX7_round_1 : decode cX7_round 1 = .ok (.getfield 48, 3) := by decide +kernel
theorem dX7_round_4 : decode cX7_round 4 = .ok (.invokevirtual 153, 3) := by decide +kernel
theorem dX7_round_7 : decode cX7_round 7 = .ok (.aload_n 0, 1) := by decide +kernel
theorem dX7_round_8 : decode cX7_round 8 = .ok (.getfield 62, 3) := by decide +kernel
theorem dX7_round_11 : decode cX7_round 11 = .ok (.invokevirtual 82, 3) := by decide +kernel
theorem dX7_round_14 : decode cX7_round 14 = .ok (.aload_n 0, 1) := by decide +kernel
theorem dX7_round_15 : decode cX7_round 15 = .ok (.getfield 35, 3) := by decide +kernel
theorem dX7_round_18 : decode cX7_round 18 = .ok (.invokevirtual 74, 3) := by decide +kernel
theorem dX7_round_21 : decode cX7_round 21 = .ok (.ireturn, 1) := by decide +kernel
theorem dX7_best_0 : decode cX7_best 0 = .ok (.aload_n 0, 1) := by decide +kernel
theorem dX7_best_1 : decode cX7_best 1 = .ok (.getfield 35, 3) := by decide +kernel
theorem dX7_best_4 : decode cX7_best 4 = .ok (.invokevirtual 103, 3) := by decide +kernel
theorem dX7_best_7 : decode cX7_best 7 = .ok (.iconst 1, 1) := by decide +kernel
theorem dX7_best_8 : decode cX7_best 8 = .ok (.if_icmp .lt 14, 3) := by decide +kernel
theorem dX7_best_11 : decode cX7_best 11 = .ok (.aload_n 0, 1) := by decide +kernel
theorem dX7_best_12 : decode cX7_best 12 = .ok (.getfield 35, 3) := by decide +kernel
theorem dX7_best_15 : decode cX7_best 15 = .ok (.invokevirtual 103, 3) := by decide +kernel
theorem dX7_best_18 : decode cX7_best 18 = .ok (.iconst 5, 1) := by decide +kernel
theorem dX7_best_19 : decode cX7_best 19 = .ok (.if_icmp .le 5, 3) := by decide +kernel
theorem dX7_best_22 : decode cX7_best 22 = .ok (.iconst (-1), 1) := by decide +kernel
theorem dX7_best_23 : decode cX7_best 23 = .ok (.ireturn, 1) := by decide +kernel
theorem dX7_best_24 : decode cX7_best 24 = .ok (.aload_n 0, 1) := by decide +kernel
theorem dX7_best_25 : decode cX7_best 25 = .ok (.getfield 48, 3) := by decide +kernel
theorem dX7_best_28 : decode cX7_best 28 = .ok (.invokevirtual 156, 3) := by decide +kernel
theorem dX7_best_31 : decode cX7_best 31 = .ok (.aload_n 0, 1) := by decide +kernel
theorem dX7_best_32 : decode cX7_best 32 = .ok (.getfield 62, 3) := by decide +kernel
theorem dX7_best_35 : decode cX7_best 35 = .ok (.invokevirtual 82, 3) := by decide +kernel
theorem dX7_best_38 : decode cX7_best 38 = .ok (.aload_n 0, 1) := by decide +kernel
theorem dX7_best_39 : decode cX7_best 39 = .ok (.getfield 35, 3) := by decide +kernel
theorem dX7_best_42 : decode cX7_best 42 = .ok (.invokevirtual 159, 3) := by decide +kernel
theorem dX7_best_45 : decode cX7_best 45 = .ok (.ireturn, 1) := by decide +kernel
theorem dX7_path_0 : decode cX7_path 0 = .ok (.aload_n 0, 1) := by decide +kernel
theorem dX7_path_1 : decode cX7_path 1 = .ok (.getfield 35, 3) := by decide +kernel
theorem dX7_path_4 : decode cX7_path 4 = .ok (.iload_n 1, 1) := by decide +kernel
theorem dX7_path_5 : decode cX7_path 5 = .ok (.invokevirtual 128, 3) := by decide +kernel
theorem dX7_path_8 : decode cX7_path 8 = .ok (.astore_n 3, 1) := by decide +kernel
theorem dX7_path_9 : decode cX7_path 9 = .ok (.aload_n 3, 1) := by decide +kernel
theorem dX7_path_10 : decode cX7_path 10 = .ok (.ifnull 10, 3) := by decide +kernel
theorem dX7_path_13 : decode cX7_path 13 = .ok (.aload_n 3, 1) := by decide +kernel
theorem dX7_path_14 : decode cX7_path 14 = .ok (.getfield 149, 3) := by decide +kernel
theorem dX7_path_17 : decode cX7_path 17 = .ok (.ifCond .ne 5, 3) := by decide +kernel
theorem dX7_path_20 : decode cX7_path 20 = .ok (.iconst (-1), 1) := by decide +kernel
theorem dX7_path_21 : decode cX7_path 21 = .ok (.ireturn, 1) := by decide +kernel
theorem dX7_path_22 : decode cX7_path 22 = .ok (.aload_n 3, 1) := by decide +kernel
theorem dX7_path_23 : decode cX7_path 23 = .ok (.iload_n 2, 1) := by decide +kernel
theorem dX7_path_24 : decode cX7_path 24 = .ok (.invokevirtual 162, 3) := by decide +kernel
theorem dX7_path_27 : decode cX7_path 27 = .ok (.istore 4, 2) := by decide +kernel
theorem dX7_path_29 : decode cX7_path 29 = .ok (.iload 4, 2) := by decide +kernel
theorem dX7_path_31 : decode cX7_path 31 = .ok (.iconst (-1), 1) := by decide +kernel
theorem dX7_path_32 : decode cX7_path 32 = .ok (.if_icmp .ne 5, 3) := by decide +kernel
theorem dX7_path_35 : decode cX7_path 35 = .ok (.iconst (-1), 1) := by decide +kernel
theorem dX7_path_36 : decode cX7_path 36 = .ok (.ireturn, 1) := by decide +kernel
theorem dX7_path_37 : decode cX7_path 37 = .ok (.iload 4, 2) := by decide +kernel
theorem dX7_path_39 : decode cX7_path 39 = .ok (.aload_n 3, 1) := by decide +kernel
theorem dX7_path_40 : decode cX7_path 40 = .ok (.invokevirtual 166, 3) := by decide +kernel
theorem dX7_path_43 : decode cX7_path 43 = .ok (.if_icmp .ne 13, 3) := by decide +kernel
theorem dX7_path_46 : decode cX7_path 46 = .ok (.aload_n 3, 1) := by decide +kernel
theorem dX7_path_47 : decode cX7_path 47 = .ok (.getfield 169, 3) := by decide +kernel
theorem dX7_path_50 : decode cX7_path 50 = .ok (.iload 4, 2) := by decide +kernel
theorem dX7_path_52 : decode cX7_path 52 = .ok (.iaload, 1) := by decide +kernel
theorem dX7_path_53 : decode cX7_path 53 = .ok (.goto 10, 3) := by decide +kernel
theorem dX7_path_56 : decode cX7_path 56 = .ok (.aload_n 3, 1) := by decide +kernel
theorem dX7_path_57 : decode cX7_path 57 = .ok (.getfield 170, 3) := by decide +kernel
theorem dX7_path_60 : decode cX7_path 60 = .ok (.iload 4, 2) := by decide +kernel
theorem dX7_path_62 : decode cX7_path 62 = .ok (.iaload, 1) := by decide +kernel
theorem dX7_path_63 : decode cX7_path 63 = .ok (.ireturn, 1) := by decide +kernel
theorem dX7_why_0 : decode cX7_why 0 = .ok (.iload_n 1, 1) := by decide +kernel
theorem dX7_why_1 : decode cX7_why 1 = .ok (.iconst 0, 1) := by decide +kernel
theorem dX7_why_2 : decode cX7_why 2 = .ok (.iconst 2, 1) := by decide +kernel
theorem dX7_why_3 : decode cX7_why 3 = .ok (.invokestatic 70, 3) := by decide +kernel
theorem dX7_why_6 : decode cX7_why 6 = .ok (.ifCond .eq 13, 3) := by decide +kernel
theorem dX7_why_9 : decode cX7_why 9 = .ok (.aload_n 0, 1) := by decide +kernel
theorem dX7_why_10 : decode cX7_why 10 = .ok (.getfield 55, 3) := by decide +kernel
theorem dX7_why_13 : decode cX7_why 13 = .ok (.invokevirtual 171, 3) := by decide +kernel
theorem dX7_why_16 : decode cX7_why 16 = .ok (.ifCond .ne 5, 3) := by decide +kernel
theorem dX7_why_19 : decode cX7_why 19 = .ok (.iconst (-1), 1) := by decide +kernel
theorem dX7_why_20 : decode cX7_why 20 = .ok (.ireturn, 1) := by decide +kernel
theorem dX7_why_21 : decode cX7_why 21 = .ok (.iload_n 1, 1) := by decide +kernel
theorem dX7_why_22 : decode cX7_why 22 = .ok (.ifCond .ne 11, 3) := by decide +kernel
theorem dX7_why_25 : decode cX7_why 25 = .ok (.aload_n 0, 1) := by decide +kernel
theorem dX7_why_26 : decode cX7_why 26 = .ok (.getfield 55, 3) := by decide +kernel
theorem dX7_why_29 : decode cX7_why 29 = .ok (.getfield 175, 3) := by decide +kernel
theorem dX7_why_32 : decode cX7_why 32 = .ok (.ireturn, 1) := by decide +kernel
theorem dX7_why_33 : decode cX7_why 33 = .ok (.iload_n 1, 1) := by decide +kernel
theorem dX7_why_34 : decode cX7_why 34 = .ok (.iconst 1, 1) := by decide +kernel
theorem dX7_why_35 : decode cX7_why 35 = .ok (.if_icmp .ne 13, 3) := by decide +kernel
theorem dX7_why_38 : decode cX7_why 38 = .ok (.aload_n 0, 1) := by decide +kernel
theorem dX7_why_39 : decode cX7_why 39 = .ok (.getfield 55, 3) := by decide +kernel
theorem dX7_why_42 : decode cX7_why 42 = .ok (.getfield 178, 3) := by decide +kernel
theorem dX7_why_45 : decode cX7_why 45 = .ok (.goto 10, 3) := by decide +kernel
theorem dX7_why_48 : decode cX7_why 48 = .ok (.aload_n 0, 1) := by decide +kernel
theorem dX7_why_49 : decode cX7_why 49 = .ok (.getfield 55, 3) := by decide +kernel
theorem dX7_why_52 : decode cX7_why 52 = .ok (.getfield 181, 3) := by decide +kernel
theorem dX7_why_55 : decode cX7_why 55 = .ok (.ireturn, 1) := by decide +kernel
theorem dX7_delay_0 : decode cX7_delay 0 = .ok (.aload_n 0, 1) := by decide +kernel
theorem dX7_delay_1 : decode cX7_delay 1 = .ok (.getfield 35, 3) := by decide +kernel
theorem dX7_delay_4 : decode cX7_delay 4 = .ok (.iload_n 1, 1) := by decide +kernel
theorem dX7_delay_5 : decode cX7_delay 5 = .ok (.invokevirtual 128, 3) := by decide +kernel
theorem dX7_delay_8 : decode cX7_delay 8 = .ok (.astore 4, 2) := by decide +kernel
theorem dX7_delay_10 : decode cX7_delay 10 = .ok (.aload 4, 2) := by decide +kernel
theorem dX7_delay_12 : decode cX7_delay 12 = .ok (.ifnull 24, 3) := by decide +kernel
theorem dX7_delay_15 : decode cX7_delay 15 = .ok (.aload_n 0, 1) := by decide +kernel
theorem dX7_delay_16 : decode cX7_delay 16 = .ok (.getfield 31, 3) := by decide +kernel
theorem dX7_delay_19 : decode cX7_delay 19 = .ok (.iload_n 2, 1) := by decide +kernel
theorem dX7_delay_20 : decode cX7_delay 20 = .ok (.invokevirtual 85, 3) := by decide +kernel
theorem dX7_delay_23 : decode cX7_delay 23 = .ok (.ifCond .eq 13, 3) := by decide +kernel
theorem dX7_delay_26 : decode cX7_delay 26 = .ok (.iload_n 3, 1) := by decide +kernel
theorem dX7_delay_27 : decode cX7_delay 27 = .ok (.iconst 0, 1) := by decide +kernel
theorem dX7_delay_28 : decode cX7_delay 28 = .ok (.bipush 60, 2) := by decide +kernel
theorem dX7_delay_30 : decode cX7_delay 30 = .ok (.invokestatic 70, 3) := by decide +kernel
theorem dX7_delay_33 : decode cX7_delay 33 = .ok (.ifCond .ne 5, 3) := by decide +kernel
theorem dX7_delay_36 : decode cX7_delay 36 = .ok (.iconst 0, 1) := by decide +kernel
theorem dX7_delay_37 : decode cX7_delay 37 = .ok (.ireturn, 1) := by decide +kernel
theorem dX7_delay_38 : decode cX7_delay 38 = .ok (.aload 4, 2) := by decide +kernel
theorem dX7_delay_40 : decode cX7_delay 40 = .ok (.getfield 184, 3) := by decide +kernel
theorem dX7_delay_43 : decode cX7_delay 43 = .ok (.iload_n 2, 1) := by decide +kernel
theorem dX7_delay_44 : decode cX7_delay 44 = .ok (.iload_n 3, 1) := by decide +kernel
theorem dX7_delay_45 : decode cX7_delay 45 = .ok (.iastore, 1) := by decide +kernel
theorem dX7_delay_46 : decode cX7_delay 46 = .ok (.aload_n 0, 1) := by decide +kernel
theorem dX7_delay_47 : decode cX7_delay 47 = .ok (.getfield 62, 3) := by decide +kernel
theorem dX7_delay_50 : decode cX7_delay 50 = .ok (.invokevirtual 82, 3) := by decide +kernel
theorem dX7_delay_53 : decode cX7_delay 53 = .ok (.iconst 1, 1) := by decide +kernel
theorem dX7_delay_54 : decode cX7_delay 54 = .ok (.ireturn, 1) := by decide +kernel
theorem dX7_ran_0 : decode cX7_ran 0 = .ok (.aload_n 0, 1) := by decide +kernel
theorem dX7_ran_1 : decode cX7_ran 1 = .ok (.getfield 35, 3) := by decide +kernel
theorem dX7_ran_4 : decode cX7_ran 4 = .ok (.iload_n 1, 1) := by decide +kernel
theorem dX7_ran_5 : decode cX7_ran 5 = .ok (.invokevirtual 128, 3) := by decide +kernel
theorem dX7_ran_8 : decode cX7_ran 8 = .ok (.astore_n 3, 1) := by decide +kernel
theorem dX7_ran_9 : decode cX7_ran 9 = .ok (.aload_n 3, 1) := by decide +kernel
theorem dX7_ran_10 : decode cX7_ran 10 = .ok (.ifnull 10, 3) := by decide +kernel
theorem dX7_ran_13 : decode cX7_ran 13 = .ok (.aload_n 3, 1) := by decide +kernel
theorem dX7_ran_14 : decode cX7_ran 14 = .ok (.getfield 149, 3) := by decide +kernel
theorem dX7_ran_17 : decode cX7_ran 17 = .ok (.ifCond .ne 5, 3) := by decide +kernel
theorem dX7_ran_20 : decode cX7_ran 20 = .ok (.iconst (-1), 1) := by decide +kernel
theorem dX7_ran_21 : decode cX7_ran 21 = .ok (.ireturn, 1) := by decide +kernel
theorem dX7_ran_22 : decode cX7_ran 22 = .ok (.aload_n 0, 1) := by decide +kernel
theorem dX7_ran_23 : decode cX7_ran 23 = .ok (.getfield 62, 3) := by decide +kernel
theorem dX7_ran_26 : decode cX7_ran 26 = .ok (.invokevirtual 187, 3) := by decide +kernel
theorem dX7_ran_29 : decode cX7_ran 29 = .ok (.aload_n 0, 1) := by decide +kernel
theorem dX7_ran_30 : decode cX7_ran 30 = .ok (.getfield 62, 3) := by decide +kernel
theorem dX7_ran_33 : decode cX7_ran 33 = .ok (.aload_n 3, 1) := by decide +kernel
theorem dX7_ran_34 : decode cX7_ran 34 = .ok (.iload_n 2, 1) := by decide +kernel
theorem dX7_ran_35 : decode cX7_ran 35 = .ok (.invokevirtual 190, 3) := by decide +kernel
theorem dX7_ran_38 : decode cX7_ran 38 = .ok (.ireturn, 1) := by decide +kernel
theorem dX7_blame_0 : decode cX7_blame 0 = .ok (.aload_n 0, 1) := by decide +kernel
theorem dX7_blame_1 : decode cX7_blame 1 = .ok (.getfield 35, 3) := by decide +kernel
theorem dX7_blame_4 : decode cX7_blame 4 = .ok (.iload_n 1, 1) := by decide +kernel
theorem dX7_blame_5 : decode cX7_blame 5 = .ok (.invokevirtual 128, 3) := by decide +kernel
theorem dX7_blame_8 : decode cX7_blame 8 = .ok (.ifnull 14, 3) := by decide +kernel
theorem dX7_blame_11 : decode cX7_blame 11 = .ok (.aload_n 0, 1) := by decide +kernel
theorem dX7_blame_12 : decode cX7_blame 12 = .ok (.getfield 35, 3) := by decide +kernel
theorem dX7_blame_15 : decode cX7_blame 15 = .ok (.iload_n 2, 1) := by decide +kernel
theorem dX7_blame_16 : decode cX7_blame 16 = .ok (.invokevirtual 128, 3) := by decide +kernel
theorem dX7_blame_19 : decode cX7_blame 19 = .ok (.ifnonnull 5, 3) := by decide +kernel
theorem dX7_blame_22 : decode cX7_blame 22 = .ok (.iconst (-1), 1) := by decide +kernel
theorem dX7_blame_23 : decode cX7_blame 23 = .ok (.ireturn, 1) := by decide +kernel
theorem dX7_blame_24 : decode cX7_blame 24 = .ok (.aload_n 0, 1) := by decide +kernel
theorem dX7_blame_25 : decode cX7_blame 25 = .ok (.getfield 62, 3) := by decide +kernel
theorem dX7_blame_28 : decode cX7_blame 28 = .ok (.invokevirtual 187, 3) := by decide +kernel
theorem dX7_blame_31 : decode cX7_blame 31 = .ok (.aload_n 0, 1) := by decide +kernel
theorem dX7_blame_32 : decode cX7_blame 32 = .ok (.getfield 62, 3) := by decide +kernel
theorem dX7_blame_35 : decode cX7_blame 35 = .ok (.getfield 194, 3) := by decide +kernel
theorem dX7_blame_38 : decode cX7_blame 38 = .ok (.iload_n 1, 1) := by decide +kernel
theorem dX7_blame_39 : decode cX7_blame 39 = .ok (.bipush 16, 2) := by decide +kernel
theorem dX7_blame_41 : decode cX7_blame 41 = .ok (.imul, 1) := by decide +kernel
theorem dX7_blame_42 : decode cX7_blame 42 = .ok (.iload_n 2, 1) := by decide +kernel
theorem dX7_blame_43 : decode cX7_blame 43 = .ok (.iadd, 1) := by decide +kernel
theorem dX7_blame_44 : decode cX7_blame 44 = .ok (.iaload, 1) := by decide +kernel
theorem dX7_blame_45 : decode cX7_blame 45 = .ok (.ireturn, 1) := by decide +kernel
theorem dX7_balance_0 : decode cX7_balance 0 = .ok (.iload_n 1, 1) := by decide +kernel
theorem dX7_balance_1 : decode cX7_balance 1 = .ok (.iconst 0, 1) := by decide +kernel
theorem dX7_balance_2 : decode cX7_balance 2 = .ok (.iconst 5, 1) := by decide +kernel
theorem dX7_balance_3 : decode cX7_balance 3 = .ok (.invokestatic 70, 3) := by decide +kernel
theorem dX7_balance_6 : decode cX7_balance 6 = .ok (.ifCond .ne 5, 3) := by decide +kernel
theorem dX7_balance_9 : decode cX7_balance 9 = .ok (.iconst 0, 1) := by decide +kernel
theorem dX7_balance_10 : decode cX7_balance 10 = .ok (.ireturn, 1) := by decide +kernel
theorem dX7_balance_11 : decode cX7_balance 11 = .ok (.aload_n 0, 1) := by decide +kernel
theorem dX7_balance_12 : decode cX7_balance 12 = .ok (.getfield 62, 3) := by decide +kernel
theorem dX7_balance_15 : decode cX7_balance 15 = .ok (.invokevirtual 187, 3) := by decide +kernel
theorem dX7_balance_18 : decode cX7_balance 18 = .ok (.aload_n 0, 1) := by decide +kernel
theorem dX7_balance_19 : decode cX7_balance 19 = .ok (.getfield 62, 3) := by decide +kernel
theorem dX7_balance_22 : decode cX7_balance 22 = .ok (.iload_n 1, 1) := by decide +kernel
theorem dX7_balance_23 : decode cX7_balance 23 = .ok (.invokevirtual 197, 3) := by decide +kernel
theorem dX7_balance_26 : decode cX7_balance 26 = .ok (.ireturn, 1) := by decide +kernel
theorem dX7_count_0 : decode cX7_count 0 = .ok (.iload_n 1, 1) := by decide +kernel
theorem dX7_count_1 : decode cX7_count 1 = .ok (.tableswitch 87 0 5 #[39, 47, 55, 63, 71, 79], 39) := by decide +kernel
theorem dX7_count_40 : decode cX7_count 40 = .ok (.aload_n 0, 1) := by decide +kernel
theorem dX7_count_41 : decode cX7_count 41 = .ok (.getfield 31, 3) := by decide +kernel
theorem dX7_count_44 : decode cX7_count 44 = .ok (.getfield 106, 3) := by decide +kernel
theorem dX7_count_47 : decode cX7_count 47 = .ok (.ireturn, 1) := by decide +kernel
theorem dX7_count_48 : decode cX7_count 48 = .ok (.aload_n 0, 1) := by decide +kernel
theorem dX7_count_49 : decode cX7_count 49 = .ok (.getfield 35, 3) := by decide +kernel
theorem dX7_count_52 : decode cX7_count 52 = .ok (.invokevirtual 103, 3) := by decide +kernel
theorem dX7_count_55 : decode cX7_count 55 = .ok (.ireturn, 1) := by decide +kernel
theorem dX7_count_56 : decode cX7_count 56 = .ok (.aload_n 0, 1) := by decide +kernel
theorem dX7_count_57 : decode cX7_count 57 = .ok (.getfield 35, 3) := by decide +kernel
theorem dX7_count_60 : decode cX7_count 60 = .ok (.invokevirtual 74, 3) := by decide +kernel
theorem dX7_count_63 : decode cX7_count 63 = .ok (.ireturn, 1) := by decide +kernel
theorem dX7_count_64 : decode cX7_count 64 = .ok (.aload_n 0, 1) := by decide +kernel
theorem dX7_count_65 : decode cX7_count 65 = .ok (.getfield 35, 3) := by decide +kernel
theorem dX7_count_68 : decode cX7_count 68 = .ok (.invokevirtual 159, 3) := by decide +kernel
theorem dX7_count_71 : decode cX7_count 71 = .ok (.ireturn, 1) := by decide +kernel
theorem dX7_count_72 : decode cX7_count 72 = .ok (.aload_n 0, 1) := by decide +kernel
theorem dX7_count_73 : decode cX7_count 73 = .ok (.getfield 31, 3) := by decide +kernel
theorem dX7_count_76 : decode cX7_count 76 = .ok (.getfield 96, 3) := by decide +kernel
theorem dX7_count_79 : decode cX7_count 79 = .ok (.ireturn, 1) := by decide +kernel
theorem dX7_count_80 : decode cX7_count 80 = .ok (.aload_n 0, 1) := by decide +kernel
theorem dX7_count_81 : decode cX7_count 81 = .ok (.getfield 31, 3) := by decide +kernel
theorem dX7_count_84 : decode cX7_count 84 = .ok (.getfield 92, 3) := by decide +kernel
theorem dX7_count_87 : decode cX7_count 87 = .ok (.ireturn, 1) := by decide +kernel
theorem dX7_count_88 : decode cX7_count 88 = .ok (.iconst (-1), 1) := by decide +kernel
theorem dX7_count_89 : decode cX7_count 89 = .ok (.ireturn, 1) := by decide +kernel
theorem dX7_isWithin_0 : decode cX7_isWithin 0 = .ok (.iload_n 0, 1) := by decide +kernel
theorem dX7_isWithin_1 : decode cX7_isWithin 1 = .ok (.iload_n 1, 1) := by decide +kernel
theorem dX7_isWithin_2 : decode cX7_isWithin 2 = .ok (.if_icmp .lt 12, 3) := by decide +kernel
theorem dX7_isWithin_5 : decode cX7_isWithin 5 = .ok (.iload_n 0, 1) := by decide +kernel
theorem dX7_isWithin_6 : decode cX7_isWithin 6 = .ok (.iload_n 2, 1) := by decide +kernel
theorem dX7_isWithin_7 : decode cX7_isWithin 7 = .ok (.if_icmp .gt 7, 3) := by decide +kernel
theorem dX7_isWithin_10 : decode cX7_isWithin 10 = .ok (.iconst 1, 1) := by decide +kernel
theorem dX7_isWithin_11 : decode cX7_isWithin 11 = .ok (.goto 4, 3) := by decide +kernel
theorem dX7_isWithin_14 : decode cX7_isWithin 14 = .ok (.iconst 0, 1) := by decide +kernel
theorem dX7_isWithin_15 : decode cX7_isWithin 15 = .ok (.ireturn, 1) := by decide +kernel
theorem dX8_init_0 : decode cX8_init 0 = .ok (.aload_n 0, 1) := by decide +kernel
theorem dX8_init_1 : decode cX8_init 1 = .ok (.invokespecial 1, 3) := by decide +kernel
theorem dX8_init_4 : decode cX8_init 4 = .ok (.aload_n 0, 1) := by decide +kernel
theorem dX8_init_5 : decode cX8_init 5 = .ok (.bipush 8, 2) := by decide +kernel
theorem dX8_init_7 : decode cX8_init 7 = .ok (.newarray .boolean, 2) := by decide +kernel
theorem dX8_init_9 : decode cX8_init 9 = .ok (.putfield 9, 3) := by decide +kernel
theorem dX8_init_12 : decode cX8_init 12 = .ok (.aload_n 0, 1) := by decide +kernel
theorem dX8_init_13 : decode cX8_init 13 = .ok (.bipush 16, 2) := by decide +kernel
theorem dX8_init_15 : decode cX8_init 15 = .ok (.newarray .int, 2) := by decide +kernel
theorem dX8_init_17 : decode cX8_init 17 = .ok (.putfield 13, 3) := by decide +kernel
theorem dX8_init_20 : decode cX8_init 20 = .ok (.aload_n 0, 1) := by decide +kernel
theorem dX8_init_21 : decode cX8_init 21 = .ok (.bipush 8, 2) := by decide +kernel
theorem dX8_init_23 : decode cX8_init 23 = .ok (.newarray .int, 2) := by decide +kernel
theorem dX8_init_25 : decode cX8_init 25 = .ok (.putfield 17, 3) := by decide +kernel
theorem dX8_init_28 : decode cX8_init 28 = .ok (.aload_n 0, 1) := by decide +kernel
theorem dX8_init_29 : decode cX8_init 29 = .ok (.iconst 1, 1) := by decide +kernel
theorem dX8_init_30 : decode cX8_init 30 = .ok (.putfield 20, 3) := by decide +kernel
theorem dX8_init_33 : decode cX8_init 33 = .ok (.aload_n 0, 1) := by decide +kernel
theorem dX8_init_34 : decode cX8_init 34 = .ok (.bipush 10, 2) := by decide +kernel
theorem dX8_init_36 : decode cX8_init 36 = .ok (.newarray .int, 2) := by decide +kernel
theorem dX8_init_38 : decode cX8_init 38 = .ok (.putfield 24, 3) := by decide +kernel
theorem dX8_init_41 : decode cX8_init 41 = .ok (.aload_n 0, 1) := by decide +kernel
theorem dX8_init_42 : decode cX8_init 42 = .ok (.bipush 10, 2) := by decide +kernel
theorem dX8_init_44 : decode cX8_init 44 = .ok (.newarray .int, 2) := by decide +kernel
theorem dX8_init_46 : decode cX8_init 46 = .ok (.putfield 27, 3) := by decide +kernel
theorem dX8_init_49 : decode cX8_init 49 = .ok (.aload_n 0, 1) := by decide +kernel
theorem dX8_init_50 : decode cX8_init 50 = .ok (.bipush 10, 2) := by decide +kernel
theorem dX8_init_52 : decode cX8_init 52 = .ok (.newarray .int, 2) := by decide +kernel
theorem dX8_init_54 : decode cX8_init 54 = .ok (.putfield 30, 3) := by decide +kernel
theorem dX8_init_57 : decode cX8_init 57 = .ok (.aload_n 0, 1) := by decide +kernel
theorem dX8_init_58 : decode cX8_init 58 = .ok (.bipush 16, 2) := by decide +kernel
theorem dX8_init_60 : decode cX8_init 60 = .ok (.newarray .int, 2) := by decide +kernel
theorem dX8_init_62 : decode cX8_init 62 = .ok (.putfield 33, 3) := by decide +kernel
theorem dX8_init_65 : decode cX8_init 65 = .ok (.aload_n 0, 1) := by decide +kernel
theorem dX8_init_66 : decode cX8_init 66 = .ok (.bipush 16, 2) := by decide +kernel
theorem dX8_init_68 : decode cX8_init 68 = .ok (.newarray .int, 2) := by decide +kernel
theorem dX8_init_70 : decode cX8_init 70 = .ok (.putfield 36, 3) := by decide +kernel
theorem dX8_init_73 : decode cX8_init 73 = .ok (.aload_n 0, 1) := by decide +kernel
theorem dX8_init_74 : decode cX8_init 74 = .ok (.bipush 16, 2) := by decide +kernel
theorem dX8_init_76 : decode cX8_init 76 = .ok (.newarray .int, 2) := by decide +kernel
theorem dX8_init_78 : decode cX8_init 78 = .ok (.putfield 39, 3) := by decide +kernel
theorem dX8_init_81 : decode cX8_init 81 = .ok (.aload_n 0, 1) := by decide +kernel
theorem dX8_init_82 : decode cX8_init 82 = .ok (.bipush 16, 2) := by decide +kernel
theorem dX8_init_84 : decode cX8_init 84 = .ok (.newarray .int, 2) := by decide +kernel
theorem dX8_init_86 : decode cX8_init 86 = .ok (.putfield 42, 3) := by decide +kernel
theorem dX8_init_89 : decode cX8_init 89 = .ok (.aload_n 0, 1) := by decide +kernel
theorem dX8_init_90 : decode cX8_init 90 = .ok (.bipush 16, 2) := by decide +kernel
theorem dX8_init_92 : decode cX8_init 92 = .ok (.newarray .int, 2) := by decide +kernel
theorem dX8_init_94 : decode cX8_init 94 = .ok (.putfield 45, 3) := by decide +kernel
theorem dX8_init_97 : decode cX8_init 97 = .ok (.aload_n 0, 1) := by decide +kernel
theorem dX8_init_98 : decode cX8_init 98 = .ok (.bipush 16, 2) := by decide +kernel
theorem dX8_init_100 : decode cX8_init 100 = .ok (.newarray .int, 2) := by decide +kernel
theorem dX8_init_102 : decode cX8_init 102 = .ok (.putfield 48, 3) := by decide +kernel
theorem dX8_init_105 : decode cX8_init 105 = .ok (.aload_n 0, 1) := by decide +kernel
theorem dX8_init_106 : decode cX8_init 106 = .ok (.bipush 16, 2) := by decide +kernel
theorem dX8_init_108 : decode cX8_init 108 = .ok (.newarray .int, 2) := by decide +kernel
theorem dX8_init_110 : decode cX8_init 110 = .ok (.putfield 51, 3) := by decide +kernel
theorem dX8_init_113 : decode cX8_init 113 = .ok (.aload_n 0, 1) := by decide +kernel
theorem dX8_init_114 : decode cX8_init 114 = .ok (.bipush 16, 2) := by decide +kernel
theorem dX8_init_116 : decode cX8_init 116 = .ok (.newarray .int, 2) := by decide +kernel
theorem dX8_init_118 : decode cX8_init 118 = .ok (.putfield 54, 3) := by decide +kernel
theorem dX8_init_121 : decode cX8_init 121 = .ok (.aload_n 0, 1) := by decide +kernel
theorem dX8_init_122 : decode cX8_init 122 = .ok (.bipush 16, 2) := by decide +kernel
theorem dX8_init_124 : decode cX8_init 124 = .ok (.newarray .int, 2) := by decide +kernel
theorem dX8_init_126 : decode cX8_init 126 = .ok (.putfield 57, 3) := by decide +kernel
theorem dX8_init_129 : decode cX8_init 129 = .ok (.aload_n 0, 1) := by decide +kernel
theorem dX8_init_130 : decode cX8_init 130 = .ok (.bipush 16, 2) := by decide +kernel
theorem dX8_init_132 : decode cX8_init 132 = .ok (.newarray .boolean, 2) := by decide +kernel
theorem dX8_init_134 : decode cX8_init 134 = .ok (.putfield 60, 3) := by decide +kernel
theorem dX8_init_137 : decode cX8_init 137 = .ok (.aload_n 0, 1) := by decide +kernel
theorem dX8_init_138 : decode cX8_init 138 = .ok (.sipush 128, 3) := by decide +kernel
theorem dX8_init_141 : decode cX8_init 141 = .ok (.newarray .int, 2) := by decide +kernel
theorem dX8_init_143 : decode cX8_init 143 = .ok (.putfield 63, 3) := by decide +kernel
theorem dX8_init_146 : decode cX8_init 146 = .ok (.aload_n 0, 1) := by decide +kernel
theorem dX8_init_147 : decode cX8_init 147 = .ok (.sipush 128, 3) := by decide +kernel
theorem dX8_init_150 : decode cX8_init 150 = .ok (.newarray .int, 2) := by decide +kernel
theorem dX8_init_152 : decode cX8_init 152 = .ok (.putfield 66, 3) := by decide +kernel
theorem dX8_init_155 : decode cX8_init 155 = .ok (.aload_n 0, 1) := by decide +kernel
theorem dX8_init_156 : decode cX8_init 156 = .ok (.sipush 1920, 3) := by decide +kernel
theorem dX8_init_159 : decode cX8_init 159 = .ok (.newarray .boolean, 2) := by decide +kernel
theorem dX8_init_161 : decode cX8_init 161 = .ok (.putfield 69, 3) := by decide +kernel
theorem dX8_init_164 : decode cX8_init 164 = .ok (.aload_n 0, 1) := by decide +kernel
theorem dX8_init_165 : decode cX8_init 165 = .ok (.bipush 8, 2) := by decide +kernel
theorem dX8_init_167 : decode cX8_init 167 = .ok (.newarray .int, 2) := by decide +kernel
theorem dX8_init_169 : decode cX8_init 169 = .ok (.putfield 72, 3) := by decide +kernel
theorem dX8_init_172 : decode cX8_init 172 = .ok (.aload_n 0, 1) := by decide +kernel
theorem dX8_init_173 : decode cX8_init 173 = .ok (.bipush 16, 2) := by decide +kernel
theorem dX8_init_175 : decode cX8_init 175 = .ok (.newarray .int, 2) := by decide +kernel
theorem dX8_init_177 : decode cX8_init 177 = .ok (.putfield 75, 3) := by decide +kernel
theorem dX8_init_180 : decode cX8_init 180 = .ok (.aload_n 0, 1) := by decide +kernel
theorem dX8_init_181 : decode cX8_init 181 = .ok (.bipush 16, 2) := by decide +kernel
theorem dX8_init_183 : decode cX8_init 183 = .ok (.newarray .boolean, 2) := by decide +kernel
theorem dX8_init_185 : decode cX8_init 185 = .ok (.putfield 78, 3) := by decide +kernel
theorem dX8_init_188 : decode cX8_init 188 = .ok (.aload_n 0, 1) := by decide +kernel
theorem dX8_init_189 : decode cX8_init 189 = .ok (.bipush 16, 2) := by decide +kernel
theorem dX8_init_191 : decode cX8_init 191 = .ok (.newarray .int, 2) := by decide +kernel
theorem dX8_init_193 : decode cX8_init 193 = .ok (.putfield 81, 3) := by decide +kernel
theorem dX8_init_196 : decode cX8_init 196 = .ok (.aload_n 0, 1) := by decide +kernel
theorem dX8_init_197 : decode cX8_init 197 = .ok (.bipush 16, 2) := by decide +kernel
theorem dX8_init_199 : decode cX8_init 199 = .ok (.newarray .int, 2) := by decide +kernel
theorem dX8_init_201 : decode cX8_init 201 = .ok (.putfield 84, 3) := by decide +kernel
theorem dX8_init_204 : decode cX8_init 204 = .ok (.aload_n 0, 1) := by decide +kernel
theorem dX8_init_205 : decode cX8_init 205 = .ok (.bipush 16, 2) := by decide +kernel
theorem dX8_init_207 : decode cX8_init 207 = .ok (.newarray .int, 2) := by decide +kernel
theorem dX8_init_209 : decode cX8_init 209 = .ok (.putfield 87, 3) := by decide +kernel
theorem dX8_init_212 : decode cX8_init 212 = .ok (.aload_n 0, 1) := by decide +kernel
theorem dX8_init_213 : decode cX8_init 213 = .ok (.sipush 128, 3) := by decide +kernel
theorem dX8_init_216 : decode cX8_init 216 = .ok (.newarray .int, 2) := by decide +kernel
theorem dX8_init_218 : decode cX8_init 218 = .ok (.putfield 90, 3) := by decide +kernel
theorem dX8_init_221 : decode cX8_init 221 = .ok (.aload_n 0, 1) := by decide +kernel
theorem dX8_init_222 : decode cX8_init 222 = .ok (.sipush 128, 3) := by decide +kernel
theorem dX8_init_225 : decode cX8_init 225 = .ok (.newarray .int, 2) := by decide +kernel
theorem dX8_init_227 : decode cX8_init 227 = .ok (.putfield 93, 3) := by decide +kernel
theorem dX8_init_230 : decode cX8_init 230 = .ok (.aload_n 0, 1) := by decide +kernel
theorem dX8_init_231 : decode cX8_init 231 = .ok (.bipush 16, 2) := by decide +kernel
theorem dX8_init_233 : decode cX8_init 233 = .ok (.newarray .int, 2) := by decide +kernel
theorem dX8_init_235 : decode cX8_init 235 = .ok (.putfield 96, 3) := by decide +kernel
theorem dX8_init_238 : decode cX8_init 238 = .ok (.aload_n 0, 1) := by decide +kernel
theorem dX8_init_239 : decode cX8_init 239 = .ok (.bipush 16, 2) := by decide +kernel
theorem dX8_init_241 : decode cX8_init 241 = .ok (.newarray .int, 2) := by decide +kernel
theorem dX8_init_243 : decode cX8_init 243 = .ok (.putfield 99, 3) := by decide +kernel
theorem dX8_init_246 : decode cX8_init 246 = .ok (.aload_n 0, 1) := by decide +kernel
theorem dX8_init_247 : decode cX8_init 247 = .ok (.sipush 256, 3) := by decide +kernel
theorem dX8_init_250 : decode cX8_init 250 = .ok (.newarray .int, 2) := by decide +kernel
theorem dX8_init_252 : decode cX8_init 252 = .ok (.putfield 102, 3) := by decide +kernel
theorem dX8_init_255 : decode cX8_init 255 = .ok (.aload_n 0, 1) := by decide +kernel
theorem dX8_init_256 : decode cX8_init 256 = .ok (.iload_n 1, 1) := by decide +kernel
theorem dX8_init_257 : decode cX8_init 257 = .ok (.iconst 2, 1) := by decide +kernel
theorem dX8_init_258 : decode cX8_init 258 = .ok (.if_icmp .ge 7, 3) := by decide +kernel
theorem dX8_init_261 : decode cX8_init 261 = .ok (.iconst 2, 1) := by decide +kernel
theorem dX8_init_262 : decode cX8_init 262 = .ok (.goto 15, 3) := by decide +kernel
theorem dX8_init_265 : decode cX8_init 265 = .ok (.iload_n 1, 1) := by decide +kernel
theorem dX8_init_266 : decode cX8_init 266 = .ok (.bipush 8, 2) := by decide +kernel
theorem dX8_init_268 : decode cX8_init 268 = .ok (.if_icmp .le 8, 3) := by decide +kernel
theorem dX8_init_271 : decode cX8_init 271 = .ok (.bipush 8, 2) := by decide +kernel
theorem dX8_init_273 : decode cX8_init 273 = .ok (.goto 4, 3) := by decide +kernel
theorem dX8_init_276 : decode cX8_init 276 = .ok (.iload_n 1, 1) := by decide +kernel
theorem dX8_init_277 : decode cX8_init 277 = .ok (.putfield 105, 3) := by decide +kernel
theorem dX8_init_280 : decode cX8_init 280 = .ok (.iconst 0, 1) := by decide +kernel
theorem dX8_init_281 : decode cX8_init 281 = .ok (.istore_n 2, 1) := by decide +kernel
theorem dX8_init_282 : decode cX8_init 282 = .ok (.iload_n 2, 1) := by decide +kernel
theorem dX8_init_283 : decode cX8_init 283 = .ok (.bipush 8, 2) := by decide +kernel
theorem dX8_init_285 : decode cX8_init 285 = .ok (.if_icmp .ge 37, 3) := by decide +kernel
theorem dX8_init_288 : decode cX8_init 288 = .ok (.aload_n 0, 1) := by decide +kernel
theorem dX8_init_289 : decode cX8_init 289 = .ok (.getfield 13, 3) := by decide +kernel
theorem dX8_init_292 : decode cX8_init 292 = .ok (.iconst 2, 1) := by decide +kernel
theorem dX8_init_293 : decode cX8_init 293 = .ok (.iload_n 2, 1) := by decide +kernel
theorem dX8_init_294 : decode cX8_init 294 = .ok (.imul, 1) := by decide +kernel
theorem dX8_init_295 : decode cX8_init 295 = .ok (.iconst 5, 1) := by decide +kernel
theorem dX8_init_296 : decode cX8_init 296 = .ok (.iastore, 1) := by decide +kernel
theorem dX8_init_297 : decode cX8_init 297 = .ok (.aload_n 0, 1) := by decide +kernel
theorem dX8_init_298 : decode cX8_init 298 = .ok (.getfield 13, 3) := by decide +kernel
theorem dX8_init_301 : decode cX8_init 301 = .ok (.iconst 2, 1) := by decide +kernel
theorem dX8_init_302 : decode cX8_init 302 = .ok (.iload_n 2, 1) := by decide +kernel
theorem dX8_init_303 : decode cX8_init 303 = .ok (.imul, 1) := by decide +kernel
theorem dX8_init_304 : decode cX8_init 304 = .ok (.iconst 1, 1) := by decide +kernel
theorem dX8_init_305 : decode cX8_init 305 = .ok (.iadd, 1) := by decide +kernel
theorem dX8_init_306 : decode cX8_init 306 = .ok (.bipush 8, 2) := by decide +kernel
theorem dX8_init_308 : decode cX8_init 308 = .ok (.iastore, 1) := by decide +kernel
theorem dX8_init_309 : decode cX8_init 309 = .ok (.aload_n 0, 1) := by decide +kernel
theorem dX8_init_310 : decode cX8_init 310 = .ok (.getfield 17, 3) := by decide +kernel
theorem dX8_init_313 : decode cX8_init 313 = .ok (.iload_n 2, 1) := by decide +kernel
theorem dX8_init_314 : decode cX8_init 314 = .ok (.iconst 2, 1) := by decide +kernel
theorem dX8_init_315 : decode cX8_init 315 = .ok (.iastore, 1) := by decide +kernel
theorem dX8_init_316 : decode cX8_init 316 = .ok (.iinc 2 1, 3) := by decide +kernel
theorem dX8_init_319 : decode cX8_init 319 = .ok (.goto (-37), 3) := by decide +kernel
theorem dX8_init_322 : decode cX8_init 322 = .ok (.iconst 0, 1) := by decide +kernel
theorem dX8_init_323 : decode cX8_init 323 = .ok (.istore_n 2, 1) := by decide +kernel
theorem dX8_init_324 : decode cX8_init 324 = .ok (.iload_n 2, 1) := by decide +kernel
theorem dX8_init_325 : decode cX8_init 325 = .ok (.bipush 16, 2) := by decide +kernel
theorem dX8_init_327 : decode cX8_init 327 = .ok (.if_icmp .ge 16, 3) := by decide +kernel
theorem dX8_init_330 : decode cX8_init 330 = .ok (.aload_n 0, 1) := by decide +kernel
theorem dX8_init_331 : decode cX8_init 331 = .ok (.getfield 57, 3) := by decide +kernel
theorem dX8_init_334 : decode cX8_init 334 = .ok (.iload_n 2, 1) := by decide +kernel
theorem dX8_init_335 : decode cX8_init 335 = .ok (.iconst (-1), 1) := by decide +kernel
theorem dX8_init_336 : decode cX8_init 336 = .ok (.iastore, 1) := by decide +kernel
theorem dX8_init_337 : decode cX8_init 337 = .ok (.iinc 2 1, 3) := by decide +kernel
theorem dX8_init_340 : decode cX8_init 340 = .ok (.goto (-16), 3) := by decide +kernel
theorem dX8_init_343 : decode cX8_init 343 = .ok (.return_, 1) := by decide +kernel
theorem dX8_in_0 : decode cX8_in 0 = .ok (.iload_n 0, 1) := by decide +kernel
theorem dX8_in_1 : decode cX8_in 1 = .ok (.iload_n 1, 1) := by decide +kernel
theorem dX8_in_2 : decode cX8_in 2 = .ok (.if_icmp .lt 12, 3) := by decide +kernel
theorem dX8_in_5 : decode cX8_in 5 = .ok (.iload_n 0, 1) := by decide +kernel
theorem dX8_in_6 : decode cX8_in 6 = .ok (.iload_n 2, 1) := by decide +kernel
theorem dX8_in_7 : decode cX8_in 7 = .ok (.if_icmp .gt 7, 3) := by decide +kernel
theorem dX8_in_10 : decode cX8_in 10 = .ok (.iconst 1, 1) := by decide +kernel
theorem dX8_in_11 : decode cX8_in 11 = .ok (.goto 4, 3) := by decide +kernel
theorem dX8_in_14 : decode cX8_in 14 = .ok (.iconst 0, 1) := by decide +kernel
theorem dX8_in_15 : decode cX8_in 15 = .ok (.ireturn, 1) := by decide +kernel
theorem dX8_isBid_0 : decode cX8_isBid 0 = .ok (.iload_n 1, 1) := by decide +kernel
theorem dX8_isBid_1 : decode cX8_isBid 1 = .ok (.iconst 0, 1) := by decide +kernel
theorem dX8_isBid_2 : decode cX8_isBid 2 = .ok (.aload_n 0, 1) := by decide +kernel
theorem dX8_isBid_3 : decode cX8_isBid 3 = .ok (.getfield 108, 3) := by decide +kernel
theorem dX8_isBid_6 : decode cX8_isBid 6 = .ok (.iconst 1, 1) := by decide +kernel
theorem dX8_isBid_7 : decode cX8_isBid 7 = .ok (.isub, 1) := by decide +kernel
theorem dX8_isBid_8 : decode cX8_isBid 8 = .ok (.invokestatic 111, 3) := by decide +kernel
theorem dX8_isBid_11 : decode cX8_isBid 11 = .ok (.ireturn, 1) := by decide +kernel
theorem dX8_section_0 : decode cX8_section 0 = .ok (.iconst 0, 1) := by decide +kernel
theorem dX8_section_1 : decode cX8_section 1 = .ok (.istore 5, 2) := by decide +kernel
theorem dX8_section_3 : decode cX8_section 3 = .ok (.iload 5, 2) := by decide +kernel
theorem dX8_section_5 : decode cX8_section 5 = .ok (.aload_n 0, 1) := by decide +kernel
theorem dX8_section_6 : decode cX8_section 6 = .ok (.getfield 108, 3) := by decide +kernel
theorem dX8_section_9 : decode cX8_section 9 = .ok (.if_icmp .ge 21, 3) := by decide +kernel
theorem dX8_section_12 : decode cX8_section 12 = .ok (.aload_n 0, 1) := by decide +kernel
theorem dX8_section_13 : decode cX8_section 13 = .ok (.getfield 60, 3) := by decide +kernel
theorem dX8_section_16 : decode cX8_section 16 = .ok (.iload 5, 2) := by decide +kernel
theorem dX8_section_18 : decode cX8_section 18 = .ok (.baload, 1) := by decide +kernel
theorem dX8_section_19 : decode cX8_section 19 = .ok (.ifCond .eq 5, 3) := by decide +kernel
theorem dX8_section_22 : decode cX8_section 22 = .ok (.iconst 0, 1) := by decide +kernel
theorem dX8_section_23 : decode cX8_section 23 = .ok (.ireturn, 1) := by decide +kernel
theorem dX8_section_24 : decode cX8_section 24 = .ok (.iinc 5 1, 3) := by decide +kernel
theorem dX8_section_27 : decode cX8_section 27 = .ok (.goto (-24), 3) := by decide +kernel
theorem dX8_section_30 : decode cX8_section 30 = .ok (.iload_n 1, 1) := by decide +kernel
theorem dX8_section_31 : decode cX8_section 31 = .ok (.iconst 0, 1) := by decide +kernel
theorem dX8_section_32 : decode cX8_section 32 = .ok (.aload_n 0, 1) := by decide +kernel
theorem dX8_section_33 : decode cX8_section 33 = .ok (.getfield 105, 3) := by decide +kernel
theorem dX8_section_36 : decode cX8_section 36 = .ok (.iconst 2, 1) := by decide +kernel
theorem dX8_section_37 : decode cX8_section 37 = .ok (.isub, 1) := by decide +kernel
theorem dX8_section_38 : decode cX8_section 38 = .ok (.invokestatic 111, 3) := by decide +kernel
theorem dX8_section_41 : decode cX8_section 41 = .ok (.ifCond .eq 24, 3) := by decide +kernel
theorem dX8_section_44 : decode cX8_section 44 = .ok (.iload_n 3, 1) := by decide +kernel
theorem dX8_section_45 : decode cX8_section 45 = .ok (.iconst 1, 1) := by decide +kernel
theorem dX8_section_46 : decode cX8_section 46 = .ok (.bipush 30, 2) := by decide +kernel
theorem dX8_section_48 : decode cX8_section 48 = .ok (.invokestatic 111, 3) := by decide +kernel
theorem dX8_section_51 : decode cX8_section 51 = .ok (.ifCond .eq 14, 3) := by decide +kernel
theorem dX8_section_54 : decode cX8_section 54 = .ok (.iload 4, 2) := by decide +kernel
theorem dX8_section_56 : decode cX8_section 56 = .ok (.iconst 1, 1) := by decide +kernel
theorem dX8_section_57 : decode cX8_section 57 = .ok (.bipush 30, 2) := by decide +kernel
theorem dX8_section_59 : decode cX8_section 59 = .ok (.invokestatic 111, 3) := by decide +kernel
theorem dX8_section_62 : decode cX8_section 62 = .ok (.ifCond .ne 5, 3) := by decide +kernel
theorem dX8_section_65 : decode cX8_section 65 = .ok (.iconst 0, 1) := by decide +kernel
theorem dX8_section_66 : decode cX8_section 66 = .ok (.ireturn, 1) := by decide +kernel
theorem dX8_section_67 : decode cX8_section 67 = .ok (.aload_n 0, 1) := by decide +kernel
theorem dX8_section_68 : decode cX8_section 68 = .ok (.getfield 9, 3) := by decide +kernel
theorem dX8_section_71 : decode cX8_section 71 = .ok (.iload_n 1, 1) := by decide +kernel
theorem dX8_section_72 : decode cX8_section 72 = .ok (.iload_n 2, 1) := by decide +kernel
theorem dX8_section_73 : decode cX8_section 73 = .ok (.bastore, 1) := by decide +kernel
theorem dX8_section_74 : decode cX8_section 74 = .ok (.aload_n 0, 1) := by decide +kernel
theorem dX8_section_75 : decode cX8_section 75 = .ok (.getfield 13, 3) := by decide +kernel
theorem dX8_section_78 : decode cX8_section 78 = .ok (.iconst 2, 1) := by decide +kernel
theorem dX8_section_79 : decode cX8_section 79 = .ok (.iload_n 1, 1) := by decide +kernel
theorem dX8_section_80 : decode cX8_section 80 = .ok (.imul, 1) := by decide +kernel
theorem dX8_section_81 : decode cX8_section 81 = .ok (.iload_n 3, 1) := by decide +kernel
theorem dX8_section_82 : decode cX8_section 82 = .ok (.iastore, 1) := by decide +kernel
theorem dX8_section_83 : decode cX8_section 83 = .ok (.aload_n 0, 1) := by decide +kernel
theorem dX8_section_84 : decode cX8_section 84 = .ok (.getfield 13, 3) := by decide +kernel
theorem dX8_section_87 : decode cX8_section 87 = .ok (.iconst 2, 1) := by decide +kernel
theorem dX8_section_88 : decode cX8_section 88 = .ok (.iload_n 1, 1) := by decide +kernel
theorem dX8_section_89 : decode cX8_section 89 = .ok (.imul, 1) := by decide +kernel
theorem dX8_section_90 : decode cX8_section 90 = .ok (.iconst 1, 1) := by decide +kernel
theorem dX8_section_91 : decode cX8_section 91 = .ok (.iadd, 1) := by decide +kernel
theorem dX8_section_92 : decode cX8_section 92 = .ok (.iload 4, 2) := by decide +kernel
theorem dX8_section_94 : decode cX8_section 94 = .ok (.iastore, 1) := by decide +kernel
theorem dX8_section_95 : decode cX8_section 95 = .ok (.iconst 1, 1) := by decide +kernel
theorem dX8_section_96 : decode cX8_section 96 = .ok (.ireturn, 1) := by decide +kernel
theorem dX8_tracks_0 : decode cX8_tracks 0 = .ok (.iload_n 1, 1) := by decide +kernel
theorem dX8_tracks_1 : decode cX8_tracks 1 = .ok (.iconst 0, 1) := by decide +kernel
theorem dX8_tracks_2 : decode cX8_tracks 2 = .ok (.aload_n 0, 1) := by decide +kernel
theorem dX8_tracks_3 : decode cX8_tracks 3 = .ok (.getfield 105, 3) := by decide +kernel
theorem dX8_tracks_6 : decode cX8_tracks 6 = .ok (.iconst 1, 1) := by decide +kernel
theorem dX8_tracks_7 : decode cX8_tracks 7 = .ok (.isub, 1) := by decide +kernel
theorem dX8_tracks_8 : decode cX8_tracks 8 = .ok (.invokestatic 111, 3) := by decide +kernel
theorem dX8_tracks_11 : decode cX8_tracks 11 = .ok (.ifCond .eq 13, 3) := by decide +kernel
theorem dX8_tracks_14 : decode cX8_tracks 14 = .ok (.iload_n 2, 1) := by decide +kernel
theorem dX8_tracks_15 : decode cX8_tracks 15 = .ok (.iconst 0, 1) := by decide +kernel
theorem dX8_tracks_16 : decode cX8_tracks 16 = .ok (.bipush 9, 2) := by decide +kernel
theorem dX8_tracks_18 : decode cX8_tracks 18 = .ok (.invokestatic 111, 3) := by decide +kernel
theorem dX8_tracks_21 : decode cX8_tracks 21 = .ok (.ifCond .ne 5, 3) := by decide +kernel
theorem dX8_tracks_24 : decode cX8_tracks 24 = .ok (.iconst 0, 1) := by decide +kernel
theorem dX8_tracks_25 : decode cX8_tracks 25 = .ok (.ireturn, 1) := by decide +kernel
theorem dX8_tracks_26 : decode cX8_tracks 26 = .ok (.aload_n 0, 1) := by decide +kernel
theorem dX8_tracks_27 : decode cX8_tracks 27 = .ok (.getfield 17, 3) := by decide +kernel
theorem dX8_tracks_30 : decode cX8_tracks 30 = .ok (.iload_n 1, 1) := by decide +kernel
theorem dX8_tracks_31 : decode cX8_tracks 31 = .ok (.iload_n 2, 1) := by decide +kernel
theorem dX8_tracks_32 : decode cX8_tracks 32 = .ok (.iastore, 1) := by decide +kernel
theorem dX8_tracks_33 : decode cX8_tracks 33 = .ok (.iconst 1, 1) := by decide +kernel
theorem dX8_tracks_34 : decode cX8_tracks 34 = .ok (.ireturn, 1) := by decide +kernel
theorem dX8_headway_0 : decode cX8_headway 0 = .ok (.iload_n 1, 1) := by decide +kernel
theorem dX8_headway_1 : decode cX8_headway 1 = .ok (.iconst 0, 1) := by decide +kernel
theorem dX8_headway_2 : decode cX8_headway 2 = .ok (.bipush 9, 2) := by decide +kernel
theorem dX8_headway_4 : decode cX8_headway 4 = .ok (.invokestatic 111, 3) := by decide +kernel
theorem dX8_headway_7 : decode cX8_headway 7 = .ok (.ifCond .ne 5, 3) := by decide +kernel
theorem dX8_headway_10 : decode cX8_headway 10 = .ok (.iconst 0, 1) := by decide +kernel
theorem dX8_headway_11 : decode cX8_headway 11 = .ok (.ireturn, 1) := by decide +kernel
theorem dX8_headway_12 : decode cX8_headway 12 = .ok (.aload_n 0, 1) := by decide +kernel
theorem dX8_headway_13 : decode cX8_headway 13 = .ok (.iload_n 1, 1) := by decide +kernel
theorem dX8_headway_14 : decode cX8_headway 14 = .ok (.putfield 20, 3) := by decide +kernel
theorem dX8_headway_17 : decode cX8_headway 17 = .ok (.iconst 1, 1) := by decide +kernel
theorem dX8_headway_18 : decode cX8_headway 18 = .ok (.ireturn, 1) := by decide +kernel
theorem dX8_works_0 : decode cX8_works 0 = .ok (.iload_n 1, 1) := by decide +kernel
theorem dX8_works_1 : decode cX8_works 1 = .ok (.iconst 0, 1) := by decide +kernel
theorem dX8_works_2 : decode cX8_works 2 = .ok (.aload_n 0, 1) := by decide +kernel
theorem dX8_works_3 : decode cX8_works 3 = .ok (.getfield 105, 3) := by decide +kernel
theorem dX8_works_6 : decode cX8_works 6 = .ok (.iconst 2, 1) := by decide +kernel
theorem dX8_works_7 : decode cX8_works 7 = .ok (.isub, 1) := by decide +kernel
theorem dX8_works_8 : decode cX8_works 8 = .ok (.invokestatic 111, 3) := by decide +kernel
theorem dX8_works_11 : decode cX8_works 11 = .ok (.ifCond .eq 36, 3) := by decide +kernel
theorem dX8_works_14 : decode cX8_works 14 = .ok (.iload_n 2, 1) := by decide +kernel
theorem dX8_works_15 : decode cX8_works 15 = .ok (.iconst 0, 1) := by decide +kernel
theorem dX8_works_16 : decode cX8_works 16 = .ok (.sipush 480, 3) := by decide +kernel
theorem dX8_works_19 : decode cX8_works 19 = .ok (.invokestatic 111, 3) := by decide +kernel
theorem dX8_works_22 : decode cX8_works 22 = .ok (.ifCond .eq 25, 3) := by decide +kernel
theorem dX8_works_25 : decode cX8_works 25 = .ok (.iload_n 3, 1) := by decide +kernel
theorem dX8_works_26 : decode cX8_works 26 = .ok (.iload_n 2, 1) := by decide +kernel
theorem dX8_works_27 : decode cX8_works 27 = .ok (.iconst 1, 1) := by decide +kernel
theorem dX8_works_28 : decode cX8_works 28 = .ok (.iadd, 1) := by decide +kernel
theorem dX8_works_29 : decode cX8_works 29 = .ok (.sipush 480, 3) := by decide +kernel
theorem dX8_works_32 : decode cX8_works 32 = .ok (.invokestatic 111, 3) := by decide +kernel
theorem dX8_works_35 : decode cX8_works 35 = .ok (.ifCond .eq 12, 3) := by decide +kernel
theorem dX8_works_38 : decode cX8_works 38 = .ok (.aload_n 0, 1) := by decide +kernel
theorem dX8_works_39 : decode cX8_works 39 = .ok (.getfield 115, 3) := by decide +kernel
theorem dX8_works_42 : decode cX8_works 42 = .ok (.bipush 10, 2) := by decide +kernel
theorem dX8_works_44 : decode cX8_works 44 = .ok (.if_icmp .ne 5, 3) := by decide +kernel
theorem dX8_works_47 : decode cX8_works 47 = .ok (.iconst 0, 1) := by decide +kernel
theorem dX8_works_48 : decode cX8_works 48 = .ok (.ireturn, 1) := by decide +kernel
theorem dX8_works_49 : decode cX8_works 49 = .ok (.aload_n 0, 1) := by decide +kernel
theorem dX8_works_50 : decode cX8_works 50 = .ok (.getfield 24, 3) := by decide +kernel
theorem dX8_works_53 : decode cX8_works 53 = .ok (.aload_n 0, 1) := by decide +kernel
theorem dX8_works_54 : decode cX8_works 54 = .ok (.getfield 115, 3) := by decide +kernel
theorem dX8_works_57 : decode cX8_works 57 = .ok (.iload_n 1, 1) := by decide +kernel
theorem dX8_works_58 : decode cX8_works 58 = .ok (.iastore, 1) := by decide +kernel
theorem dX8_works_59 : decode cX8_works 59 = .ok (.aload_n 0, 1) := by decide +kernel
theorem dX8_works_60 : decode cX8_works 60 = .ok (.getfield 27, 3) := by decide +kernel
theorem dX8_works_63 : decode cX8_works 63 = .ok (.aload_n 0, 1) := by decide +kernel
theorem dX8_works_64 : decode cX8_works 64 = .ok (.getfield 115, 3) := by decide +kernel
theorem dX8_works_67 : decode cX8_works 67 = .ok (.iload_n 2, 1) := by decide +kernel
theorem dX8_works_68 : decode cX8_works 68 = .ok (.iastore, 1) := by decide +kernel
theorem dX8_works_69 : decode cX8_works 69 = .ok (.aload_n 0, 1) := by decide +kernel
theorem dX8_works_70 : decode cX8_works 70 = .ok (.getfield 30, 3) := by decide +kernel
theorem dX8_works_73 : decode cX8_works 73 = .ok (.aload_n 0, 1) := by decide +kernel
theorem dX8_works_74 : decode cX8_works 74 = .ok (.getfield 115, 3) := by decide +kernel
theorem dX8_works_77 : decode cX8_works 77 = .ok (.iload_n 3, 1) := by decide +kernel
theorem dX8_works_78 : decode cX8_works 78 = .ok (.iastore, 1) := by decide +kernel
theorem dX8_works_79 : decode cX8_works 79 = .ok (.aload_n 0, 1) := by decide +kernel
theorem dX8_works_80 : decode cX8_works 80 = .ok (.dup, 1) := by decide +kernel
theorem dX8_works_81 : decode cX8_works 81 = .ok (.getfield 115, 3) := by decide +kernel
theorem dX8_works_84 : decode cX8_works 84 = .ok (.iconst 1, 1) := by decide +kernel
theorem dX8_works_85 : decode cX8_works 85 = .ok (.iadd, 1) := by decide +kernel
theorem dX8_works_86 : decode cX8_works 86 = .ok (.putfield 115, 3) := by decide +kernel
theorem dX8_works_89 : decode cX8_works 89 = .ok (.iconst 1, 1) := by decide +kernel
theorem dX8_works_90 : decode cX8_works 90 = .ok (.ireturn, 1) := by decide +kernel
theorem dX8_bid_0 : decode cX8_bid 0 = .ok (.iload_n 1, 1) := by decide +kernel
theorem dX8_bid_1 : decode cX8_bid 1 = .ok (.sipush 10000, 3) := by decide +kernel
theorem dX8_bid_4 : decode cX8_bid 4 = .ok (.idiv, 1) := by decide +kernel
theorem dX8_bid_5 : decode cX8_bid 5 = .ok (.istore 5, 2) := by decide +kernel
theorem dX8_bid_7 : decode cX8_bid 7 = .ok (.iload_n 1, 1) := by decide +kernel
theorem dX8_bid_8 : decode cX8_bid 8 = .ok (.sipush 1000, 3) := by decide +kernel
theorem dX8_bid_11 : decode cX8_bid 11 = .ok (.idiv, 1) := by decide +kernel
theorem dX8_bid_12 : decode cX8_bid 12 = .ok (.bipush 10, 2) := by decide +kernel
theorem dX8_bid_14 : decode cX8_bid 14 = .ok (.irem, 1) := by decide +kernel
theorem dX8_bid_15 : decode cX8_bid 15 = .ok (.istore 6, 2) := by decide +kernel
theorem dX8_bid_17 : decode cX8_bid 17 = .ok (.iload_n 1, 1) := by decide +kernel
theorem dX8_bid_18 : decode cX8_bid 18 = .ok (.bipush 100, 2) := by decide +kernel
theorem dX8_bid_20 : decode cX8_bid 20 = .ok (.idiv, 1) := by decide +kernel
theorem dX8_bid_21 : decode cX8_bid 21 = .ok (.bipush 10, 2) := by decide +kernel
theorem dX8_bid_23 : decode cX8_bid 23 = .ok (.irem, 1) := by decide +kernel
theorem dX8_bid_24 : decode cX8_bid 24 = .ok (.istore 7, 2) := by decide +kernel
theorem dX8_bid_26 : decode cX8_bid 26 = .ok (.iload_n 1, 1) := by decide +kernel
theorem dX8_bid_27 : decode cX8_bid 27 = .ok (.bipush 10, 2) := by decide +kernel
theorem dX8_bid_29 : decode cX8_bid 29 = .ok (.idiv, 1) := by decide +kernel
theorem dX8_bid_30 : decode cX8_bid 30 = .ok (.bipush 10, 2) := by decide +kernel
theorem dX8_bid_32 : decode cX8_bid 32 = .ok (.irem, 1) := by decide +kernel
theorem dX8_bid_33 : decode cX8_bid 33 = .ok (.istore 8, 2) := by decide +kernel
theorem dX8_bid_35 : decode cX8_bid 35 = .ok (.iload_n 1, 1) := by decide +kernel
theorem dX8_bid_36 : decode cX8_bid 36 = .ok (.ifCond .lt 52, 3) := by decide +kernel
theorem dX8_bid_39 : decode cX8_bid 39 = .ok (.iload_n 2, 1) := by decide +kernel
theorem dX8_bid_40 : decode cX8_bid 40 = .ok (.ifCond .lt 48, 3) := by decide +kernel
theorem dX8_bid_43 : decode cX8_bid 43 = .ok (.iload_n 1, 1) := by decide +kernel
theorem dX8_bid_44 : decode cX8_bid 44 = .ok (.bipush 10, 2) := by decide +kernel
theorem dX8_bid_46 : decode cX8_bid 46 = .ok (.irem, 1) := by decide +kernel
theorem dX8_bid_47 : decode cX8_bid 47 = .ok (.ifCond .ne 41, 3) := by decide +kernel
theorem dX8_bid_50 : decode cX8_bid 50 = .ok (.iload 5, 2) := by decide +kernel
theorem dX8_bid_52 : decode cX8_bid 52 = .ok (.bipush 6, 2) := by decide +kernel
theorem dX8_bid_54 : decode cX8_bid 54 = .ok (.if_icmp .ge 34, 3) := by decide +kernel
theorem dX8_bid_57 : decode cX8_bid 57 = .ok (.iload 6, 2) := by decide +kernel
theorem dX8_bid_59 : decode cX8_bid 59 = .ok (.aload_n 0, 1) := by decide +kernel
theorem dX8_bid_60 : decode cX8_bid 60 = .ok (.getfield 105, 3) := by decide +kernel
theorem dX8_bid_63 : decode cX8_bid 63 = .ok (.if_icmp .ge 25, 3) := by decide +kernel
theorem dX8_bid_66 : decode cX8_bid 66 = .ok (.iload 7, 2) := by decide +kernel
theorem dX8_bid_68 : decode cX8_bid 68 = .ok (.aload_n 0, 1) := by decide +kernel
theorem dX8_bid_69 : decode cX8_bid 69 = .ok (.getfield 105, 3) := by decide +kernel
theorem dX8_bid_72 : decode cX8_bid 72 = .ok (.if_icmp .ge 16, 3) := by decide +kernel
theorem dX8_bid_75 : decode cX8_bid 75 = .ok (.iload 6, 2) := by decide +kernel
theorem dX8_bid_77 : decode cX8_bid 77 = .ok (.iload 7, 2) := by decide +kernel
theorem dX8_bid_79 : decode cX8_bid 79 = .ok (.if_icmp .eq 9, 3) := by decide +kernel
theorem dX8_bid_82 : decode cX8_bid 82 = .ok (.iload 8, 2) := by decide +kernel
theorem dX8_bid_84 : decode cX8_bid 84 = .ok (.iconst 1, 1) := by decide +kernel
theorem dX8_bid_85 : decode cX8_bid 85 = .ok (.if_icmp .le 5, 3) := by decide +kernel
theorem dX8_bid_88 : decode cX8_bid 88 = .ok (.iconst (-1), 1) := by decide +kernel
theorem dX8_bid_89 : decode cX8_bid 89 = .ok (.ireturn, 1) := by decide +kernel
theorem dX8_bid_90 : decode cX8_bid 90 = .ok (.iload_n 2, 1) := by decide +kernel
theorem dX8_bid_91 : decode cX8_bid 91 = .ok (.sipush 1000, 3) := by decide +kernel
theorem dX8_bid_94 : decode cX8_bid 94 = .ok (.idiv, 1) := by decide +kernel
theorem dX8_bid_95 : decode cX8_bid 95 = .ok (.sipush 240, 3) := by decide +kernel
theorem dX8_bid_98 : decode cX8_bid 98 = .ok (.if_icmp .ge 45, 3) := by decide +kernel
theorem dX8_bid_101 : decode cX8_bid 101 = .ok (.iload_n 2, 1) := by decide +kernel
theorem dX8_bid_102 : decode cX8_bid 102 = .ok (.sipush 1000, 3) := by decide +kernel
theorem dX8_bid_105 : decode cX8_bid 105 = .ok (.irem, 1) := by decide +kernel
theorem dX8_bid_106 : decode cX8_bid 106 = .ok (.sipush 240, 3) := by decide +kernel
theorem dX8_bid_109 : decode cX8_bid 109 = .ok (.if_icmp .ge 34, 3) := by decide +kernel
theorem dX8_bid_112 : decode cX8_bid 112 = .ok (.iload_n 3, 1) := by decide +kernel
theorem dX8_bid_113 : decode cX8_bid 113 = .ok (.iconst 0, 1) := by decide +kernel
theorem dX8_bid_114 : decode cX8_bid 114 = .ok (.sipush 1000, 3) := by decide +kernel
theorem dX8_bid_117 : decode cX8_bid 117 = .ok (.invokestatic 111, 3) := by decide +kernel
theorem dX8_bid_120 : decode cX8_bid 120 = .ok (.ifCond .eq 23, 3) := by decide +kernel
theorem dX8_bid_123 : decode cX8_bid 123 = .ok (.iload 4, 2) := by decide +kernel
theorem dX8_bid_125 : decode cX8_bid 125 = .ok (.iconst 0, 1) := by decide +kernel
theorem dX8_bid_126 : decode cX8_bid 126 = .ok (.bipush 99, 2) := by decide +kernel
theorem dX8_bid_128 : decode cX8_bid 128 = .ok (.invokestatic 111, 3) := by decide +kernel
theorem dX8_bid_131 : decode cX8_bid 131 = .ok (.ifCond .eq 12, 3) := by decide +kernel
theorem dX8_bid_134 : decode cX8_bid 134 = .ok (.aload_n 0, 1) := by decide +kernel
theorem dX8_bid_135 : decode cX8_bid 135 = .ok (.getfield 108, 3) := by decide +kernel
theorem dX8_bid_138 : decode cX8_bid 138 = .ok (.bipush 16, 2) := by decide +kernel
theorem dX8_bid_140 : decode cX8_bid 140 = .ok (.if_icmp .ne 5, 3) := by decide +kernel
theorem dX8_bid_143 : decode cX8_bid 143 = .ok (.iconst (-1), 1) := by decide +kernel
theorem dX8_bid_144 : decode cX8_bid 144 = .ok (.ireturn, 1) := by decide +kernel
theorem dX8_bid_145 : decode cX8_bid 145 = .ok (.aload_n 0, 1) := by decide +kernel
theorem dX8_bid_146 : decode cX8_bid 146 = .ok (.getfield 33, 3) := by decide +kernel
theorem dX8_bid_149 : decode cX8_bid 149 = .ok (.aload_n 0, 1) := by decide +kernel
theorem dX8_bid_150 : decode cX8_bid 150 = .ok (.getfield 108, 3) := by decide +kernel
theorem dX8_bid_153 : decode cX8_bid 153 = .ok (.iload 5, 2) := by decide +kernel
theorem dX8_bid_155 : decode cX8_bid 155 = .ok (.iastore, 1) := by decide +kernel
theorem dX8_bid_156 : decode cX8_bid 156 = .ok (.aload_n 0, 1) := by decide +kernel
theorem dX8_bid_157 : decode cX8_bid 157 = .ok (.getfield 36, 3) := by decide +kernel
theorem dX8_bid_160 : decode cX8_bid 160 = .ok (.aload_n 0, 1) := by decide +kernel
theorem dX8_bid_161 : decode cX8_bid 161 = .ok (.getfield 108, 3) := by decide +kernel
theorem dX8_bid_164 : decode cX8_bid 164 = .ok (.iload 6, 2) := by decide +kernel
theorem dX8_bid_166 : decode cX8_bid 166 = .ok (.iastore, 1) := by decide +kernel
theorem dX8_bid_167 : decode cX8_bid 167 = .ok (.aload_n 0, 1) := by decide +kernel
theorem dX8_bid_168 : decode cX8_bid 168 = .ok (.getfield 39, 3) := by decide +kernel
theorem dX8_bid_171 : decode cX8_bid 171 = .ok (.aload_n 0, 1) := by decide +kernel
theorem dX8_bid_172 : decode cX8_bid 172 = .ok (.getfield 108, 3) := by decide +kernel
theorem dX8_bid_175 : decode cX8_bid 175 = .ok (.iload 7, 2) := by decide +kernel
theorem dX8_bid_177 : decode cX8_bid 177 = .ok (.iastore, 1) := by decide +kernel
theorem dX8_bid_178 : decode cX8_bid 178 = .ok (.aload_n 0, 1) := by decide +kernel
theorem dX8_bid_179 : decode cX8_bid 179 = .ok (.getfield 42, 3) := by decide +kernel
theorem dX8_bid_182 : decode cX8_bid 182 = .ok (.aload_n 0, 1) := by decide +kernel
theorem dX8_bid_183 : decode cX8_bid 183 = .ok (.getfield 108, 3) := by decide +kernel
theorem dX8_bid_186 : decode cX8_bid 186 = .ok (.iload 8, 2) := by decide +kernel
theorem dX8_bid_188 : decode cX8_bid 188 = .ok (.iastore, 1) := by decide +kernel
theorem dX8_bid_189 : decode cX8_bid 189 = .ok (.aload_n 0, 1) := by decide +kernel
theorem dX8_bid_190 : decode cX8_bid 190 = .ok (.getfield 45, 3) := by decide +kernel
theorem dX8_bid_193 : decode cX8_bid 193 = .ok (.aload_n 0, 1) := by decide +kernel
theorem dX8_bid_194 : decode cX8_bid 194 = .ok (.getfield 108, 3) := by decide +kernel
theorem dX8_bid_197 : decode cX8_bid 197 = .ok (.iload_n 2, 1) := by decide +kernel
theorem dX8_bid_198 : decode cX8_bid 198 = .ok (.sipush 1000, 3) := by decide +kernel
theorem dX8_bid_201 : decode cX8_bid 201 = .ok (.idiv, 1) := by decide +kernel
theorem dX8_bid_202 : decode cX8_bid 202 = .ok (.iastore, 1) := by decide +kernel
theorem dX8_bid_203 : decode cX8_bid 203 = .ok (.aload_n 0, 1) := by decide +kernel
theorem dX8_bid_204 : decode cX8_bid 204 = .ok (.getfield 48, 3) := by decide +kernel
theorem dX8_bid_207 : decode cX8_bid 207 = .ok (.aload_n 0, 1) := by decide +kernel
theorem dX8_bid_208 : decode cX8_bid 208 = .ok (.getfield 108, 3) := by decide +kernel
theorem dX8_bid_211 : decode cX8_bid 211 = .ok (.iload_n 2, 1) := by decide +kernel
theorem dX8_bid_212 : decode cX8_bid 212 = .ok (.sipush 1000, 3) := by decide +kernel
theorem dX8_bid_215 : decode cX8_bid 215 = .ok (.irem, 1) := by decide +kernel
theorem dX8_bid_216 : decode cX8_bid 216 = .ok (.iastore, 1) := by decide +kernel
theorem dX8_bid_217 : decode cX8_bid 217 = .ok (.aload_n 0, 1) := by decide +kernel
theorem dX8_bid_218 : decode cX8_bid 218 = .ok (.getfield 51, 3) := by decide +kernel
theorem dX8_bid_221 : decode cX8_bid 221 = .ok (.aload_n 0, 1) := by decide +kernel
theorem dX8_bid_222 : decode cX8_bid 222 = .ok (.getfield 108, 3) := by decide +kernel
theorem dX8_bid_225 : decode cX8_bid 225 = .ok (.iload_n 3, 1) := by decide +kernel
theorem dX8_bid_226 : decode cX8_bid 226 = .ok (.iastore, 1) := by decide +kernel
theorem dX8_bid_227 : decode cX8_bid 227 = .ok (.aload_n 0, 1) := by decide +kernel
theorem dX8_bid_228 : decode cX8_bid 228 = .ok (.getfield 54, 3) := by decide +kernel
theorem dX8_bid_231 : decode cX8_bid 231 = .ok (.aload_n 0, 1) := by decide +kernel
theorem dX8_bid_232 : decode cX8_bid 232 = .ok (.getfield 108, 3) := by decide +kernel
theorem dX8_bid_235 : decode cX8_bid 235 = .ok (.iload 4, 2) := by decide +kernel
theorem dX8_bid_237 : decode cX8_bid 237 = .ok (.iastore, 1) := by decide +kernel
theorem dX8_bid_238 : decode cX8_bid 238 = .ok (.aload_n 0, 1) := by decide +kernel
theorem dX8_bid_239 : decode cX8_bid 239 = .ok (.dup, 1) := by decide +kernel
theorem dX8_bid_240 : decode cX8_bid 240 = .ok (.getfield 108, 3) := by decide +kernel
theorem dX8_bid_243 : decode cX8_bid 243 = .ok (.iconst 1, 1) := by decide +kernel
theorem dX8_bid_244 : decode cX8_bid 244 = .ok (.iadd, 1) := by decide +kernel
theorem dX8_bid_245 : decode cX8_bid 245 = .ok (.putfield 108, 3) := by decide +kernel
theorem dX8_bid_248 : decode cX8_bid 248 = .ok (.aload_n 0, 1) := by decide +kernel
theorem dX8_bid_249 : decode cX8_bid 249 = .ok (.getfield 108, 3) := by decide +kernel
theorem dX8_bid_252 : decode cX8_bid 252 = .ok (.iconst 1, 1) := by decide +kernel
theorem dX8_bid_253 : decode cX8_bid 253 = .ok (.isub, 1) := by decide +kernel
theorem dX8_bid_254 : decode cX8_bid 254 = .ok (.ireturn, 1) := by decide +kernel
theorem dX8_link_0 : decode cX8_link 0 = .ok (.aload_n 0, 1) := by decide +kernel
theorem dX8_link_1 : decode cX8_link 1 = .ok (.iload_n 1, 1) := by decide +kernel
theorem dX8_link_2 : decode cX8_link 2 = .ok (.invokevirtual 118, 3) := by decide +kernel
theorem dX8_link_5 : decode cX8_link 5 = .ok (.ifCond .eq 36, 3) := by decide +kernel
theorem dX8_link_8 : decode cX8_link 8 = .ok (.aload_n 0, 1) := by decide +kernel
theorem dX8_link_9 : decode cX8_link 9 = .ok (.iload_n 2, 1) := by decide +kernel
theorem dX8_link_10 : decode cX8_link 10 = .ok (.invokevirtual 118, 3) := by decide +kernel
theorem dX8_link_13 : decode cX8_link 13 = .ok (.ifCond .eq 28, 3) := by decide +kernel
theorem dX8_link_16 : decode cX8_link 16 = .ok (.iload_n 1, 1) := by decide +kernel
theorem dX8_link_17 : decode cX8_link 17 = .ok (.iload_n 2, 1) := by decide +kernel
theorem dX8_link_18 : decode cX8_link 18 = .ok (.if_icmp .eq 23, 3) := by decide +kernel
theorem dX8_link_21 : decode cX8_link 21 = .ok (.aload_n 0, 1) := by decide +kernel
theorem dX8_link_22 : decode cX8_link 22 = .ok (.getfield 57, 3) := by decide +kernel
theorem dX8_link_25 : decode cX8_link 25 = .ok (.iload_n 1, 1) := by decide +kernel
theorem dX8_link_26 : decode cX8_link 26 = .ok (.iaload, 1) := by decide +kernel
theorem dX8_link_27 : decode cX8_link 27 = .ok (.iconst (-1), 1) := by decide +kernel
theorem dX8_link_28 : decode cX8_link 28 = .ok (.if_icmp .ne 13, 3) := by decide +kernel
theorem dX8_link_31 : decode cX8_link 31 = .ok (.aload_n 0, 1) := by decide +kernel
theorem dX8_link_32 : decode cX8_link 32 = .ok (.getfield 57, 3) := by decide +kernel
theorem dX8_link_35 : decode cX8_link 35 = .ok (.iload_n 2, 1) := by decide +kernel
theorem dX8_link_36 : decode cX8_link 36 = .ok (.iaload, 1) := by decide +kernel
theorem dX8_link_37 : decode cX8_link 37 = .ok (.iconst (-1), 1) := by decide +kernel
theorem dX8_link_38 : decode cX8_link 38 = .ok (.if_icmp .eq 5, 3) := by decide +kernel
theorem dX8_link_41 : decode cX8_link 41 = .ok (.iconst 0, 1) := by decide +kernel
theorem dX8_link_42 : decode cX8_link 42 = .ok (.ireturn, 1) := by decide +kernel
theorem dX8_link_43 : decode cX8_link 43 = .ok (.aload_n 0, 1) := by decide +kernel
theorem dX8_link_44 : decode cX8_link 44 = .ok (.getfield 57, 3) := by decide +kernel
theorem dX8_link_47 : decode cX8_link 47 = .ok (.iload_n 1, 1) := by decide +kernel
theorem dX8_link_48 : decode cX8_link 48 = .ok (.iload_n 2, 1) := by decide +kernel
theorem dX8_link_49 : decode cX8_link 49 = .ok (.iastore, 1) := by decide +kernel
theorem dX8_link_50 : decode cX8_link 50 = .ok (.aload_n 0, 1) := by decide +kernel
theorem dX8_link_51 : decode cX8_link 51 = .ok (.getfield 57, 3) := by decide +kernel
theorem dX8_link_54 : decode cX8_link 54 = .ok (.iload_n 2, 1) := by decide +kernel
theorem dX8_link_55 : decode cX8_link 55 = .ok (.iload_n 1, 1) := by decide +kernel
theorem dX8_link_56 : decode cX8_link 56 = .ok (.iastore, 1) := by decide +kernel
theorem dX8_link_57 : decode cX8_link 57 = .ok (.iconst 1, 1) := by decide +kernel
theorem dX8_link_58 : decode cX8_link 58 = .ok (.ireturn, 1) := by decide +kernel
theorem dX8_legs_0 : decode cX8_legs 0 = .ok (.aload_n 0, 1) := by decide +kernel
theorem dX8_legs_1 : decode cX8_legs 1 = .ok (.getfield 36, 3) := by decide +kernel
theorem dX8_legs_4 : decode cX8_legs 4 = .ok (.iload_n 1, 1) := by decide +kernel
theorem dX8_legs_5 : decode cX8_legs 5 = .ok (.iaload, 1) := by decide +kernel
theorem dX8_legs_6 : decode cX8_legs 6 = .ok (.aload_n 0, 1) := by decide +kernel
theorem dX8_legs_7 : decode cX8_legs 7 = .ok (.getfield 39, 3) := by decide +kernel
theorem dX8_legs_10 : decode cX8_legs 10 = .ok (.iload_n 1, 1) := by decide +kernel
theorem dX8_legs_11 : decode cX8_legs 11 = .ok (.iaload, 1) := by decide +kernel
theorem dX8_legs_12 : decode cX8_legs 12 = .ok (.if_icmp .ge 19, 3) := by decide +kernel
theorem dX8_legs_15 : decode cX8_legs 15 = .ok (.aload_n 0, 1) := by decide +kernel
theorem dX8_legs_16 : decode cX8_legs 16 = .ok (.getfield 39, 3) := by decide +kernel
theorem dX8_legs_19 : decode cX8_legs 19 = .ok (.iload_n 1, 1) := by decide +kernel
theorem dX8_legs_20 : decode cX8_legs 20 = .ok (.iaload, 1) := by decide +kernel
theorem dX8_legs_21 : decode cX8_legs 21 = .ok (.aload_n 0, 1) := by decide +kernel
theorem dX8_legs_22 : decode cX8_legs 22 = .ok (.getfield 36, 3) := by decide +kernel
theorem dX8_legs_25 : decode cX8_legs 25 = .ok (.iload_n 1, 1) := by decide +kernel
theorem dX8_legs_26 : decode cX8_legs 26 = .ok (.iaload, 1) := by decide +kernel
theorem dX8_legs_27 : decode cX8_legs 27 = .ok (.isub, 1) := by decide +kernel
theorem dX8_legs_28 : decode cX8_legs 28 = .ok (.goto 16, 3) := by decide +kernel
theorem dX8_legs_31 : decode cX8_legs 31 = .ok (.aload_n 0, 1) := by decide +kernel
theorem dX8_legs_32 : decode cX8_legs 32 = .ok (.getfield 36, 3) := by decide +kernel
theorem dX8_legs_35 : decode cX8_legs 35 = .ok (.iload_n 1, 1) := by decide +kernel
theorem dX8_legs_36 : decode cX8_legs 36 = .ok (.iaload, 1) := by decide +kernel
theorem dX8_legs_37 : decode cX8_legs 37 = .ok (.aload_n 0, 1) := by decide +kernel
theorem dX8_legs_38 : decode cX8_legs 38 = .ok (.getfield 39, 3) := by decide +kernel
theorem dX8_legs_41 : decode cX8_legs 41 = .ok (.iload_n 1, 1) := by decide +kernel
theorem dX8_legs_42 : decode cX8_legs 42 = .ok (.iaload, 1) := by decide +kernel
theorem dX8_legs_43 : decode cX8_legs 43 = .ok (.isub, 1) := by decide +kernel
theorem dX8_legs_44 : decode cX8_legs 44 = .ok (.ireturn, 1) := by decide +kernel
theorem dX8_stationOf_0 : decode cX8_stationOf 0 = .ok (.aload_n 0, 1) := by decide +kernel
theorem dX8_stationOf_1 : decode cX8_stationOf 1 = .ok (.getfield 36, 3) := by decide +kernel
theorem dX8_stationOf_4 : decode cX8_stationOf 4 = .ok (.iload_n 1, 1) := by decide +kernel
theorem dX8_stationOf_5 : decode cX8_stationOf 5 = .ok (.iaload, 1) := by decide +kernel
theorem dX8_stationOf_6 : decode cX8_stationOf 6 = .ok (.aload_n 0, 1) := by decide +kernel
theorem dX8_stationOf_7 : decode cX8_stationOf 7 = .ok (.getfield 39, 3) := by decide +kernel
theorem dX8_stationOf_10 : decode cX8_stationOf 10 = .ok (.iload_n 1, 1) := by decide +kernel
theorem dX8_stationOf_11 : decode cX8_stationOf 11 = .ok (.iaload, 1) := by decide +kernel
theorem dX8_stationOf_12 : decode cX8_stationOf 12 = .ok (.if_icmp .ge 14, 3) := by decide +kernel
theorem dX8_stationOf_15 : decode cX8_stationOf 15 = .ok (.aload_n 0, 1) := by decide +kernel
theorem dX8_stationOf_16 : decode cX8_stationOf 16 = .ok (.getfield 36, 3) := by decide +kernel
theorem dX8_stationOf_19 : decode cX8_stationOf 19 = .ok (.iload_n 1, 1) := by decide +kernel
theorem dX8_stationOf_20 : decode cX8_stationOf 20 = .ok (.iaload, 1) := by decide +kernel
theorem dX8_stationOf_21 : decode cX8_stationOf 21 = .ok (.iload_n 2, 1) := by decide +kernel
theorem dX8_stationOf_22 : decode cX8_stationOf 22 = .ok (.iadd, 1) := by decide +kernel
theorem dX8_stationOf_23 : decode cX8_stationOf 23 = .ok (.goto 11, 3) := by decide +kernel
theorem dX8_stationOf_26 : decode cX8_stationOf 26 = .ok (.aload_n 0, 1) := by decide +kernel
theorem dX8_stationOf_27 : decode cX8_stationOf 27 = .ok (.getfield 36, 3) := by decide +kernel
theorem dX8_stationOf_30 : decode cX8_stationOf 30 = .ok (.iload_n 1, 1) := by decide +kernel
theorem dX8_stationOf_31 : decode cX8_stationOf 31 = .ok (.iaload, 1) := by decide +kernel
theorem dX8_stationOf_32 : decode cX8_stationOf 32 = .ok (.iload_n 2, 1) := by decide +kernel
theorem dX8_stationOf_33 : decode cX8_stationOf 33 = .ok (.isub, 1) := by decide +kernel
theorem dX8_stationOf_34 : decode cX8_stationOf 34 = .ok (.ireturn, 1) := by decide +kernel
theorem dX8_sectionOf_0 : decode cX8_sectionOf 0 = .ok (.aload_n 0, 1) := by decide +kernel
theorem dX8_sectionOf_1 : decode cX8_sectionOf 1 = .ok (.getfield 36, 3) := by decide +kernel
theorem dX8_sectionOf_4 : decode cX8_sectionOf 4 = .ok (.iload_n 1, 1) := by decide +kernel
theorem dX8_sectionOf_5 : decode cX8_sectionOf 5 = .ok (.iaload, 1) := by decide +kernel
theorem dX8_sectionOf_6 : decode cX8_sectionOf 6 = .ok (.aload_n 0, 1) := by decide +kernel
theorem dX8_sectionOf_7 : decode cX8_sectionOf 7 = .ok (.getfield 39, 3) := by decide +kernel
theorem dX8_sectionOf_10 : decode cX8_sectionOf 10 = .ok (.iload_n 1, 1) := by decide +kernel
theorem dX8_sectionOf_11 : decode cX8_sectionOf 11 = .ok (.iaload, 1) := by decide +kernel
theorem dX8_sectionOf_12 : decode cX8_sectionOf 12 = .ok (.if_icmp .ge 14, 3) := by decide +kernel
theorem dX8_sectionOf_15 : decode cX8_sectionOf 15 = .ok (.aload_n 0, 1) := by decide +kernel
theorem dX8_sectionOf_16 : decode cX8_sectionOf 16 = .ok (.getfield 36, 3) := by decide +kernel
theorem dX8_sectionOf_19 : decode cX8_sectionOf 19 = .ok (.iload_n 1, 1) := by decide +kernel
theorem dX8_sectionOf_20 : decode cX8_sectionOf 20 = .ok (.iaload, 1) := by decide +kernel
theorem dX8_sectionOf_21 : decode cX8_sectionOf 21 = .ok (.iload_n 2, 1) := by decide +kernel
theorem dX8_sectionOf_22 : decode cX8_sectionOf 22 = .ok (.iadd, 1) := by decide +kernel
theorem dX8_sectionOf_23 : decode cX8_sectionOf 23 = .ok (.goto 13, 3) := by decide +kernel
theorem dX8_sectionOf_26 : decode cX8_sectionOf 26 = .ok (.aload_n 0, 1) := by decide +kernel
theorem dX8_sectionOf_27 : decode cX8_sectionOf 27 = .ok (.getfield 36, 3) := by decide +kernel
theorem dX8_sectionOf_30 : decode cX8_sectionOf 30 = .ok (.iload_n 1, 1) := by decide +kernel
theorem dX8_sectionOf_31 : decode cX8_sectionOf 31 = .ok (.iaload, 1) := by decide +kernel
theorem dX8_sectionOf_32 : decode cX8_sectionOf 32 = .ok (.iload_n 2, 1) := by decide +kernel
theorem dX8_sectionOf_33 : decode cX8_sectionOf 33 = .ok (.isub, 1) := by decide +kernel
theorem dX8_sectionOf_34 : decode cX8_sectionOf 34 = .ok (.iconst 1, 1) := by decide +kernel
theorem dX8_sectionOf_35 : decode cX8_sectionOf 35 = .ok (.isub, 1) := by decide +kernel
theorem dX8_sectionOf_36 : decode cX8_sectionOf 36 = .ok (.ireturn, 1) := by decide +kernel
theorem dX8_longOf_0 : decode cX8_longOf 0 = .ok (.aload_n 0, 1) := by decide +kernel
theorem dX8_longOf_1 : decode cX8_longOf 1 = .ok (.getfield 13, 3) := by decide +kernel
theorem dX8_longOf_4 : decode cX8_longOf 4 = .ok (.iconst 2, 1) := by decide +kernel
theorem dX8_longOf_5 : decode cX8_longOf 5 = .ok (.aload_n 0, 1) := by decide +kernel
theorem dX8_longOf_6 : decode cX8_longOf 6 = .ok (.iload_n 1, 1) := by decide +kernel
theorem dX8_longOf_7 : decode cX8_longOf 7 = .ok (.iload_n 2, 1) := by decide +kernel
theorem dX8_longOf_8 : decode cX8_longOf 8 = .ok (.invokevirtual 122, 3) := by decide +kernel
theorem dX8_longOf_11 : decode cX8_longOf 11 = .ok (.imul, 1) := by decide +kernel
theorem dX8_longOf_12 : decode cX8_longOf 12 = .ok (.aload_n 0, 1) := by decide +kernel
theorem dX8_longOf_13 : decode cX8_longOf 13 = .ok (.getfield 42, 3) := by decide +kernel
theorem dX8_longOf_16 : decode cX8_longOf 16 = .ok (.iload_n 1, 1) := by decide +kernel
theorem dX8_longOf_17 : decode cX8_longOf 17 = .ok (.iaload, 1) := by decide +kernel
theorem dX8_longOf_18 : decode cX8_longOf 18 = .ok (.iadd, 1) := by decide +kernel
theorem dX8_longOf_19 : decode cX8_longOf 19 = .ok (.iaload, 1) := by decide +kernel
theorem dX8_longOf_20 : decode cX8_longOf 20 = .ok (.ireturn, 1) := by decide +kernel
theorem dX8_legOver_0 : decode cX8_legOver 0 = .ok (.iconst 0, 1) := by decide +kernel
theorem dX8_legOver_1 : decode cX8_legOver 1 = .ok (.istore_n 3, 1) := by decide +kernel
theorem dX8_legOver_2 : decode cX8_legOver 2 = .ok (.iload_n 3, 1) := by decide +kernel
theorem dX8_legOver_3 : decode cX8_legOver 3 = .ok (.aload_n 0, 1) := by decide +kernel
theorem dX8_legOver_4 : decode cX8_legOver 4 = .ok (.iload_n 1, 1) := by decide +kernel
theorem dX8_legOver_5 : decode cX8_legOver 5 = .ok (.invokevirtual 126, 3) := by decide +kernel
theorem dX8_legOver_8 : decode cX8_legOver 8 = .ok (.if_icmp .ge 21, 3) := by decide +kernel
theorem dX8_legOver_11 : decode cX8_legOver 11 = .ok (.aload_n 0, 1) := by decide +kernel
theorem dX8_legOver_12 : decode cX8_legOver 12 = .ok (.iload_n 1, 1) := by decide +kernel
theorem dX8_legOver_13 : decode cX8_legOver 13 = .ok (.iload_n 3, 1) := by decide +kernel
theorem dX8_legOver_14 : decode cX8_legOver 14 = .ok (.invokevirtual 122, 3) := by decide +kernel
theorem dX8_legOver_17 : decode cX8_legOver 17 = .ok (.iload_n 2, 1) := by decide +kernel
theorem dX8_legOver_18 : decode cX8_legOver 18 = .ok (.if_icmp .ne 5, 3) := by decide +kernel
theorem dX8_legOver_21 : decode cX8_legOver 21 = .ok (.iload_n 3, 1) := by decide +kernel
theorem dX8_legOver_22 : decode cX8_legOver 22 = .ok (.ireturn, 1) := by decide +kernel
theorem dX8_legOver_23 : decode cX8_legOver 23 = .ok (.iinc 3 1, 3) := by decide +kernel
theorem dX8_legOver_26 : decode cX8_legOver 26 = .ok (.goto (-24), 3) := by decide +kernel
theorem dX8_legOver_29 : decode cX8_legOver 29 = .ok (.iconst (-1), 1) := by decide +kernel
theorem dX8_legOver_30 : decode cX8_legOver 30 = .ok (.ireturn, 1) := by decide +kernel
theorem dX8_isSameWay_0 : decode cX8_isSameWay 0 = .ok (.aload_n 0, 1) := by decide +kernel
theorem dX8_isSameWay_1 : decode cX8_isSameWay 1 = .ok (.getfield 36, 3) := by decide +kernel
theorem dX8_isSameWay_4 : decode cX8_isSameWay 4 = .ok (.iload_n 1, 1) := by decide +kernel
theorem dX8_isSameWay_5 : decode cX8_isSameWay 5 = .ok (.iaload, 1) := by decide +kernel
theorem dX8_isSameWay_6 : decode cX8_isSameWay 6 = .ok (.aload_n 0, 1) := by decide +kernel
theorem dX8_isSameWay_7 : decode cX8_isSameWay 7 = .ok (.getfield 39, 3) := by decide +kernel
theorem dX8_isSameWay_10 : decode cX8_isSameWay 10 = .ok (.iload_n 1, 1) := by decide +kernel
theorem dX8_isSameWay_11 : decode cX8_isSameWay 11 = .ok (.iaload, 1) := by decide +kernel
theorem dX8_isSameWay_12 : decode cX8_isSameWay 12 = .ok (.if_icmp .ge 7, 3) := by decide +kernel
theorem dX8_isSameWay_15 : decode cX8_isSameWay 15 = .ok (.iconst 1, 1) := by decide +kernel
theorem dX8_isSameWay_16 : decode cX8_isSameWay 16 = .ok (.goto 4, 3) := by decide +kernel
theorem dX8_isSameWay_19 : decode cX8_isSameWay 19 = .ok (.iconst 0, 1) := by decide +kernel
theorem dX8_isSameWay_20 : decode cX8_isSameWay 20 = .ok (.aload_n 0, 1) := by decide +kernel
theorem dX8_isSameWay_21 : decode cX8_isSameWay 21 = .ok (.getfield 36, 3) := by decide +kernel
theorem dX8_isSameWay_24 : decode cX8_isSameWay 24 = .ok (.iload_n 2, 1) := by decide +kernel
theorem dX8_isSameWay_25 : decode cX8_isSameWay 25 = .ok (.iaload, 1) := by decide +kernel
theorem dX8_isSameWay_26 : decode cX8_isSameWay 26 = .ok (.aload_n 0, 1) := by decide +kernel
theorem dX8_isSameWay_27 : decode cX8_isSameWay 27 = .ok (.getfield 39, 3) := by decide +kernel
theorem dX8_isSameWay_30 : decode cX8_isSameWay 30 = .ok (.iload_n 2, 1) := by decide +kernel
theorem dX8_isSameWay_31 : decode cX8_isSameWay 31 = .ok (.iaload, 1) := by decide +kernel
theorem dX8_isSameWay_32 : decode cX8_isSameWay 32 = .ok (.if_icmp .ge 7, 3) := by decide +kernel
theorem dX8_isSameWay_35 : decode cX8_isSameWay 35 = .ok (.iconst 1, 1) := by decide +kernel
theorem dX8_isSameWay_36 : decode cX8_isSameWay 36 = .ok (.goto 4, 3) := by decide +kernel
theorem dX8_isSameWay_39 : decode cX8_isSameWay 39 = .ok (.iconst 0, 1) := by decide +kernel
theorem dX8_isSameWay_40 : decode cX8_isSameWay 40 = .ok (.if_icmp .ne 7, 3) := by decide +kernel
theorem dX8_isSameWay_43 : decode cX8_isSameWay 43 = .ok (.iconst 1, 1) := by decide +kernel
theorem dX8_isSameWay_44 : decode cX8_isSameWay 44 = .ok (.goto 4, 3) := by decide +kernel
theorem dX8_isSameWay_47 : decode cX8_isSameWay 47 = .ok (.iconst 0, 1) := by decide +kernel
theorem dX8_isSameWay_48 : decode cX8_isSameWay 48 = .ok (.ireturn, 1) := by decide +kernel
theorem dX8_isClosed_0 : decode cX8_isClosed 0 = .ok (.iconst 0, 1) := by decide +kernel
theorem dX8_isClosed_1 : decode cX8_isClosed 1 = .ok (.istore_n 3, 1) := by decide +kernel
theorem dX8_isClosed_2 : decode cX8_isClosed 2 = .ok (.iload_n 3, 1) := by decide +kernel
theorem dX8_isClosed_3 : decode cX8_isClosed 3 = .ok (.aload_n 0, 1) := by decide +kernel
theorem dX8_isClosed_4 : decode cX8_isClosed 4 = .ok (.getfield 115, 3) := by decide +kernel
theorem dX8_isClosed_7 : decode cX8_isClosed 7 = .ok (.if_icmp .ge 42, 3) := by decide +kernel
theorem dX8_isClosed_10 : decode cX8_isClosed 10 = .ok (.aload_n 0, 1) := by decide +kernel
theorem dX8_isClosed_11 : decode cX8_isClosed 11 = .ok (.getfield 24, 3) := by decide +kernel
theorem dX8_isClosed_14 : decode cX8_isClosed 14 = .ok (.iload_n 3, 1) := by decide +kernel
theorem dX8_isClosed_15 : decode cX8_isClosed 15 = .ok (.iaload, 1) := by decide +kernel
theorem dX8_isClosed_16 : decode cX8_isClosed 16 = .ok (.iload_n 1, 1) := by decide +kernel
theorem dX8_isClosed_17 : decode cX8_isClosed 17 = .ok (.if_icmp .ne 26, 3) := by decide +kernel
theorem dX8_isClosed_20 : decode cX8_isClosed 20 = .ok (.iload_n 2, 1) := by decide +kernel
theorem dX8_isClosed_21 : decode cX8_isClosed 21 = .ok (.aload_n 0, 1) := by decide +kernel
theorem dX8_isClosed_22 : decode cX8_isClosed 22 = .ok (.getfield 27, 3) := by decide +kernel
theorem dX8_isClosed_25 : decode cX8_isClosed 25 = .ok (.iload_n 3, 1) := by decide +kernel
theorem dX8_isClosed_26 : decode cX8_isClosed 26 = .ok (.iaload, 1) := by decide +kernel
theorem dX8_isClosed_27 : decode cX8_isClosed 27 = .ok (.aload_n 0, 1) := by decide +kernel
theorem dX8_isClosed_28 : decode cX8_isClosed 28 = .ok (.getfield 30, 3) := by decide +kernel
theorem dX8_isClosed_31 : decode cX8_isClosed 31 = .ok (.iload_n 3, 1) := by decide +kernel
theorem dX8_isClosed_32 : decode cX8_isClosed 32 = .ok (.iaload, 1) := by decide +kernel
theorem dX8_isClosed_33 : decode cX8_isClosed 33 = .ok (.iconst 1, 1) := by decide +kernel
theorem dX8_isClosed_34 : decode cX8_isClosed 34 = .ok (.isub, 1) := by decide +kernel
theorem dX8_isClosed_35 : decode cX8_isClosed 35 = .ok (.invokestatic 111, 3) := by decide +kernel
theorem dX8_isClosed_38 : decode cX8_isClosed 38 = .ok (.ifCond .eq 5, 3) := by decide +kernel
theorem dX8_isClosed_41 : decode cX8_isClosed 41 = .ok (.iconst 1, 1) := by decide +kernel
theorem dX8_isClosed_42 : decode cX8_isClosed 42 = .ok (.ireturn, 1) := by decide +kernel
theorem dX8_isClosed_43 : decode cX8_isClosed 43 = .ok (.iinc 3 1, 3) := by decide +kernel
theorem dX8_isClosed_46 : decode cX8_isClosed 46 = .ok (.goto (-44), 3) := by decide +kernel
theorem dX8_isClosed_49 : decode cX8_isClosed 49 = .ok (.iconst 0, 1) := by decide +kernel
theorem dX8_isClosed_50 : decode cX8_isClosed 50 = .ok (.ireturn, 1) := by decide +kernel
theorem dX8_behind_0 : decode cX8_behind 0 = .ok (.aload_n 0, 1) := by decide +kernel
theorem dX8_behind_1 : decode cX8_behind 1 = .ok (.getfield 20, 3) := by decide +kernel
theorem dX8_behind_4 : decode cX8_behind 4 = .ok (.ifCond .le 12, 3) := by decide +kernel
theorem dX8_behind_7 : decode cX8_behind 7 = .ok (.aload_n 0, 1) := by decide +kernel
theorem dX8_behind_8 : decode cX8_behind 8 = .ok (.getfield 20, 3) := by decide +kernel
theorem dX8_behind_11 : decode cX8_behind 11 = .ok (.iconst 1, 1) := by decide +kernel
theorem dX8_behind_12 : decode cX8_behind 12 = .ok (.isub, 1) := by decide +kernel
theorem dX8_behind_13 : decode cX8_behind 13 = .ok (.goto 4, 3) := by decide +kernel
theorem dX8_behind_16 : decode cX8_behind 16 = .ok (.iconst 0, 1) := by decide +kernel
theorem dX8_behind_17 : decode cX8_behind 17 = .ok (.ireturn, 1) := by decide +kernel
theorem dX8_areApart_0 : decode cX8_areApart 0 = .ok (.iload_n 1, 1) := by decide +kernel
theorem dX8_areApart_1 : decode cX8_areApart 1 = .ok (.iload_n 3, 1) := by decide +kernel
theorem dX8_areApart_2 : decode cX8_areApart 2 = .ok (.iload 4, 2) := by decide +kernel
theorem dX8_areApart_4 : decode cX8_areApart 4 = .ok (.iadd, 1) := by decide +kernel
theorem dX8_areApart_5 : decode cX8_areApart 5 = .ok (.aload_n 0, 1) := by decide +kernel
theorem dX8_areApart_6 : decode cX8_areApart 6 = .ok (.invokevirtual 130, 3) := by decide +kernel
theorem dX8_areApart_9 : decode cX8_areApart 9 = .ok (.iadd, 1) := by decide +kernel
theorem dX8_areApart_10 : decode cX8_areApart 10 = .ok (.if_icmp .ge 15, 3) := by decide +kernel
theorem dX8_areApart_13 : decode cX8_areApart 13 = .ok (.iload_n 3, 1) := by decide +kernel
theorem dX8_areApart_14 : decode cX8_areApart 14 = .ok (.iload_n 1, 1) := by decide +kernel
theorem dX8_areApart_15 : decode cX8_areApart 15 = .ok (.iload_n 2, 1) := by decide +kernel
theorem dX8_areApart_16 : decode cX8_areApart 16 = .ok (.iadd, 1) := by decide +kernel
theorem dX8_areApart_17 : decode cX8_areApart 17 = .ok (.aload_n 0, 1) := by decide +kernel
theorem dX8_areApart_18 : decode cX8_areApart 18 = .ok (.invokevirtual 130, 3) := by decide +kernel
theorem dX8_areApart_21 : decode cX8_areApart 21 = .ok (.iadd, 1) := by decide +kernel
theorem dX8_areApart_22 : decode cX8_areApart 22 = .ok (.if_icmp .lt 7, 3) := by decide +kernel
theorem dX8_areApart_25 : decode cX8_areApart 25 = .ok (.iconst 1, 1) := by decide +kernel
theorem dX8_areApart_26 : decode cX8_areApart 26 = .ok (.goto 4, 3) := by decide +kernel
theorem dX8_areApart_29 : decode cX8_areApart 29 = .ok (.iconst 0, 1) := by decide +kernel
theorem dX8_areApart_30 : decode cX8_areApart 30 = .ok (.ireturn, 1) := by decide +kernel
theorem dX8_canLeave_0 : decode cX8_canLeave 0 = .ok (.aload_n 0, 1) := by decide +kernel
theorem dX8_canLeave_1 : decode cX8_canLeave 1 = .ok (.iload_n 1, 1) := by decide +kernel
theorem dX8_canLeave_2 : decode cX8_canLeave 2 = .ok (.iload_n 2, 1) := by decide +kernel
theorem dX8_canLeave_3 : decode cX8_canLeave 3 = .ok (.invokevirtual 122, 3) := by decide +kernel
theorem dX8_canLeave_6 : decode cX8_canLeave 6 = .ok (.istore 4, 2) := by decide +kernel
theorem dX8_canLeave_8 : decode cX8_canLeave 8 = .ok (.aload_n 0, 1) := by decide +kernel
theorem dX8_canLeave_9 : decode cX8_canLeave 9 = .ok (.iload_n 1, 1) := by decide +kernel
theorem dX8_canLeave_10 : decode cX8_canLeave 10 = .ok (.iload_n 2, 1) := by decide +kernel
theorem dX8_canLeave_11 : decode cX8_canLeave 11 = .ok (.invokevirtual 134, 3) := by decide +kernel
theorem dX8_canLeave_14 : decode cX8_canLeave 14 = .ok (.istore 5, 2) := by decide +kernel
theorem dX8_canLeave_16 : decode cX8_canLeave 16 = .ok (.iload_n 3, 1) := by decide +kernel
theorem dX8_canLeave_17 : decode cX8_canLeave 17 = .ok (.istore 6, 2) := by decide +kernel
theorem dX8_canLeave_19 : decode cX8_canLeave 19 = .ok (.iload 6, 2) := by decide +kernel
theorem dX8_canLeave_21 : decode cX8_canLeave 21 = .ok (.iload_n 3, 1) := by decide +kernel
theorem dX8_canLeave_22 : decode cX8_canLeave 22 = .ok (.iload 5, 2) := by decide +kernel
theorem dX8_canLeave_24 : decode cX8_canLeave 24 = .ok (.iadd, 1) := by decide +kernel
theorem dX8_canLeave_25 : decode cX8_canLeave 25 = .ok (.if_icmp .ge 22, 3) := by decide +kernel
theorem dX8_canLeave_28 : decode cX8_canLeave 28 = .ok (.aload_n 0, 1) := by decide +kernel
theorem dX8_canLeave_29 : decode cX8_canLeave 29 = .ok (.iload 4, 2) := by decide +kernel
theorem dX8_canLeave_31 : decode cX8_canLeave 31 = .ok (.iload 6, 2) := by decide +kernel
theorem dX8_canLeave_33 : decode cX8_canLeave 33 = .ok (.invokevirtual 137, 3) := by decide +kernel
theorem dX8_canLeave_36 : decode cX8_canLeave 36 = .ok (.ifCond .eq 5, 3) := by decide +kernel
theorem dX8_canLeave_39 : decode cX8_canLeave 39 = .ok (.iconst 0, 1) := by decide +kernel
theorem dX8_canLeave_40 : decode cX8_canLeave 40 = .ok (.ireturn, 1) := by decide +kernel
theorem dX8_canLeave_41 : decode cX8_canLeave 41 = .ok (.iinc 6 1, 3) := by decide +kernel
theorem dX8_canLeave_44 : decode cX8_canLeave 44 = .ok (.goto (-25), 3) := by decide +kernel
theorem dX8_canLeave_47 : decode cX8_canLeave 47 = .ok (.iconst 0, 1) := by decide +kernel
theorem dX8_canLeave_48 : decode cX8_canLeave 48 = .ok (.istore 6, 2) := by decide +kernel
theorem dX8_canLeave_50 : decode cX8_canLeave 50 = .ok (.iload 6, 2) := by decide +kernel
theorem dX8_canLeave_52 : decode cX8_canLeave 52 = .ok (.aload_n 0, 1) := by decide +kernel
theorem dX8_canLeave_53 : decode cX8_canLeave 53 = .ok (.getfield 108, 3) := by decide +kernel
theorem dX8_canLeave_56 : decode cX8_canLeave 56 = .ok (.if_icmp .ge 97, 3) := by decide +kernel
theorem dX8_canLeave_59 : decode cX8_canLeave 59 = .ok (.iload 6, 2) := by decide +kernel
theorem dX8_canLeave_61 : decode cX8_canLeave 61 = .ok (.iload_n 1, 1) := by decide +kernel
theorem dX8_canLeave_62 : decode cX8_canLeave 62 = .ok (.if_icmp .eq 85, 3) := by decide +kernel
theorem dX8_canLeave_65 : decode cX8_canLeave 65 = .ok (.aload_n 0, 1) := by decide +kernel
theorem dX8_canLeave_66 : decode cX8_canLeave 66 = .ok (.getfield 60, 3) := by decide +kernel
theorem dX8_canLeave_69 : decode cX8_canLeave 69 = .ok (.iload 6, 2) := by decide +kernel
theorem dX8_canLeave_71 : decode cX8_canLeave 71 = .ok (.baload, 1) := by decide +kernel
theorem dX8_canLeave_72 : decode cX8_canLeave 72 = .ok (.ifCond .eq 75, 3) := by decide +kernel
theorem dX8_canLeave_75 : decode cX8_canLeave 75 = .ok (.aload_n 0, 1) := by decide +kernel
theorem dX8_canLeave_76 : decode cX8_canLeave 76 = .ok (.getfield 9, 3) := by decide +kernel
theorem dX8_canLeave_79 : decode cX8_canLeave 79 = .ok (.iload 4, 2) := by decide +kernel
theorem dX8_canLeave_81 : decode cX8_canLeave 81 = .ok (.baload, 1) := by decide +kernel
theorem dX8_canLeave_82 : decode cX8_canLeave 82 = .ok (.ifCond .eq 16, 3) := by decide +kernel
theorem dX8_canLeave_85 : decode cX8_canLeave 85 = .ok (.aload_n 0, 1) := by decide +kernel
theorem dX8_canLeave_86 : decode cX8_canLeave 86 = .ok (.iload 6, 2) := by decide +kernel
theorem dX8_canLeave_88 : decode cX8_canLeave 88 = .ok (.iload_n 1, 1) := by decide +kernel
theorem dX8_canLeave_89 : decode cX8_canLeave 89 = .ok (.invokevirtual 141, 3) := by decide +kernel
theorem dX8_canLeave_92 : decode cX8_canLeave 92 = .ok (.ifCond .ne 6, 3) := by decide +kernel
theorem dX8_canLeave_95 : decode cX8_canLeave 95 = .ok (.goto 52, 3) := by decide +kernel
theorem dX8_canLeave_98 : decode cX8_canLeave 98 = .ok (.aload_n 0, 1) := by decide +kernel
theorem dX8_canLeave_99 : decode cX8_canLeave 99 = .ok (.iload 6, 2) := by decide +kernel
theorem dX8_canLeave_101 : decode cX8_canLeave 101 = .ok (.iload 4, 2) := by decide +kernel
theorem dX8_canLeave_103 : decode cX8_canLeave 103 = .ok (.invokevirtual 144, 3) := by decide +kernel
theorem dX8_canLeave_106 : decode cX8_canLeave 106 = .ok (.istore 7, 2) := by decide +kernel
theorem dX8_canLeave_108 : decode cX8_canLeave 108 = .ok (.iload 7, 2) := by decide +kernel
theorem dX8_canLeave_110 : decode cX8_canLeave 110 = .ok (.iconst (-1), 1) := by decide +kernel
theorem dX8_canLeave_111 : decode cX8_canLeave 111 = .ok (.if_icmp .eq 36, 3) := by decide +kernel
theorem dX8_canLeave_114 : decode cX8_canLeave 114 = .ok (.aload_n 0, 1) := by decide +kernel
theorem dX8_canLeave_115 : decode cX8_canLeave 115 = .ok (.iload_n 3, 1) := by decide +kernel
theorem dX8_canLeave_116 : decode cX8_canLeave 116 = .ok (.iload 5, 2) := by decide +kernel
theorem dX8_canLeave_118 : decode cX8_canLeave 118 = .ok (.aload_n 0, 1) := by decide +kernel
theorem dX8_canLeave_119 : decode cX8_canLeave 119 = .ok (.getfield 63, 3) := by decide +kernel
theorem dX8_canLeave_122 : decode cX8_canLeave 122 = .ok (.bipush 8, 2) := by decide +kernel
theorem dX8_canLeave_124 : decode cX8_canLeave 124 = .ok (.iload 6, 2) := by decide +kernel
theorem dX8_canLeave_126 : decode cX8_canLeave 126 = .ok (.imul, 1) := by decide +kernel
theorem dX8_canLeave_127 : decode cX8_canLeave 127 = .ok (.iload 7, 2) := by decide +kernel
theorem dX8_canLeave_129 : decode cX8_canLeave 129 = .ok (.iadd, 1) := by decide +kernel
theorem dX8_canLeave_130 : decode cX8_canLeave 130 = .ok (.iaload, 1) := by decide +kernel
theorem dX8_canLeave_131 : decode cX8_canLeave 131 = .ok (.aload_n 0, 1) := by decide +kernel
theorem dX8_canLeave_132 : decode cX8_canLeave 132 = .ok (.iload 6, 2) := by decide +kernel
theorem dX8_canLeave_134 : decode cX8_canLeave 134 = .ok (.iload 7, 2) := by decide +kernel
theorem dX8_canLeave_136 : decode cX8_canLeave 136 = .ok (.invokevirtual 134, 3) := by decide +kernel
theorem dX8_canLeave_139 : decode cX8_canLeave 139 = .ok (.invokevirtual 147, 3) := by decide +kernel
theorem dX8_canLeave_142 : decode cX8_canLeave 142 = .ok (.ifCond .ne 5, 3) := by decide +kernel
theorem dX8_canLeave_145 : decode cX8_canLeave 145 = .ok (.iconst 0, 1) := by decide +kernel
theorem dX8_canLeave_146 : decode cX8_canLeave 146 = .ok (.ireturn, 1) := by decide +kernel
theorem dX8_canLeave_147 : decode cX8_canLeave 147 = .ok (.iinc 6 1, 3) := by decide +kernel
theorem dX8_canLeave_150 : decode cX8_canLeave 150 = .ok (.goto (-100), 3) := by decide +kernel
theorem dX8_canLeave_153 : decode cX8_canLeave 153 = .ok (.iconst 1, 1) := by decide +kernel
theorem dX8_canLeave_154 : decode cX8_canLeave 154 = .ok (.ireturn, 1) := by decide +kernel
theorem dX8_comesTo_0 : decode cX8_comesTo 0 = .ok (.aload_n 0, 1) := by decide +kernel
theorem dX8_comesTo_1 : decode cX8_comesTo 1 = .ok (.getfield 63, 3) := by decide +kernel
theorem dX8_comesTo_4 : decode cX8_comesTo 4 = .ok (.bipush 8, 2) := by decide +kernel
theorem dX8_comesTo_6 : decode cX8_comesTo 6 = .ok (.iload_n 1, 1) := by decide +kernel
theorem dX8_comesTo_7 : decode cX8_comesTo 7 = .ok (.imul, 1) := by decide +kernel
theorem dX8_comesTo_8 : decode cX8_comesTo 8 = .ok (.iload_n 2, 1) := by decide +kernel
theorem dX8_comesTo_9 : decode cX8_comesTo 9 = .ok (.iadd, 1) := by decide +kernel
theorem dX8_comesTo_10 : decode cX8_comesTo 10 = .ok (.iconst 1, 1) := by decide +kernel
theorem dX8_comesTo_11 : decode cX8_comesTo 11 = .ok (.isub, 1) := by decide +kernel
theorem dX8_comesTo_12 : decode cX8_comesTo 12 = .ok (.iaload, 1) := by decide +kernel
theorem dX8_comesTo_13 : decode cX8_comesTo 13 = .ok (.aload_n 0, 1) := by decide +kernel
theorem dX8_comesTo_14 : decode cX8_comesTo 14 = .ok (.iload_n 1, 1) := by decide +kernel
theorem dX8_comesTo_15 : decode cX8_comesTo 15 = .ok (.iload_n 2, 1) := by decide +kernel
theorem dX8_comesTo_16 : decode cX8_comesTo 16 = .ok (.iconst 1, 1) := by decide +kernel
theorem dX8_comesTo_17 : decode cX8_comesTo 17 = .ok (.isub, 1) := by decide +kernel
theorem dX8_comesTo_18 : decode cX8_comesTo 18 = .ok (.invokevirtual 134, 3) := by decide +kernel
theorem dX8_comesTo_21 : decode cX8_comesTo 21 = .ok (.iadd, 1) := by decide +kernel
theorem dX8_comesTo_22 : decode cX8_comesTo 22 = .ok (.ireturn, 1) := by decide +kernel
theorem dX8_isStanding_0 : decode cX8_isStanding 0 = .ok (.iconst 1, 1) := by decide +kernel
theorem dX8_isStanding_1 : decode cX8_isStanding 1 = .ok (.istore 4, 2) := by decide +kernel
theorem dX8_isStanding_3 : decode cX8_isStanding 3 = .ok (.iload 4, 2) := by decide +kernel
theorem dX8_isStanding_5 : decode cX8_isStanding 5 = .ok (.aload_n 0, 1) := by decide +kernel
theorem dX8_isStanding_6 : decode cX8_isStanding 6 = .ok (.iload_n 1, 1) := by decide +kernel
theorem dX8_isStanding_7 : decode cX8_isStanding 7 = .ok (.invokevirtual 126, 3) := by decide +kernel
theorem dX8_isStanding_10 : decode cX8_isStanding 10 = .ok (.if_icmp .ge 50, 3) := by decide +kernel
theorem dX8_isStanding_13 : decode cX8_isStanding 13 = .ok (.aload_n 0, 1) := by decide +kernel
theorem dX8_isStanding_14 : decode cX8_isStanding 14 = .ok (.iload_n 1, 1) := by decide +kernel
theorem dX8_isStanding_15 : decode cX8_isStanding 15 = .ok (.iload 4, 2) := by decide +kernel
theorem dX8_isStanding_17 : decode cX8_isStanding 17 = .ok (.invokevirtual 151, 3) := by decide +kernel
theorem dX8_isStanding_20 : decode cX8_isStanding 20 = .ok (.iload_n 2, 1) := by decide +kernel
theorem dX8_isStanding_21 : decode cX8_isStanding 21 = .ok (.if_icmp .ne 33, 3) := by decide +kernel
theorem dX8_isStanding_24 : decode cX8_isStanding 24 = .ok (.iload_n 3, 1) := by decide +kernel
theorem dX8_isStanding_25 : decode cX8_isStanding 25 = .ok (.aload_n 0, 1) := by decide +kernel
theorem dX8_isStanding_26 : decode cX8_isStanding 26 = .ok (.iload_n 1, 1) := by decide +kernel
theorem dX8_isStanding_27 : decode cX8_isStanding 27 = .ok (.iload 4, 2) := by decide +kernel
theorem dX8_isStanding_29 : decode cX8_isStanding 29 = .ok (.invokevirtual 154, 3) := by decide +kernel
theorem dX8_isStanding_32 : decode cX8_isStanding 32 = .ok (.aload_n 0, 1) := by decide +kernel
theorem dX8_isStanding_33 : decode cX8_isStanding 33 = .ok (.getfield 63, 3) := by decide +kernel
theorem dX8_isStanding_36 : decode cX8_isStanding 36 = .ok (.bipush 8, 2) := by decide +kernel
theorem dX8_isStanding_38 : decode cX8_isStanding 38 = .ok (.iload_n 1, 1) := by decide +kernel
theorem dX8_isStanding_39 : decode cX8_isStanding 39 = .ok (.imul, 1) := by decide +kernel
theorem dX8_isStanding_40 : decode cX8_isStanding 40 = .ok (.iload 4, 2) := by decide +kernel
theorem dX8_isStanding_42 : decode cX8_isStanding 42 = .ok (.iadd, 1) := by decide +kernel
theorem dX8_isStanding_43 : decode cX8_isStanding 43 = .ok (.iaload, 1) := by decide +kernel
theorem dX8_isStanding_44 : decode cX8_isStanding 44 = .ok (.iconst 1, 1) := by decide +kernel
theorem dX8_isStanding_45 : decode cX8_isStanding 45 = .ok (.isub, 1) := by decide +kernel
theorem dX8_isStanding_46 : decode cX8_isStanding 46 = .ok (.invokestatic 111, 3) := by decide +kernel
theorem dX8_isStanding_49 : decode cX8_isStanding 49 = .ok (.ifCond .eq 5, 3) := by decide +kernel
theorem dX8_isStanding_52 : decode cX8_isStanding 52 = .ok (.iconst 1, 1) := by decide +kernel
theorem dX8_isStanding_53 : decode cX8_isStanding 53 = .ok (.ireturn, 1) := by decide +kernel
theorem dX8_isStanding_54 : decode cX8_isStanding 54 = .ok (.iinc 4 1, 3) := by decide +kernel
theorem dX8_isStanding_57 : decode cX8_isStanding 57 = .ok (.goto (-54), 3) := by decide +kernel
theorem dX8_isStanding_60 : decode cX8_isStanding 60 = .ok (.iconst 0, 1) := by decide +kernel
theorem dX8_isStanding_61 : decode cX8_isStanding 61 = .ok (.ireturn, 1) := by decide +kernel
theorem dX8_canStand_0 : decode cX8_canStand 0 = .ok (.iconst 1, 1) := by decide +kernel
theorem dX8_canStand_1 : decode cX8_canStand 1 = .ok (.istore 4, 2) := by decide +kernel
theorem dX8_canStand_3 : decode cX8_canStand 3 = .ok (.iconst 0, 1) := by decide +kernel
theorem dX8_canStand_4 : decode cX8_canStand 4 = .ok (.istore 5, 2) := by decide +kernel
theorem dX8_canStand_6 : decode cX8_canStand 6 = .ok (.iload 5, 2) := by decide +kernel
theorem dX8_canStand_8 : decode cX8_canStand 8 = .ok (.aload_n 0, 1) := by decide +kernel
theorem dX8_canStand_9 : decode cX8_canStand 9 = .ok (.getfield 108, 3) := by decide +kernel
theorem dX8_canStand_12 : decode cX8_canStand 12 = .ok (.if_icmp .ge 46, 3) := by decide +kernel
theorem dX8_canStand_15 : decode cX8_canStand 15 = .ok (.iload 4, 2) := by decide +kernel
theorem dX8_canStand_17 : decode cX8_canStand 17 = .ok (.iload 5, 2) := by decide +kernel
theorem dX8_canStand_19 : decode cX8_canStand 19 = .ok (.iload_n 1, 1) := by decide +kernel
theorem dX8_canStand_20 : decode cX8_canStand 20 = .ok (.if_icmp .eq 28, 3) := by decide +kernel
theorem dX8_canStand_23 : decode cX8_canStand 23 = .ok (.aload_n 0, 1) := by decide +kernel
theorem dX8_canStand_24 : decode cX8_canStand 24 = .ok (.getfield 60, 3) := by decide +kernel
theorem dX8_canStand_27 : decode cX8_canStand 27 = .ok (.iload 5, 2) := by decide +kernel
theorem dX8_canStand_29 : decode cX8_canStand 29 = .ok (.baload, 1) := by decide +kernel
theorem dX8_canStand_30 : decode cX8_canStand 30 = .ok (.ifCond .eq 18, 3) := by decide +kernel
theorem dX8_canStand_33 : decode cX8_canStand 33 = .ok (.aload_n 0, 1) := by decide +kernel
theorem dX8_canStand_34 : decode cX8_canStand 34 = .ok (.iload 5, 2) := by decide +kernel
theorem dX8_canStand_36 : decode cX8_canStand 36 = .ok (.iload_n 2, 1) := by decide +kernel
theorem dX8_canStand_37 : decode cX8_canStand 37 = .ok (.iload_n 3, 1) := by decide +kernel
theorem dX8_canStand_38 : decode cX8_canStand 38 = .ok (.invokevirtual 157, 3) := by decide +kernel
theorem dX8_canStand_41 : decode cX8_canStand 41 = .ok (.ifCond .eq 7, 3) := by decide +kernel
theorem dX8_canStand_44 : decode cX8_canStand 44 = .ok (.iconst 1, 1) := by decide +kernel
theorem dX8_canStand_45 : decode cX8_canStand 45 = .ok (.goto 4, 3) := by decide +kernel
theorem dX8_canStand_48 : decode cX8_canStand 48 = .ok (.iconst 0, 1) := by decide +kernel
theorem dX8_canStand_49 : decode cX8_canStand 49 = .ok (.iadd, 1) := by decide +kernel
theorem dX8_canStand_50 : decode cX8_canStand 50 = .ok (.istore 4, 2) := by decide +kernel
theorem dX8_canStand_52 : decode cX8_canStand 52 = .ok (.iinc 5 1, 3) := by decide +kernel
theorem dX8_canStand_55 : decode cX8_canStand 55 = .ok (.goto (-49), 3) := by decide +kernel
theorem dX8_canStand_58 : decode cX8_canStand 58 = .ok (.iload 4, 2) := by decide +kernel
theorem dX8_canStand_60 : decode cX8_canStand 60 = .ok (.aload_n 0, 1) := by decide +kernel
theorem dX8_canStand_61 : decode cX8_canStand 61 = .ok (.getfield 17, 3) := by decide +kernel
theorem dX8_canStand_64 : decode cX8_canStand 64 = .ok (.iload_n 2, 1) := by decide +kernel
theorem dX8_canStand_65 : decode cX8_canStand 65 = .ok (.iaload, 1) := by decide +kernel
theorem dX8_canStand_66 : decode cX8_canStand 66 = .ok (.if_icmp .gt 7, 3) := by decide +kernel
theorem dX8_canStand_69 : decode cX8_canStand 69 = .ok (.iconst 1, 1) := by decide +kernel
theorem dX8_canStand_70 : decode cX8_canStand 70 = .ok (.goto 4, 3) := by decide +kernel
theorem dX8_canStand_73 : decode cX8_canStand 73 = .ok (.iconst 0, 1) := by decide +kernel
theorem dX8_canStand_74 : decode cX8_canStand 74 = .ok (.ireturn, 1) := by decide +kernel
theorem dX8_seeks_0 : decode cX8_seeks 0 = .ok (.aload_n 0, 1) := by decide +kernel
theorem dX8_seeks_1 : decode cX8_seeks 1 = .ok (.iload_n 1, 1) := by decide +kernel
theorem dX8_seeks_2 : decode cX8_seeks 2 = .ok (.invokevirtual 126, 3) := by decide +kernel
theorem dX8_seeks_5 : decode cX8_seeks 5 = .ok (.istore_n 2, 1) := by decide +kernel
theorem dX8_seeks_6 : decode cX8_seeks 6 = .ok (.iconst 0, 1) := by decide +kernel
theorem dX8_seeks_7 : decode cX8_seeks 7 = .ok (.istore_n 3, 1) := by decide +kernel
theorem dX8_seeks_8 : decode cX8_seeks 8 = .ok (.iload_n 3, 1) := by decide +kernel
theorem dX8_seeks_9 : decode cX8_seeks 9 = .ok (.sipush 1920, 3) := by decide +kernel
theorem dX8_seeks_12 : decode cX8_seeks 12 = .ok (.if_icmp .ge 16, 3) := by decide +kernel
theorem dX8_seeks_15 : decode cX8_seeks 15 = .ok (.aload_n 0, 1) := by decide +kernel
theorem dX8_seeks_16 : decode cX8_seeks 16 = .ok (.getfield 69, 3) := by decide +kernel
theorem dX8_seeks_19 : decode cX8_seeks 19 = .ok (.iload_n 3, 1) := by decide +kernel
theorem dX8_seeks_20 : decode cX8_seeks 20 = .ok (.iconst 0, 1) := by decide +kernel
theorem dX8_seeks_21 : decode cX8_seeks 21 = .ok (.bastore, 1) := by decide +kernel
theorem dX8_seeks_22 : decode cX8_seeks 22 = .ok (.iinc 3 1, 3) := by decide +kernel
theorem dX8_seeks_25 : decode cX8_seeks 25 = .ok (.goto (-17), 3) := by decide +kernel
theorem dX8_seeks_28 : decode cX8_seeks 28 = .ok (.iconst 0, 1) := by decide +kernel
theorem dX8_seeks_29 : decode cX8_seeks 29 = .ok (.istore_n 3, 1) := by decide +kernel
theorem dX8_seeks_30 : decode cX8_seeks 30 = .ok (.iload_n 3, 1) := by decide +kernel
theorem dX8_seeks_31 : decode cX8_seeks 31 = .ok (.iload_n 2, 1) := by decide +kernel
theorem dX8_seeks_32 : decode cX8_seeks 32 = .ok (.if_icmp .ge 151, 3) := by decide +kernel
theorem dX8_seeks_35 : decode cX8_seeks 35 = .ok (.iconst 0, 1) := by decide +kernel
theorem dX8_seeks_36 : decode cX8_seeks 36 = .ok (.istore 4, 2) := by decide +kernel
theorem dX8_seeks_38 : decode cX8_seeks 38 = .ok (.iconst 0, 1) := by decide +kernel
theorem dX8_seeks_39 : decode cX8_seeks 39 = .ok (.istore 5, 2) := by decide +kernel
theorem dX8_seeks_41 : decode cX8_seeks 41 = .ok (.iload 5, 2) := by decide +kernel
