theorem dX6_put_12 : decode cX6_put 12 = .ok (.iconst 1, 1) := by decide +kernel
theorem dX6_put_13 : decode cX6_put 13 = .ok (.bipush 9, 2) := by decide +kernel
theorem dX6_put_15 : decode cX6_put 15 = .ok (.invokestatic 51, 3) := by decide +kernel
theorem dX6_put_18 : decode cX6_put 18 = .ok (.ifCond .ne 6, 3) := by decide +kernel
theorem dX6_put_21 : decode cX6_put 21 = .ok (.bipush (-2), 2) := by decide +kernel
theorem dX6_put_23 : decode cX6_put 23 = .ok (.ireturn, 1) := by decide +kernel
theorem dX6_put_24 : decode cX6_put 24 = .ok (.aload_n 0, 1) := by decide +kernel
theorem dX6_put_25 : decode cX6_put 25 = .ok (.getfield 10, 3) := by decide +kernel
theorem dX6_put_28 : decode cX6_put 28 = .ok (.getfield 87, 3) := by decide +kernel
theorem dX6_put_31 : decode cX6_put 31 = .ok (.getfield 110, 3) := by decide +kernel
theorem dX6_put_34 : decode cX6_put 34 = .ok (.iload_n 1, 1) := by decide +kernel
theorem dX6_put_35 : decode cX6_put 35 = .ok (.iaload, 1) := by decide +kernel
theorem dX6_put_36 : decode cX6_put 36 = .ok (.iload_n 2, 1) := by decide +kernel
theorem dX6_put_37 : decode cX6_put 37 = .ok (.iadd, 1) := by decide +kernel
theorem dX6_put_38 : decode cX6_put 38 = .ok (.bipush 99, 2) := by decide +kernel
theorem dX6_put_40 : decode cX6_put 40 = .ok (.if_icmp .le 6, 3) := by decide +kernel
theorem dX6_put_43 : decode cX6_put 43 = .ok (.bipush (-3), 2) := by decide +kernel
theorem dX6_put_45 : decode cX6_put 45 = .ok (.ireturn, 1) := by decide +kernel
theorem dX6_put_46 : decode cX6_put 46 = .ok (.aload_n 0, 1) := by decide +kernel
theorem dX6_put_47 : decode cX6_put 47 = .ok (.getfield 29, 3) := by decide +kernel
theorem dX6_put_50 : decode cX6_put 50 = .ok (.aload_n 0, 1) := by decide +kernel
theorem dX6_put_51 : decode cX6_put 51 = .ok (.getfield 10, 3) := by decide +kernel
theorem dX6_put_54 : decode cX6_put 54 = .ok (.invokevirtual 63, 3) := by decide +kernel
theorem dX6_put_57 : decode cX6_put 57 = .ok (.aload_n 0, 1) := by decide +kernel
theorem dX6_put_58 : decode cX6_put 58 = .ok (.getfield 10, 3) := by decide +kernel
theorem dX6_put_61 : decode cX6_put 61 = .ok (.getfield 87, 3) := by decide +kernel
theorem dX6_put_64 : decode cX6_put 64 = .ok (.getfield 110, 3) := by decide +kernel
theorem dX6_put_67 : decode cX6_put 67 = .ok (.iload_n 1, 1) := by decide +kernel
theorem dX6_put_68 : decode cX6_put 68 = .ok (.dup2, 1) := by decide +kernel
theorem dX6_put_69 : decode cX6_put 69 = .ok (.iaload, 1) := by decide +kernel
theorem dX6_put_70 : decode cX6_put 70 = .ok (.iload_n 2, 1) := by decide +kernel
theorem dX6_put_71 : decode cX6_put 71 = .ok (.iadd, 1) := by decide +kernel
theorem dX6_put_72 : decode cX6_put 72 = .ok (.iastore, 1) := by decide +kernel
theorem dX6_put_73 : decode cX6_put 73 = .ok (.aload_n 0, 1) := by decide +kernel
theorem dX6_put_74 : decode cX6_put 74 = .ok (.getfield 10, 3) := by decide +kernel
theorem dX6_put_77 : decode cX6_put 77 = .ok (.invokevirtual 113, 3) := by decide +kernel
theorem dX6_put_80 : decode cX6_put 80 = .ok (.aload_n 0, 1) := by decide +kernel
theorem dX6_put_81 : decode cX6_put 81 = .ok (.getfield 10, 3) := by decide +kernel
theorem dX6_put_84 : decode cX6_put 84 = .ok (.getfield 87, 3) := by decide +kernel
theorem dX6_put_87 : decode cX6_put 87 = .ok (.getfield 110, 3) := by decide +kernel
theorem dX6_put_90 : decode cX6_put 90 = .ok (.iload_n 1, 1) := by decide +kernel
theorem dX6_put_91 : decode cX6_put 91 = .ok (.iaload, 1) := by decide +kernel
theorem dX6_put_92 : decode cX6_put 92 = .ok (.ireturn, 1) := by decide +kernel
theorem dX6_come_0 : decode cX6_come 0 = .ok (.iload_n 1, 1) := by decide +kernel
theorem dX6_come_1 : decode cX6_come 1 = .ok (.iconst 5, 1) := by decide +kernel
theorem dX6_come_2 : decode cX6_come 2 = .ok (.invokestatic 40, 3) := by decide +kernel
theorem dX6_come_5 : decode cX6_come 5 = .ok (.ifCond .ne 5, 3) := by decide +kernel
theorem dX6_come_8 : decode cX6_come 8 = .ok (.iconst (-1), 1) := by decide +kernel
theorem dX6_come_9 : decode cX6_come 9 = .ok (.ireturn, 1) := by decide +kernel
theorem dX6_come_10 : decode cX6_come 10 = .ok (.aload_n 0, 1) := by decide +kernel
theorem dX6_come_11 : decode cX6_come 11 = .ok (.getfield 10, 3) := by decide +kernel
theorem dX6_come_14 : decode cX6_come 14 = .ok (.getfield 73, 3) := by decide +kernel
theorem dX6_come_17 : decode cX6_come 17 = .ok (.getfield 116, 3) := by decide +kernel
theorem dX6_come_20 : decode cX6_come 20 = .ok (.bipush 20, 2) := by decide +kernel
theorem dX6_come_22 : decode cX6_come 22 = .ok (.if_icmp .lt 6, 3) := by decide +kernel
theorem dX6_come_25 : decode cX6_come 25 = .ok (.bipush (-3), 2) := by decide +kernel
theorem dX6_come_27 : decode cX6_come 27 = .ok (.ireturn, 1) := by decide +kernel
theorem dX6_come_28 : decode cX6_come 28 = .ok (.aload_n 0, 1) := by decide +kernel
theorem dX6_come_29 : decode cX6_come 29 = .ok (.getfield 29, 3) := by decide +kernel
theorem dX6_come_32 : decode cX6_come 32 = .ok (.aload_n 0, 1) := by decide +kernel
theorem dX6_come_33 : decode cX6_come 33 = .ok (.getfield 10, 3) := by decide +kernel
theorem dX6_come_36 : decode cX6_come 36 = .ok (.invokevirtual 63, 3) := by decide +kernel
theorem dX6_come_39 : decode cX6_come 39 = .ok (.aload_n 0, 1) := by decide +kernel
theorem dX6_come_40 : decode cX6_come 40 = .ok (.getfield 10, 3) := by decide +kernel
theorem dX6_come_43 : decode cX6_come 43 = .ok (.getfield 73, 3) := by decide +kernel
theorem dX6_come_46 : decode cX6_come 46 = .ok (.iload_n 1, 1) := by decide +kernel
theorem dX6_come_47 : decode cX6_come 47 = .ok (.aload_n 0, 1) := by decide +kernel
theorem dX6_come_48 : decode cX6_come 48 = .ok (.getfield 10, 3) := by decide +kernel
theorem dX6_come_51 : decode cX6_come 51 = .ok (.getfield 103, 3) := by decide +kernel
theorem dX6_come_54 : decode cX6_come 54 = .ok (.invokevirtual 119, 3) := by decide +kernel
theorem dX6_come_57 : decode cX6_come 57 = .ok (.ireturn, 1) := by decide +kernel
theorem dX6_estimate_0 : decode cX6_estimate 0 = .ok (.aload_n 0, 1) := by decide +kernel
theorem dX6_estimate_1 : decode cX6_estimate 1 = .ok (.iload_n 1, 1) := by decide +kernel
theorem dX6_estimate_2 : decode cX6_estimate 2 = .ok (.invokevirtual 123, 3) := by decide +kernel
theorem dX6_estimate_5 : decode cX6_estimate 5 = .ok (.ifCond .ne 5, 3) := by decide +kernel
theorem dX6_estimate_8 : decode cX6_estimate 8 = .ok (.iconst (-1), 1) := by decide +kernel
theorem dX6_estimate_9 : decode cX6_estimate 9 = .ok (.ireturn, 1) := by decide +kernel
theorem dX6_estimate_10 : decode cX6_estimate 10 = .ok (.aload_n 0, 1) := by decide +kernel
theorem dX6_estimate_11 : decode cX6_estimate 11 = .ok (.getfield 10, 3) := by decide +kernel
theorem dX6_estimate_14 : decode cX6_estimate 14 = .ok (.getfield 73, 3) := by decide +kernel
theorem dX6_estimate_17 : decode cX6_estimate 17 = .ok (.getfield 127, 3) := by decide +kernel
theorem dX6_estimate_20 : decode cX6_estimate 20 = .ok (.iload_n 1, 1) := by decide +kernel
theorem dX6_estimate_21 : decode cX6_estimate 21 = .ok (.iaload, 1) := by decide +kernel
theorem dX6_estimate_22 : decode cX6_estimate 22 = .ok (.ifCond .eq 6, 3) := by decide +kernel
theorem dX6_estimate_25 : decode cX6_estimate 25 = .ok (.bipush (-4), 2) := by decide +kernel
theorem dX6_estimate_27 : decode cX6_estimate 27 = .ok (.ireturn, 1) := by decide +kernel
theorem dX6_estimate_28 : decode cX6_estimate 28 = .ok (.aload_n 0, 1) := by decide +kernel
theorem dX6_estimate_29 : decode cX6_estimate 29 = .ok (.getfield 29, 3) := by decide +kernel
theorem dX6_estimate_32 : decode cX6_estimate 32 = .ok (.aload_n 0, 1) := by decide +kernel
theorem dX6_estimate_33 : decode cX6_estimate 33 = .ok (.getfield 10, 3) := by decide +kernel
theorem dX6_estimate_36 : decode cX6_estimate 36 = .ok (.invokevirtual 63, 3) := by decide +kernel
theorem dX6_estimate_39 : decode cX6_estimate 39 = .ok (.aload_n 0, 1) := by decide +kernel
theorem dX6_estimate_40 : decode cX6_estimate 40 = .ok (.getfield 10, 3) := by decide +kernel
theorem dX6_estimate_43 : decode cX6_estimate 43 = .ok (.aload_n 0, 1) := by decide +kernel
theorem dX6_estimate_44 : decode cX6_estimate 44 = .ok (.getfield 10, 3) := by decide +kernel
theorem dX6_estimate_47 : decode cX6_estimate 47 = .ok (.getfield 73, 3) := by decide +kernel
theorem dX6_estimate_50 : decode cX6_estimate 50 = .ok (.getfield 130, 3) := by decide +kernel
theorem dX6_estimate_53 : decode cX6_estimate 53 = .ok (.iload_n 1, 1) := by decide +kernel
theorem dX6_estimate_54 : decode cX6_estimate 54 = .ok (.iaload, 1) := by decide +kernel
theorem dX6_estimate_55 : decode cX6_estimate 55 = .ok (.invokevirtual 133, 3) := by decide +kernel
theorem dX6_estimate_58 : decode cX6_estimate 58 = .ok (.istore_n 2, 1) := by decide +kernel
theorem dX6_estimate_59 : decode cX6_estimate 59 = .ok (.aload_n 0, 1) := by decide +kernel
theorem dX6_estimate_60 : decode cX6_estimate 60 = .ok (.getfield 10, 3) := by decide +kernel
theorem dX6_estimate_63 : decode cX6_estimate 63 = .ok (.getfield 73, 3) := by decide +kernel
theorem dX6_estimate_66 : decode cX6_estimate 66 = .ok (.getfield 137, 3) := by decide +kernel
theorem dX6_estimate_69 : decode cX6_estimate 69 = .ok (.iload_n 1, 1) := by decide +kernel
theorem dX6_estimate_70 : decode cX6_estimate 70 = .ok (.iload_n 2, 1) := by decide +kernel
theorem dX6_estimate_71 : decode cX6_estimate 71 = .ok (.iastore, 1) := by decide +kernel
theorem dX6_estimate_72 : decode cX6_estimate 72 = .ok (.aload_n 0, 1) := by decide +kernel
theorem dX6_estimate_73 : decode cX6_estimate 73 = .ok (.getfield 10, 3) := by decide +kernel
theorem dX6_estimate_76 : decode cX6_estimate 76 = .ok (.getfield 73, 3) := by decide +kernel
theorem dX6_estimate_79 : decode cX6_estimate 79 = .ok (.getfield 127, 3) := by decide +kernel
theorem dX6_estimate_82 : decode cX6_estimate 82 = .ok (.iload_n 1, 1) := by decide +kernel
theorem dX6_estimate_83 : decode cX6_estimate 83 = .ok (.iconst 1, 1) := by decide +kernel
theorem dX6_estimate_84 : decode cX6_estimate 84 = .ok (.iastore, 1) := by decide +kernel
theorem dX6_estimate_85 : decode cX6_estimate 85 = .ok (.iload_n 2, 1) := by decide +kernel
theorem dX6_estimate_86 : decode cX6_estimate 86 = .ok (.ireturn, 1) := by decide +kernel
theorem dX6_answer_0 : decode cX6_answer 0 = .ok (.aload_n 0, 1) := by decide +kernel
theorem dX6_answer_1 : decode cX6_answer 1 = .ok (.iload_n 1, 1) := by decide +kernel
theorem dX6_answer_2 : decode cX6_answer 2 = .ok (.invokevirtual 123, 3) := by decide +kernel
theorem dX6_answer_5 : decode cX6_answer 5 = .ok (.ifCond .ne 5, 3) := by decide +kernel
theorem dX6_answer_8 : decode cX6_answer 8 = .ok (.iconst (-1), 1) := by decide +kernel
theorem dX6_answer_9 : decode cX6_answer 9 = .ok (.ireturn, 1) := by decide +kernel
theorem dX6_answer_10 : decode cX6_answer 10 = .ok (.aload_n 0, 1) := by decide +kernel
theorem dX6_answer_11 : decode cX6_answer 11 = .ok (.getfield 10, 3) := by decide +kernel
theorem dX6_answer_14 : decode cX6_answer 14 = .ok (.getfield 73, 3) := by decide +kernel
theorem dX6_answer_17 : decode cX6_answer 17 = .ok (.getfield 127, 3) := by decide +kernel
theorem dX6_answer_20 : decode cX6_answer 20 = .ok (.iload_n 1, 1) := by decide +kernel
theorem dX6_answer_21 : decode cX6_answer 21 = .ok (.iaload, 1) := by decide +kernel
theorem dX6_answer_22 : decode cX6_answer 22 = .ok (.iconst 1, 1) := by decide +kernel
theorem dX6_answer_23 : decode cX6_answer 23 = .ok (.if_icmp .eq 6, 3) := by decide +kernel
theorem dX6_answer_26 : decode cX6_answer 26 = .ok (.bipush (-4), 2) := by decide +kernel
theorem dX6_answer_28 : decode cX6_answer 28 = .ok (.ireturn, 1) := by decide +kernel
theorem dX6_answer_29 : decode cX6_answer 29 = .ok (.aload_n 0, 1) := by decide +kernel
theorem dX6_answer_30 : decode cX6_answer 30 = .ok (.getfield 29, 3) := by decide +kernel
theorem dX6_answer_33 : decode cX6_answer 33 = .ok (.aload_n 0, 1) := by decide +kernel
theorem dX6_answer_34 : decode cX6_answer 34 = .ok (.getfield 10, 3) := by decide +kernel
theorem dX6_answer_37 : decode cX6_answer 37 = .ok (.invokevirtual 63, 3) := by decide +kernel
theorem dX6_answer_40 : decode cX6_answer 40 = .ok (.aload_n 0, 1) := by decide +kernel
theorem dX6_answer_41 : decode cX6_answer 41 = .ok (.getfield 10, 3) := by decide +kernel
theorem dX6_answer_44 : decode cX6_answer 44 = .ok (.iload_n 1, 1) := by decide +kernel
theorem dX6_answer_45 : decode cX6_answer 45 = .ok (.iload_n 2, 1) := by decide +kernel
theorem dX6_answer_46 : decode cX6_answer 46 = .ok (.invokevirtual 140, 3) := by decide +kernel
theorem dX6_answer_49 : decode cX6_answer 49 = .ok (.aload_n 0, 1) := by decide +kernel
theorem dX6_answer_50 : decode cX6_answer 50 = .ok (.getfield 10, 3) := by decide +kernel
theorem dX6_answer_53 : decode cX6_answer 53 = .ok (.getfield 73, 3) := by decide +kernel
theorem dX6_answer_56 : decode cX6_answer 56 = .ok (.getfield 127, 3) := by decide +kernel
theorem dX6_answer_59 : decode cX6_answer 59 = .ok (.iload_n 1, 1) := by decide +kernel
theorem dX6_answer_60 : decode cX6_answer 60 = .ok (.iaload, 1) := by decide +kernel
theorem dX6_answer_61 : decode cX6_answer 61 = .ok (.ireturn, 1) := by decide +kernel
theorem dX6_lend_0 : decode cX6_lend 0 = .ok (.aload_n 0, 1) := by decide +kernel
theorem dX6_lend_1 : decode cX6_lend 1 = .ok (.iload_n 1, 1) := by decide +kernel
theorem dX6_lend_2 : decode cX6_lend 2 = .ok (.invokevirtual 123, 3) := by decide +kernel
theorem dX6_lend_5 : decode cX6_lend 5 = .ok (.ifCond .ne 5, 3) := by decide +kernel
theorem dX6_lend_8 : decode cX6_lend 8 = .ok (.iconst (-1), 1) := by decide +kernel
theorem dX6_lend_9 : decode cX6_lend 9 = .ok (.ireturn, 1) := by decide +kernel
theorem dX6_lend_10 : decode cX6_lend 10 = .ok (.aload_n 0, 1) := by decide +kernel
theorem dX6_lend_11 : decode cX6_lend 11 = .ok (.getfield 10, 3) := by decide +kernel
theorem dX6_lend_14 : decode cX6_lend 14 = .ok (.getfield 73, 3) := by decide +kernel
theorem dX6_lend_17 : decode cX6_lend 17 = .ok (.getfield 127, 3) := by decide +kernel
theorem dX6_lend_20 : decode cX6_lend 20 = .ok (.iload_n 1, 1) := by decide +kernel
theorem dX6_lend_21 : decode cX6_lend 21 = .ok (.iaload, 1) := by decide +kernel
theorem dX6_lend_22 : decode cX6_lend 22 = .ok (.iconst 4, 1) := by decide +kernel
theorem dX6_lend_23 : decode cX6_lend 23 = .ok (.if_icmp .ge 19, 3) := by decide +kernel
theorem dX6_lend_26 : decode cX6_lend 26 = .ok (.aload_n 0, 1) := by decide +kernel
theorem dX6_lend_27 : decode cX6_lend 27 = .ok (.getfield 10, 3) := by decide +kernel
theorem dX6_lend_30 : decode cX6_lend 30 = .ok (.getfield 73, 3) := by decide +kernel
theorem dX6_lend_33 : decode cX6_lend 33 = .ok (.getfield 156, 3) := by decide +kernel
theorem dX6_lend_36 : decode cX6_lend 36 = .ok (.iload_n 1, 1) := by decide +kernel
theorem dX6_lend_37 : decode cX6_lend 37 = .ok (.iaload, 1) := by decide +kernel
theorem dX6_lend_38 : decode cX6_lend 38 = .ok (.iconst 1, 1) := by decide +kernel
theorem dX6_lend_39 : decode cX6_lend 39 = .ok (.if_icmp .ne 6, 3) := by decide +kernel
theorem dX6_lend_42 : decode cX6_lend 42 = .ok (.bipush (-4), 2) := by decide +kernel
theorem dX6_lend_44 : decode cX6_lend 44 = .ok (.ireturn, 1) := by decide +kernel
theorem dX6_lend_45 : decode cX6_lend 45 = .ok (.aload_n 0, 1) := by decide +kernel
theorem dX6_lend_46 : decode cX6_lend 46 = .ok (.getfield 10, 3) := by decide +kernel
theorem dX6_lend_49 : decode cX6_lend 49 = .ok (.invokevirtual 159, 3) := by decide +kernel
theorem dX6_lend_52 : decode cX6_lend 52 = .ok (.ifCond .gt 6, 3) := by decide +kernel
theorem dX6_lend_55 : decode cX6_lend 55 = .ok (.bipush (-3), 2) := by decide +kernel
theorem dX6_lend_57 : decode cX6_lend 57 = .ok (.ireturn, 1) := by decide +kernel
theorem dX6_lend_58 : decode cX6_lend 58 = .ok (.aload_n 0, 1) := by decide +kernel
theorem dX6_lend_59 : decode cX6_lend 59 = .ok (.getfield 29, 3) := by decide +kernel
theorem dX6_lend_62 : decode cX6_lend 62 = .ok (.aload_n 0, 1) := by decide +kernel
theorem dX6_lend_63 : decode cX6_lend 63 = .ok (.getfield 10, 3) := by decide +kernel
theorem dX6_lend_66 : decode cX6_lend 66 = .ok (.invokevirtual 63, 3) := by decide +kernel
theorem dX6_lend_69 : decode cX6_lend 69 = .ok (.aload_n 0, 1) := by decide +kernel
theorem dX6_lend_70 : decode cX6_lend 70 = .ok (.getfield 10, 3) := by decide +kernel
theorem dX6_lend_73 : decode cX6_lend 73 = .ok (.getfield 73, 3) := by decide +kernel
theorem dX6_lend_76 : decode cX6_lend 76 = .ok (.getfield 156, 3) := by decide +kernel
theorem dX6_lend_79 : decode cX6_lend 79 = .ok (.iload_n 1, 1) := by decide +kernel
theorem dX6_lend_80 : decode cX6_lend 80 = .ok (.iconst 1, 1) := by decide +kernel
theorem dX6_lend_81 : decode cX6_lend 81 = .ok (.iastore, 1) := by decide +kernel
theorem dX6_lend_82 : decode cX6_lend 82 = .ok (.aload_n 0, 1) := by decide +kernel
theorem dX6_lend_83 : decode cX6_lend 83 = .ok (.getfield 10, 3) := by decide +kernel
theorem dX6_lend_86 : decode cX6_lend 86 = .ok (.invokevirtual 159, 3) := by decide +kernel
theorem dX6_lend_89 : decode cX6_lend 89 = .ok (.ireturn, 1) := by decide +kernel
theorem dX6_collect_0 : decode cX6_collect 0 = .ok (.aload_n 0, 1) := by decide +kernel
theorem dX6_collect_1 : decode cX6_collect 1 = .ok (.iload_n 1, 1) := by decide +kernel
theorem dX6_collect_2 : decode cX6_collect 2 = .ok (.invokevirtual 123, 3) := by decide +kernel
theorem dX6_collect_5 : decode cX6_collect 5 = .ok (.ifCond .ne 5, 3) := by decide +kernel
theorem dX6_collect_8 : decode cX6_collect 8 = .ok (.iconst (-1), 1) := by decide +kernel
theorem dX6_collect_9 : decode cX6_collect 9 = .ok (.ireturn, 1) := by decide +kernel
theorem dX6_collect_10 : decode cX6_collect 10 = .ok (.aload_n 0, 1) := by decide +kernel
theorem dX6_collect_11 : decode cX6_collect 11 = .ok (.getfield 10, 3) := by decide +kernel
theorem dX6_collect_14 : decode cX6_collect 14 = .ok (.getfield 73, 3) := by decide +kernel
theorem dX6_collect_17 : decode cX6_collect 17 = .ok (.iload_n 1, 1) := by decide +kernel
theorem dX6_collect_18 : decode cX6_collect 18 = .ok (.invokevirtual 162, 3) := by decide +kernel
theorem dX6_collect_21 : decode cX6_collect 21 = .ok (.ifCond .ne 6, 3) := by decide +kernel
theorem dX6_collect_24 : decode cX6_collect 24 = .ok (.bipush (-4), 2) := by decide +kernel
theorem dX6_collect_26 : decode cX6_collect 26 = .ok (.ireturn, 1) := by decide +kernel
theorem dX6_collect_27 : decode cX6_collect 27 = .ok (.aload_n 0, 1) := by decide +kernel
theorem dX6_collect_28 : decode cX6_collect 28 = .ok (.getfield 29, 3) := by decide +kernel
theorem dX6_collect_31 : decode cX6_collect 31 = .ok (.aload_n 0, 1) := by decide +kernel
theorem dX6_collect_32 : decode cX6_collect 32 = .ok (.getfield 10, 3) := by decide +kernel
theorem dX6_collect_35 : decode cX6_collect 35 = .ok (.invokevirtual 63, 3) := by decide +kernel
theorem dX6_collect_38 : decode cX6_collect 38 = .ok (.aload_n 0, 1) := by decide +kernel
theorem dX6_collect_39 : decode cX6_collect 39 = .ok (.getfield 10, 3) := by decide +kernel
theorem dX6_collect_42 : decode cX6_collect 42 = .ok (.iload_n 1, 1) := by decide +kernel
theorem dX6_collect_43 : decode cX6_collect 43 = .ok (.invokevirtual 165, 3) := by decide +kernel
theorem dX6_collect_46 : decode cX6_collect 46 = .ok (.ireturn, 1) := by decide +kernel
theorem dX6_pass_0 : decode cX6_pass 0 = .ok (.iload_n 1, 1) := by decide +kernel
theorem dX6_pass_1 : decode cX6_pass 1 = .ok (.iconst 1, 1) := by decide +kernel
theorem dX6_pass_2 : decode cX6_pass 2 = .ok (.bipush 60, 2) := by decide +kernel
theorem dX6_pass_4 : decode cX6_pass 4 = .ok (.invokestatic 51, 3) := by decide +kernel
theorem dX6_pass_7 : decode cX6_pass 7 = .ok (.ifCond .ne 6, 3) := by decide +kernel
theorem dX6_pass_10 : decode cX6_pass 10 = .ok (.bipush (-2), 2) := by decide +kernel
theorem dX6_pass_12 : decode cX6_pass 12 = .ok (.ireturn, 1) := by decide +kernel
theorem dX6_pass_13 : decode cX6_pass 13 = .ok (.aload_n 0, 1) := by decide +kernel
theorem dX6_pass_14 : decode cX6_pass 14 = .ok (.getfield 10, 3) := by decide +kernel
theorem dX6_pass_17 : decode cX6_pass 17 = .ok (.getfield 103, 3) := by decide +kernel
theorem dX6_pass_20 : decode cX6_pass 20 = .ok (.iload_n 1, 1) := by decide +kernel
theorem dX6_pass_21 : decode cX6_pass 21 = .ok (.iadd, 1) := by decide +kernel
theorem dX6_pass_22 : decode cX6_pass 22 = .ok (.sipush 9999, 3) := by decide +kernel
theorem dX6_pass_25 : decode cX6_pass 25 = .ok (.if_icmp .le 6, 3) := by decide +kernel
theorem dX6_pass_28 : decode cX6_pass 28 = .ok (.bipush (-4), 2) := by decide +kernel
theorem dX6_pass_30 : decode cX6_pass 30 = .ok (.ireturn, 1) := by decide +kernel
theorem dX6_pass_31 : decode cX6_pass 31 = .ok (.aload_n 0, 1) := by decide +kernel
theorem dX6_pass_32 : decode cX6_pass 32 = .ok (.getfield 29, 3) := by decide +kernel
theorem dX6_pass_35 : decode cX6_pass 35 = .ok (.aload_n 0, 1) := by decide +kernel
theorem dX6_pass_36 : decode cX6_pass 36 = .ok (.getfield 10, 3) := by decide +kernel
theorem dX6_pass_39 : decode cX6_pass 39 = .ok (.invokevirtual 63, 3) := by decide +kernel
theorem dX6_pass_42 : decode cX6_pass 42 = .ok (.aload_n 0, 1) := by decide +kernel
theorem dX6_pass_43 : decode cX6_pass 43 = .ok (.getfield 10, 3) := by decide +kernel
theorem dX6_pass_46 : decode cX6_pass 46 = .ok (.getfield 168, 3) := by decide +kernel
theorem dX6_pass_49 : decode cX6_pass 49 = .ok (.getfield 172, 3) := by decide +kernel
theorem dX6_pass_52 : decode cX6_pass 52 = .ok (.istore_n 2, 1) := by decide +kernel
theorem dX6_pass_53 : decode cX6_pass 53 = .ok (.iconst 0, 1) := by decide +kernel
theorem dX6_pass_54 : decode cX6_pass 54 = .ok (.istore_n 3, 1) := by decide +kernel
theorem dX6_pass_55 : decode cX6_pass 55 = .ok (.iload_n 3, 1) := by decide +kernel
theorem dX6_pass_56 : decode cX6_pass 56 = .ok (.iload_n 1, 1) := by decide +kernel
theorem dX6_pass_57 : decode cX6_pass 57 = .ok (.if_icmp .ge 16, 3) := by decide +kernel
theorem dX6_pass_60 : decode cX6_pass 60 = .ok (.aload_n 0, 1) := by decide +kernel
theorem dX6_pass_61 : decode cX6_pass 61 = .ok (.getfield 10, 3) := by decide +kernel
theorem dX6_pass_64 : decode cX6_pass 64 = .ok (.invokevirtual 177, 3) := by decide +kernel
theorem dX6_pass_67 : decode cX6_pass 67 = .ok (.iinc 3 1, 3) := by decide +kernel
theorem dX6_pass_70 : decode cX6_pass 70 = .ok (.goto (-15), 3) := by decide +kernel
theorem dX6_pass_73 : decode cX6_pass 73 = .ok (.aload_n 0, 1) := by decide +kernel
theorem dX6_pass_74 : decode cX6_pass 74 = .ok (.getfield 10, 3) := by decide +kernel
theorem dX6_pass_77 : decode cX6_pass 77 = .ok (.getfield 168, 3) := by decide +kernel
theorem dX6_pass_80 : decode cX6_pass 80 = .ok (.getfield 172, 3) := by decide +kernel
theorem dX6_pass_83 : decode cX6_pass 83 = .ok (.iload_n 2, 1) := by decide +kernel
theorem dX6_pass_84 : decode cX6_pass 84 = .ok (.isub, 1) := by decide +kernel
theorem dX6_pass_85 : decode cX6_pass 85 = .ok (.ireturn, 1) := by decide +kernel
theorem dX6_undo_0 : decode cX6_undo 0 = .ok (.aload_n 0, 1) := by decide +kernel
theorem dX6_undo_1 : decode cX6_undo 1 = .ok (.getfield 29, 3) := by decide +kernel
theorem dX6_undo_4 : decode cX6_undo 4 = .ok (.getfield 187, 3) := by decide +kernel
theorem dX6_undo_7 : decode cX6_undo 7 = .ok (.ifCond .gt 6, 3) := by decide +kernel
theorem dX6_undo_10 : decode cX6_undo 10 = .ok (.bipush (-5), 2) := by decide +kernel
theorem dX6_undo_12 : decode cX6_undo 12 = .ok (.ireturn, 1) := by decide +kernel
theorem dX6_undo_13 : decode cX6_undo 13 = .ok (.aload_n 0, 1) := by decide +kernel
theorem dX6_undo_14 : decode cX6_undo 14 = .ok (.getfield 29, 3) := by decide +kernel
theorem dX6_undo_17 : decode cX6_undo 17 = .ok (.aload_n 0, 1) := by decide +kernel
theorem dX6_undo_18 : decode cX6_undo 18 = .ok (.getfield 10, 3) := by decide +kernel
theorem dX6_undo_21 : decode cX6_undo 21 = .ok (.invokevirtual 188, 3) := by decide +kernel
theorem dX6_undo_24 : decode cX6_undo 24 = .ok (.aload_n 0, 1) := by decide +kernel
theorem dX6_undo_25 : decode cX6_undo 25 = .ok (.getfield 29, 3) := by decide +kernel
theorem dX6_undo_28 : decode cX6_undo 28 = .ok (.getfield 187, 3) := by decide +kernel
theorem dX6_undo_31 : decode cX6_undo 31 = .ok (.ireturn, 1) := by decide +kernel
theorem dX6_keep_0 : decode cX6_keep 0 = .ok (.aload_n 0, 1) := by decide +kernel
theorem dX6_keep_1 : decode cX6_keep 1 = .ok (.getfield 19, 3) := by decide +kernel
theorem dX6_keep_4 : decode cX6_keep 4 = .ok (.aload_n 0, 1) := by decide +kernel
theorem dX6_keep_5 : decode cX6_keep 5 = .ok (.getfield 10, 3) := by decide +kernel
theorem dX6_keep_8 : decode cX6_keep 8 = .ok (.invokevirtual 146, 3) := by decide +kernel
theorem dX6_keep_11 : decode cX6_keep 11 = .ok (.aload_n 0, 1) := by decide +kernel
theorem dX6_keep_12 : decode cX6_keep 12 = .ok (.iconst 1, 1) := by decide +kernel
theorem dX6_keep_13 : decode cX6_keep 13 = .ok (.putfield 22, 3) := by decide +kernel
theorem dX6_keep_16 : decode cX6_keep 16 = .ok (.aload_n 0, 1) := by decide +kernel
theorem dX6_keep_17 : decode cX6_keep 17 = .ok (.getfield 10, 3) := by decide +kernel
theorem dX6_keep_20 : decode cX6_keep 20 = .ok (.getfield 103, 3) := by decide +kernel
theorem dX6_keep_23 : decode cX6_keep 23 = .ok (.ireturn, 1) := by decide +kernel
theorem dX6_restore_0 : decode cX6_restore 0 = .ok (.aload_n 0, 1) := by decide +kernel
theorem dX6_restore_1 : decode cX6_restore 1 = .ok (.getfield 22, 3) := by decide +kernel
theorem dX6_restore_4 : decode cX6_restore 4 = .ok (.ifCond .ne 6, 3) := by decide +kernel
theorem dX6_restore_7 : decode cX6_restore 7 = .ok (.bipush (-5), 2) := by decide +kernel
theorem dX6_restore_9 : decode cX6_restore 9 = .ok (.ireturn, 1) := by decide +kernel
theorem dX6_restore_10 : decode cX6_restore 10 = .ok (.aload_n 0, 1) := by decide +kernel
theorem dX6_restore_11 : decode cX6_restore 11 = .ok (.getfield 29, 3) := by decide +kernel
theorem dX6_restore_14 : decode cX6_restore 14 = .ok (.aload_n 0, 1) := by decide +kernel
theorem dX6_restore_15 : decode cX6_restore 15 = .ok (.getfield 10, 3) := by decide +kernel
theorem dX6_restore_18 : decode cX6_restore 18 = .ok (.invokevirtual 63, 3) := by decide +kernel
theorem dX6_restore_21 : decode cX6_restore 21 = .ok (.aload_n 0, 1) := by decide +kernel
theorem dX6_restore_22 : decode cX6_restore 22 = .ok (.getfield 10, 3) := by decide +kernel
theorem dX6_restore_25 : decode cX6_restore 25 = .ok (.aload_n 0, 1) := by decide +kernel
theorem dX6_restore_26 : decode cX6_restore 26 = .ok (.getfield 19, 3) := by decide +kernel
theorem dX6_restore_29 : decode cX6_restore 29 = .ok (.invokevirtual 146, 3) := by decide +kernel
theorem dX6_restore_32 : decode cX6_restore 32 = .ok (.aload_n 0, 1) := by decide +kernel
theorem dX6_restore_33 : decode cX6_restore 33 = .ok (.getfield 10, 3) := by decide +kernel
theorem dX6_restore_36 : decode cX6_restore 36 = .ok (.getfield 103, 3) := by decide +kernel
theorem dX6_restore_39 : decode cX6_restore 39 = .ok (.ireturn, 1) := by decide +kernel
theorem dX6_rate_0 : decode cX6_rate 0 = .ok (.iload_n 1, 1) := by decide +kernel
theorem dX6_rate_1 : decode cX6_rate 1 = .ok (.iconst 4, 1) := by decide +kernel
theorem dX6_rate_2 : decode cX6_rate 2 = .ok (.invokestatic 40, 3) := by decide +kernel
theorem dX6_rate_5 : decode cX6_rate 5 = .ok (.ifCond .eq 15, 3) := by decide +kernel
theorem dX6_rate_8 : decode cX6_rate 8 = .ok (.aload_n 0, 1) := by decide +kernel
theorem dX6_rate_9 : decode cX6_rate 9 = .ok (.getfield 10, 3) := by decide +kernel
theorem dX6_rate_12 : decode cX6_rate 12 = .ok (.getfield 59, 3) := by decide +kernel
theorem dX6_rate_15 : decode cX6_rate 15 = .ok (.iload_n 1, 1) := by decide +kernel
theorem dX6_rate_16 : decode cX6_rate 16 = .ok (.faload, 1) := by decide +kernel
theorem dX6_rate_17 : decode cX6_rate 17 = .ok (.goto 5, 3) := by decide +kernel
theorem dX6_rate_20 : decode cX6_rate 20 = .ok (.ldc 191, 2) := by decide +kernel
theorem dX6_rate_22 : decode cX6_rate 22 = .ok (.freturn, 1) := by decide +kernel
theorem dX6_number_0 : decode cX6_number 0 = .ok (.iload_n 1, 1) := by decide +kernel
theorem dX6_number_1 : decode cX6_number 1 = .ok (.iconst 5, 1) := by decide +kernel
theorem dX6_number_2 : decode cX6_number 2 = .ok (.invokestatic 40, 3) := by decide +kernel
theorem dX6_number_5 : decode cX6_number 5 = .ok (.ifCond .eq 15, 3) := by decide +kernel
theorem dX6_number_8 : decode cX6_number 8 = .ok (.aload_n 0, 1) := by decide +kernel
theorem dX6_number_9 : decode cX6_number 9 = .ok (.getfield 10, 3) := by decide +kernel
theorem dX6_number_12 : decode cX6_number 12 = .ok (.getfield 83, 3) := by decide +kernel
theorem dX6_number_15 : decode cX6_number 15 = .ok (.iload_n 1, 1) := by decide +kernel
theorem dX6_number_16 : decode cX6_number 16 = .ok (.iaload, 1) := by decide +kernel
theorem dX6_number_17 : decode cX6_number 17 = .ok (.goto 4, 3) := by decide +kernel
theorem dX6_number_20 : decode cX6_number 20 = .ok (.iconst (-1), 1) := by decide +kernel
theorem dX6_number_21 : decode cX6_number 21 = .ok (.ireturn, 1) := by decide +kernel
theorem dX6_part_0 : decode cX6_part 0 = .ok (.iload_n 1, 1) := by decide +kernel
theorem dX6_part_1 : decode cX6_part 1 = .ok (.bipush 6, 2) := by decide +kernel
theorem dX6_part_3 : decode cX6_part 3 = .ok (.invokestatic 40, 3) := by decide +kernel
theorem dX6_part_6 : decode cX6_part 6 = .ok (.ifCond .ne 5, 3) := by decide +kernel
theorem dX6_part_9 : decode cX6_part 9 = .ok (.iconst (-1), 1) := by decide +kernel
theorem dX6_part_10 : decode cX6_part 10 = .ok (.ireturn, 1) := by decide +kernel
theorem dX6_part_11 : decode cX6_part 11 = .ok (.iload_n 2, 1) := by decide +kernel
theorem dX6_part_12 : decode cX6_part 12 = .ok (.tableswitch 113 0 5 #[40, 53, 66, 79, 92, 104], 40) := by decide +kernel
theorem dX6_part_52 : decode cX6_part 52 = .ok (.aload_n 0, 1) := by decide +kernel
theorem dX6_part_53 : decode cX6_part 53 = .ok (.getfield 10, 3) := by decide +kernel
theorem dX6_part_56 : decode cX6_part 56 = .ok (.getfield 87, 3) := by decide +kernel
theorem dX6_part_59 : decode cX6_part 59 = .ok (.getfield 91, 3) := by decide +kernel
theorem dX6_part_62 : decode cX6_part 62 = .ok (.iload_n 1, 1) := by decide +kernel
theorem dX6_part_63 : decode cX6_part 63 = .ok (.iaload, 1) := by decide +kernel
theorem dX6_part_64 : decode cX6_part 64 = .ok (.ireturn, 1) := by decide +kernel
theorem dX6_part_65 : decode cX6_part 65 = .ok (.aload_n 0, 1) := by decide +kernel
theorem dX6_part_66 : decode cX6_part 66 = .ok (.getfield 10, 3) := by decide +kernel
theorem dX6_part_69 : decode cX6_part 69 = .ok (.getfield 87, 3) := by decide +kernel
theorem dX6_part_72 : decode cX6_part 72 = .ok (.getfield 96, 3) := by decide +kernel
theorem dX6_part_75 : decode cX6_part 75 = .ok (.iload_n 1, 1) := by decide +kernel
theorem dX6_part_76 : decode cX6_part 76 = .ok (.iaload, 1) := by decide +kernel
theorem dX6_part_77 : decode cX6_part 77 = .ok (.ireturn, 1) := by decide +kernel
theorem dX6_part_78 : decode cX6_part 78 = .ok (.aload_n 0, 1) := by decide +kernel
theorem dX6_part_79 : decode cX6_part 79 = .ok (.getfield 10, 3) := by decide +kernel
theorem dX6_part_82 : decode cX6_part 82 = .ok (.getfield 87, 3) := by decide +kernel
theorem dX6_part_85 : decode cX6_part 85 = .ok (.getfield 110, 3) := by decide +kernel
theorem dX6_part_88 : decode cX6_part 88 = .ok (.iload_n 1, 1) := by decide +kernel
theorem dX6_part_89 : decode cX6_part 89 = .ok (.iaload, 1) := by decide +kernel
theorem dX6_part_90 : decode cX6_part 90 = .ok (.ireturn, 1) := by decide +kernel
theorem dX6_part_91 : decode cX6_part 91 = .ok (.aload_n 0, 1) := by decide +kernel
theorem dX6_part_92 : decode cX6_part 92 = .ok (.getfield 10, 3) := by decide +kernel
theorem dX6_part_95 : decode cX6_part 95 = .ok (.getfield 87, 3) := by decide +kernel
theorem dX6_part_98 : decode cX6_part 98 = .ok (.getfield 192, 3) := by decide +kernel
theorem dX6_part_101 : decode cX6_part 101 = .ok (.iload_n 1, 1) := by decide +kernel
theorem dX6_part_102 : decode cX6_part 102 = .ok (.iaload, 1) := by decide +kernel
theorem dX6_part_103 : decode cX6_part 103 = .ok (.ireturn, 1) := by decide +kernel
theorem dX6_part_104 : decode cX6_part 104 = .ok (.aload_n 0, 1) := by decide +kernel
theorem dX6_part_105 : decode cX6_part 105 = .ok (.getfield 10, 3) := by decide +kernel
theorem dX6_part_108 : decode cX6_part 108 = .ok (.getfield 87, 3) := by decide +kernel
theorem dX6_part_111 : decode cX6_part 111 = .ok (.iload_n 1, 1) := by decide +kernel
theorem dX6_part_112 : decode cX6_part 112 = .ok (.invokevirtual 195, 3) := by decide +kernel
theorem dX6_part_115 : decode cX6_part 115 = .ok (.ireturn, 1) := by decide +kernel
theorem dX6_part_116 : decode cX6_part 116 = .ok (.aload_n 0, 1) := by decide +kernel
theorem dX6_part_117 : decode cX6_part 117 = .ok (.getfield 10, 3) := by decide +kernel
theorem dX6_part_120 : decode cX6_part 120 = .ok (.iload_n 1, 1) := by decide +kernel
theorem dX6_part_121 : decode cX6_part 121 = .ok (.invokevirtual 198, 3) := by decide +kernel
theorem dX6_part_124 : decode cX6_part 124 = .ok (.ireturn, 1) := by decide +kernel
theorem dX6_part_125 : decode cX6_part 125 = .ok (.bipush (-2), 2) := by decide +kernel
theorem dX6_part_127 : decode cX6_part 127 = .ok (.ireturn, 1) := by decide +kernel
theorem dX6_costOf_0 : decode cX6_costOf 0 = .ok (.iload_n 1, 1) := by decide +kernel
theorem dX6_costOf_1 : decode cX6_costOf 1 = .ok (.iconst 5, 1) := by decide +kernel
theorem dX6_costOf_2 : decode cX6_costOf 2 = .ok (.invokestatic 40, 3) := by decide +kernel
theorem dX6_costOf_5 : decode cX6_costOf 5 = .ok (.ifCond .eq 14, 3) := by decide +kernel
theorem dX6_costOf_8 : decode cX6_costOf 8 = .ok (.aload_n 0, 1) := by decide +kernel
theorem dX6_costOf_9 : decode cX6_costOf 9 = .ok (.getfield 10, 3) := by decide +kernel
theorem dX6_costOf_12 : decode cX6_costOf 12 = .ok (.iload_n 1, 1) := by decide +kernel
theorem dX6_costOf_13 : decode cX6_costOf 13 = .ok (.invokevirtual 133, 3) := by decide +kernel
theorem dX6_costOf_16 : decode cX6_costOf 16 = .ok (.goto 4, 3) := by decide +kernel
theorem dX6_costOf_19 : decode cX6_costOf 19 = .ok (.iconst (-1), 1) := by decide +kernel
theorem dX6_costOf_20 : decode cX6_costOf 20 = .ok (.ireturn, 1) := by decide +kernel
theorem dX6_set_0 : decode cX6_set 0 = .ok (.aload_n 0, 1) := by decide +kernel
theorem dX6_set_1 : decode cX6_set 1 = .ok (.iload_n 1, 1) := by decide +kernel
theorem dX6_set_2 : decode cX6_set 2 = .ok (.invokevirtual 123, 3) := by decide +kernel
theorem dX6_set_5 : decode cX6_set 5 = .ok (.ifCond .ne 5, 3) := by decide +kernel
theorem dX6_set_8 : decode cX6_set 8 = .ok (.iconst (-1), 1) := by decide +kernel
theorem dX6_set_9 : decode cX6_set 9 = .ok (.ireturn, 1) := by decide +kernel
theorem dX6_set_10 : decode cX6_set 10 = .ok (.iload_n 2, 1) := by decide +kernel
theorem dX6_set_11 : decode cX6_set 11 = .ok (.tableswitch 181 0 8 #[49, 62, 75, 88, 101, 114, 127, 140, 153], 49) := by decide +kernel
theorem dX6_set_60 : decode cX6_set 60 = .ok (.aload_n 0, 1) := by decide +kernel
theorem dX6_set_61 : decode cX6_set 61 = .ok (.getfield 10, 3) := by decide +kernel
theorem dX6_set_64 : decode cX6_set 64 = .ok (.getfield 73, 3) := by decide +kernel
theorem dX6_set_67 : decode cX6_set 67 = .ok (.getfield 130, 3) := by decide +kernel
theorem dX6_set_70 : decode cX6_set 70 = .ok (.iload_n 1, 1) := by decide +kernel
theorem dX6_set_71 : decode cX6_set 71 = .ok (.iaload, 1) := by decide +kernel
theorem dX6_set_72 : decode cX6_set 72 = .ok (.ireturn, 1) := by decide +kernel
theorem dX6_set_73 : decode cX6_set 73 = .ok (.aload_n 0, 1) := by decide +kernel
theorem dX6_set_74 : decode cX6_set 74 = .ok (.getfield 10, 3) := by decide +kernel
theorem dX6_set_77 : decode cX6_set 77 = .ok (.getfield 73, 3) := by decide +kernel
theorem dX6_set_80 : decode cX6_set 80 = .ok (.getfield 201, 3) := by decide +kernel
theorem dX6_set_83 : decode cX6_set 83 = .ok (.iload_n 1, 1) := by decide +kernel
theorem dX6_set_84 : decode cX6_set 84 = .ok (.iaload, 1) := by decide +kernel
theorem dX6_set_85 : decode cX6_set 85 = .ok (.ireturn, 1) := by decide +kernel
theorem dX6_set_86 : decode cX6_set 86 = .ok (.aload_n 0, 1) := by decide +kernel
theorem dX6_set_87 : decode cX6_set 87 = .ok (.getfield 10, 3) := by decide +kernel
theorem dX6_set_90 : decode cX6_set 90 = .ok (.getfield 73, 3) := by decide +kernel
theorem dX6_set_93 : decode cX6_set 93 = .ok (.getfield 137, 3) := by decide +kernel
theorem dX6_set_96 : decode cX6_set 96 = .ok (.iload_n 1, 1) := by decide +kernel
theorem dX6_set_97 : decode cX6_set 97 = .ok (.iaload, 1) := by decide +kernel
theorem dX6_set_98 : decode cX6_set 98 = .ok (.ireturn, 1) := by decide +kernel
theorem dX6_set_99 : decode cX6_set 99 = .ok (.aload_n 0, 1) := by decide +kernel
theorem dX6_set_100 : decode cX6_set 100 = .ok (.getfield 10, 3) := by decide +kernel
theorem dX6_set_103 : decode cX6_set 103 = .ok (.getfield 73, 3) := by decide +kernel
theorem dX6_set_106 : decode cX6_set 106 = .ok (.getfield 204, 3) := by decide +kernel
theorem dX6_set_109 : decode cX6_set 109 = .ok (.iload_n 1, 1) := by decide +kernel
theorem dX6_set_110 : decode cX6_set 110 = .ok (.iaload, 1) := by decide +kernel
theorem dX6_set_111 : decode cX6_set 111 = .ok (.ireturn, 1) := by decide +kernel
theorem dX6_set_112 : decode cX6_set 112 = .ok (.aload_n 0, 1) := by decide +kernel
theorem dX6_set_113 : decode cX6_set 113 = .ok (.getfield 10, 3) := by decide +kernel
theorem dX6_set_116 : decode cX6_set 116 = .ok (.getfield 73, 3) := by decide +kernel
theorem dX6_set_119 : decode cX6_set 119 = .ok (.getfield 207, 3) := by decide +kernel
theorem dX6_set_122 : decode cX6_set 122 = .ok (.iload_n 1, 1) := by decide +kernel
theorem dX6_set_123 : decode cX6_set 123 = .ok (.iaload, 1) := by decide +kernel
theorem dX6_set_124 : decode cX6_set 124 = .ok (.ireturn, 1) := by decide +kernel
theorem dX6_set_125 : decode cX6_set 125 = .ok (.aload_n 0, 1) := by decide +kernel
theorem dX6_set_126 : decode cX6_set 126 = .ok (.getfield 10, 3) := by decide +kernel
theorem dX6_set_129 : decode cX6_set 129 = .ok (.getfield 73, 3) := by decide +kernel
theorem dX6_set_132 : decode cX6_set 132 = .ok (.getfield 156, 3) := by decide +kernel
theorem dX6_set_135 : decode cX6_set 135 = .ok (.iload_n 1, 1) := by decide +kernel
theorem dX6_set_136 : decode cX6_set 136 = .ok (.iaload, 1) := by decide +kernel
theorem dX6_set_137 : decode cX6_set 137 = .ok (.ireturn, 1) := by decide +kernel
theorem dX6_set_138 : decode cX6_set 138 = .ok (.aload_n 0, 1) := by decide +kernel
theorem dX6_set_139 : decode cX6_set 139 = .ok (.getfield 10, 3) := by decide +kernel
theorem dX6_set_142 : decode cX6_set 142 = .ok (.getfield 73, 3) := by decide +kernel
theorem dX6_set_145 : decode cX6_set 145 = .ok (.getfield 127, 3) := by decide +kernel
theorem dX6_set_148 : decode cX6_set 148 = .ok (.iload_n 1, 1) := by decide +kernel
theorem dX6_set_149 : decode cX6_set 149 = .ok (.iaload, 1) := by decide +kernel
theorem dX6_set_150 : decode cX6_set 150 = .ok (.ireturn, 1) := by decide +kernel
theorem dX6_set_151 : decode cX6_set 151 = .ok (.aload_n 0, 1) := by decide +kernel
theorem dX6_set_152 : decode cX6_set 152 = .ok (.getfield 10, 3) := by decide +kernel
theorem dX6_set_155 : decode cX6_set 155 = .ok (.getfield 73, 3) := by decide +kernel
theorem dX6_set_158 : decode cX6_set 158 = .ok (.getfield 210, 3) := by decide +kernel
theorem dX6_set_161 : decode cX6_set 161 = .ok (.iload_n 1, 1) := by decide +kernel
theorem dX6_set_162 : decode cX6_set 162 = .ok (.iaload, 1) := by decide +kernel
theorem dX6_set_163 : decode cX6_set 163 = .ok (.ireturn, 1) := by decide +kernel
theorem dX6_set_164 : decode cX6_set 164 = .ok (.aload_n 0, 1) := by decide +kernel
theorem dX6_set_165 : decode cX6_set 165 = .ok (.getfield 10, 3) := by decide +kernel
theorem dX6_set_168 : decode cX6_set 168 = .ok (.getfield 73, 3) := by decide +kernel
theorem dX6_set_171 : decode cX6_set 171 = .ok (.iload_n 1, 1) := by decide +kernel
theorem dX6_set_172 : decode cX6_set 172 = .ok (.invokevirtual 162, 3) := by decide +kernel
theorem dX6_set_175 : decode cX6_set 175 = .ok (.ifCond .eq 14, 3) := by decide +kernel
theorem dX6_set_178 : decode cX6_set 178 = .ok (.aload_n 0, 1) := by decide +kernel
theorem dX6_set_179 : decode cX6_set 179 = .ok (.getfield 10, 3) := by decide +kernel
theorem dX6_set_182 : decode cX6_set 182 = .ok (.iload_n 1, 1) := by decide +kernel
theorem dX6_set_183 : decode cX6_set 183 = .ok (.invokevirtual 213, 3) := by decide +kernel
theorem dX6_set_186 : decode cX6_set 186 = .ok (.goto 5, 3) := by decide +kernel
theorem dX6_set_189 : decode cX6_set 189 = .ok (.bipush (-5), 2) := by decide +kernel
theorem dX6_set_191 : decode cX6_set 191 = .ok (.ireturn, 1) := by decide +kernel
theorem dX6_set_192 : decode cX6_set 192 = .ok (.bipush (-2), 2) := by decide +kernel
theorem dX6_set_194 : decode cX6_set 194 = .ok (.ireturn, 1) := by decide +kernel
theorem dX6_waitsFor_0 : decode cX6_waitsFor 0 = .ok (.aload_n 0, 1) := by decide +kernel
theorem dX6_waitsFor_1 : decode cX6_waitsFor 1 = .ok (.iload_n 1, 1) := by decide +kernel
theorem dX6_waitsFor_2 : decode cX6_waitsFor 2 = .ok (.invokevirtual 123, 3) := by decide +kernel
theorem dX6_waitsFor_5 : decode cX6_waitsFor 5 = .ok (.ifCond .ne 5, 3) := by decide +kernel
theorem dX6_waitsFor_8 : decode cX6_waitsFor 8 = .ok (.iconst (-1), 1) := by decide +kernel
theorem dX6_waitsFor_9 : decode cX6_waitsFor 9 = .ok (.ireturn, 1) := by decide +kernel
theorem dX6_waitsFor_10 : decode cX6_waitsFor 10 = .ok (.aload_n 0, 1) := by decide +kernel
theorem dX6_waitsFor_11 : decode cX6_waitsFor 11 = .ok (.getfield 10, 3) := by decide +kernel
theorem dX6_waitsFor_14 : decode cX6_waitsFor 14 = .ok (.getfield 73, 3) := by decide +kernel
theorem dX6_waitsFor_17 : decode cX6_waitsFor 17 = .ok (.getfield 127, 3) := by decide +kernel
theorem dX6_waitsFor_20 : decode cX6_waitsFor 20 = .ok (.iload_n 1, 1) := by decide +kernel
theorem dX6_waitsFor_21 : decode cX6_waitsFor 21 = .ok (.iaload, 1) := by decide +kernel
theorem dX6_waitsFor_22 : decode cX6_waitsFor 22 = .ok (.tableswitch 79 0 5 #[38, 40, 42, 73, 75, 77], 38) := by decide +kernel
theorem dX6_waitsFor_60 : decode cX6_waitsFor 60 = .ok (.iconst 0, 1) := by decide +kernel
theorem dX6_waitsFor_61 : decode cX6_waitsFor 61 = .ok (.ireturn, 1) := by decide +kernel
theorem dX6_waitsFor_62 : decode cX6_waitsFor 62 = .ok (.iconst 1, 1) := by decide +kernel
theorem dX6_waitsFor_63 : decode cX6_waitsFor 63 = .ok (.ireturn, 1) := by decide +kernel
theorem dX6_waitsFor_64 : decode cX6_waitsFor 64 = .ok (.aload_n 0, 1) := by decide +kernel
theorem dX6_waitsFor_65 : decode cX6_waitsFor 65 = .ok (.getfield 10, 3) := by decide +kernel
theorem dX6_waitsFor_68 : decode cX6_waitsFor 68 = .ok (.getfield 87, 3) := by decide +kernel
theorem dX6_waitsFor_71 : decode cX6_waitsFor 71 = .ok (.aload_n 0, 1) := by decide +kernel
theorem dX6_waitsFor_72 : decode cX6_waitsFor 72 = .ok (.getfield 10, 3) := by decide +kernel
theorem dX6_waitsFor_75 : decode cX6_waitsFor 75 = .ok (.getfield 73, 3) := by decide +kernel
theorem dX6_waitsFor_78 : decode cX6_waitsFor 78 = .ok (.getfield 130, 3) := by decide +kernel
theorem dX6_waitsFor_81 : decode cX6_waitsFor 81 = .ok (.iload_n 1, 1) := by decide +kernel
theorem dX6_waitsFor_82 : decode cX6_waitsFor 82 = .ok (.iaload, 1) := by decide +kernel
theorem dX6_waitsFor_83 : decode cX6_waitsFor 83 = .ok (.invokevirtual 216, 3) := by decide +kernel
theorem dX6_waitsFor_86 : decode cX6_waitsFor 86 = .ok (.ifCond .eq 7, 3) := by decide +kernel
theorem dX6_waitsFor_89 : decode cX6_waitsFor 89 = .ok (.iconst 2, 1) := by decide +kernel
theorem dX6_waitsFor_90 : decode cX6_waitsFor 90 = .ok (.goto 4, 3) := by decide +kernel
theorem dX6_waitsFor_93 : decode cX6_waitsFor 93 = .ok (.iconst 3, 1) := by decide +kernel
theorem dX6_waitsFor_94 : decode cX6_waitsFor 94 = .ok (.ireturn, 1) := by decide +kernel
theorem dX6_waitsFor_95 : decode cX6_waitsFor 95 = .ok (.iconst 4, 1) := by decide +kernel
theorem dX6_waitsFor_96 : decode cX6_waitsFor 96 = .ok (.ireturn, 1) := by decide +kernel
theorem dX6_waitsFor_97 : decode cX6_waitsFor 97 = .ok (.iconst 5, 1) := by decide +kernel
theorem dX6_waitsFor_98 : decode cX6_waitsFor 98 = .ok (.ireturn, 1) := by decide +kernel
theorem dX6_waitsFor_99 : decode cX6_waitsFor 99 = .ok (.iconst 5, 1) := by decide +kernel
theorem dX6_waitsFor_100 : decode cX6_waitsFor 100 = .ok (.ireturn, 1) := by decide +kernel
theorem dX6_waitsFor_101 : decode cX6_waitsFor 101 = .ok (.bipush (-5), 2) := by decide +kernel
theorem dX6_waitsFor_103 : decode cX6_waitsFor 103 = .ok (.ireturn, 1) := by decide +kernel
theorem dX6_lacks_0 : decode cX6_lacks 0 = .ok (.aload_n 0, 1) := by decide +kernel
theorem dX6_lacks_1 : decode cX6_lacks 1 = .ok (.iload_n 1, 1) := by decide +kernel
theorem dX6_lacks_2 : decode cX6_lacks 2 = .ok (.invokevirtual 123, 3) := by decide +kernel
theorem dX6_lacks_5 : decode cX6_lacks 5 = .ok (.ifCond .ne 5, 3) := by decide +kernel
theorem dX6_lacks_8 : decode cX6_lacks 8 = .ok (.iconst (-1), 1) := by decide +kernel
theorem dX6_lacks_9 : decode cX6_lacks 9 = .ok (.ireturn, 1) := by decide +kernel
theorem dX6_lacks_10 : decode cX6_lacks 10 = .ok (.aload_n 0, 1) := by decide +kernel
theorem dX6_lacks_11 : decode cX6_lacks 11 = .ok (.getfield 10, 3) := by decide +kernel
theorem dX6_lacks_14 : decode cX6_lacks 14 = .ok (.getfield 73, 3) := by decide +kernel
theorem dX6_lacks_17 : decode cX6_lacks 17 = .ok (.getfield 127, 3) := by decide +kernel
theorem dX6_lacks_20 : decode cX6_lacks 20 = .ok (.iload_n 1, 1) := by decide +kernel
theorem dX6_lacks_21 : decode cX6_lacks 21 = .ok (.iaload, 1) := by decide +kernel
theorem dX6_lacks_22 : decode cX6_lacks 22 = .ok (.iconst 2, 1) := by decide +kernel
theorem dX6_lacks_23 : decode cX6_lacks 23 = .ok (.if_icmp .eq 6, 3) := by decide +kernel
theorem dX6_lacks_26 : decode cX6_lacks 26 = .ok (.bipush (-5), 2) := by decide +kernel
theorem dX6_lacks_28 : decode cX6_lacks 28 = .ok (.ireturn, 1) := by decide +kernel
theorem dX6_lacks_29 : decode cX6_lacks 29 = .ok (.aload_n 0, 1) := by decide +kernel
theorem dX6_lacks_30 : decode cX6_lacks 30 = .ok (.getfield 10, 3) := by decide +kernel
theorem dX6_lacks_33 : decode cX6_lacks 33 = .ok (.getfield 87, 3) := by decide +kernel
theorem dX6_lacks_36 : decode cX6_lacks 36 = .ok (.aload_n 0, 1) := by decide +kernel
theorem dX6_lacks_37 : decode cX6_lacks 37 = .ok (.getfield 10, 3) := by decide +kernel
theorem dX6_lacks_40 : decode cX6_lacks 40 = .ok (.getfield 73, 3) := by decide +kernel
theorem dX6_lacks_43 : decode cX6_lacks 43 = .ok (.getfield 130, 3) := by decide +kernel
theorem dX6_lacks_46 : decode cX6_lacks 46 = .ok (.iload_n 1, 1) := by decide +kernel
theorem dX6_lacks_47 : decode cX6_lacks 47 = .ok (.iaload, 1) := by decide +kernel
theorem dX6_lacks_48 : decode cX6_lacks 48 = .ok (.invokevirtual 219, 3) := by decide +kernel
theorem dX6_lacks_51 : decode cX6_lacks 51 = .ok (.ireturn, 1) := by decide +kernel
theorem dX6_doneIn_0 : decode cX6_doneIn 0 = .ok (.aload_n 0, 1) := by decide +kernel
theorem dX6_doneIn_1 : decode cX6_doneIn 1 = .ok (.iload_n 1, 1) := by decide +kernel
theorem dX6_doneIn_2 : decode cX6_doneIn 2 = .ok (.invokevirtual 123, 3) := by decide +kernel
theorem dX6_doneIn_5 : decode cX6_doneIn 5 = .ok (.ifCond .ne 5, 3) := by decide +kernel
theorem dX6_doneIn_8 : decode cX6_doneIn 8 = .ok (.iconst (-1), 1) := by decide +kernel
theorem dX6_doneIn_9 : decode cX6_doneIn 9 = .ok (.ireturn, 1) := by decide +kernel
theorem dX6_doneIn_10 : decode cX6_doneIn 10 = .ok (.aload_n 0, 1) := by decide +kernel
theorem dX6_doneIn_11 : decode cX6_doneIn 11 = .ok (.getfield 10, 3) := by decide +kernel
theorem dX6_doneIn_14 : decode cX6_doneIn 14 = .ok (.getfield 73, 3) := by decide +kernel
theorem dX6_doneIn_17 : decode cX6_doneIn 17 = .ok (.getfield 127, 3) := by decide +kernel
theorem dX6_doneIn_20 : decode cX6_doneIn 20 = .ok (.iload_n 1, 1) := by decide +kernel
theorem dX6_doneIn_21 : decode cX6_doneIn 21 = .ok (.iaload, 1) := by decide +kernel
theorem dX6_doneIn_22 : decode cX6_doneIn 22 = .ok (.istore_n 2, 1) := by decide +kernel
theorem dX6_doneIn_23 : decode cX6_doneIn 23 = .ok (.iload_n 2, 1) := by decide +kernel
theorem dX6_doneIn_24 : decode cX6_doneIn 24 = .ok (.iconst 2, 1) := by decide +kernel
theorem dX6_doneIn_25 : decode cX6_doneIn 25 = .ok (.if_icmp .eq 11, 3) := by decide +kernel
theorem dX6_doneIn_28 : decode cX6_doneIn 28 = .ok (.iload_n 2, 1) := by decide +kernel
theorem dX6_doneIn_29 : decode cX6_doneIn 29 = .ok (.iconst 3, 1) := by decide +kernel
theorem dX6_doneIn_30 : decode cX6_doneIn 30 = .ok (.if_icmp .eq 6, 3) := by decide +kernel
theorem dX6_doneIn_33 : decode cX6_doneIn 33 = .ok (.bipush (-5), 2) := by decide +kernel
theorem dX6_doneIn_35 : decode cX6_doneIn 35 = .ok (.ireturn, 1) := by decide +kernel
theorem dX6_doneIn_36 : decode cX6_doneIn 36 = .ok (.aload_n 0, 1) := by decide +kernel
theorem dX6_doneIn_37 : decode cX6_doneIn 37 = .ok (.getfield 16, 3) := by decide +kernel
theorem dX6_doneIn_40 : decode cX6_doneIn 40 = .ok (.aload_n 0, 1) := by decide +kernel
theorem dX6_doneIn_41 : decode cX6_doneIn 41 = .ok (.getfield 10, 3) := by decide +kernel
theorem dX6_doneIn_44 : decode cX6_doneIn 44 = .ok (.invokevirtual 146, 3) := by decide +kernel
theorem dX6_doneIn_47 : decode cX6_doneIn 47 = .ok (.iconst 1, 1) := by decide +kernel
theorem dX6_doneIn_48 : decode cX6_doneIn 48 = .ok (.istore_n 3, 1) := by decide +kernel
theorem dX6_doneIn_49 : decode cX6_doneIn 49 = .ok (.iload_n 3, 1) := by decide +kernel
theorem dX6_doneIn_50 : decode cX6_doneIn 50 = .ok (.sipush 200, 3) := by decide +kernel
theorem dX6_doneIn_53 : decode cX6_doneIn 53 = .ok (.if_icmp .gt 66, 3) := by decide +kernel
theorem dX6_doneIn_56 : decode cX6_doneIn 56 = .ok (.aload_n 0, 1) := by decide +kernel
theorem dX6_doneIn_57 : decode cX6_doneIn 57 = .ok (.getfield 16, 3) := by decide +kernel
theorem dX6_doneIn_60 : decode cX6_doneIn 60 = .ok (.getfield 73, 3) := by decide +kernel
theorem dX6_doneIn_63 : decode cX6_doneIn 63 = .ok (.getfield 127, 3) := by decide +kernel
theorem dX6_doneIn_66 : decode cX6_doneIn 66 = .ok (.iload_n 1, 1) := by decide +kernel
theorem dX6_doneIn_67 : decode cX6_doneIn 67 = .ok (.iaload, 1) := by decide +kernel
theorem dX6_doneIn_68 : decode cX6_doneIn 68 = .ok (.iconst 2, 1) := by decide +kernel
theorem dX6_doneIn_69 : decode cX6_doneIn 69 = .ok (.if_icmp .ne 19, 3) := by decide +kernel
theorem dX6_doneIn_72 : decode cX6_doneIn 72 = .ok (.aload_n 0, 1) := by decide +kernel
theorem dX6_doneIn_73 : decode cX6_doneIn 73 = .ok (.getfield 16, 3) := by decide +kernel
theorem dX6_doneIn_76 : decode cX6_doneIn 76 = .ok (.getfield 87, 3) := by decide +kernel
theorem dX6_doneIn_79 : decode cX6_doneIn 79 = .ok (.getfield 99, 3) := by decide +kernel
theorem dX6_doneIn_82 : decode cX6_doneIn 82 = .ok (.ifCond .ne 6, 3) := by decide +kernel
theorem dX6_doneIn_85 : decode cX6_doneIn 85 = .ok (.bipush (-5), 2) := by decide +kernel
theorem dX6_doneIn_87 : decode cX6_doneIn 87 = .ok (.ireturn, 1) := by decide +kernel
theorem dX6_doneIn_88 : decode cX6_doneIn 88 = .ok (.aload_n 0, 1) := by decide +kernel
theorem dX6_doneIn_89 : decode cX6_doneIn 89 = .ok (.getfield 16, 3) := by decide +kernel
theorem dX6_doneIn_92 : decode cX6_doneIn 92 = .ok (.invokevirtual 177, 3) := by decide +kernel
theorem dX6_doneIn_95 : decode cX6_doneIn 95 = .ok (.aload_n 0, 1) := by decide +kernel
theorem dX6_doneIn_96 : decode cX6_doneIn 96 = .ok (.getfield 16, 3) := by decide +kernel
theorem dX6_doneIn_99 : decode cX6_doneIn 99 = .ok (.getfield 73, 3) := by decide +kernel
theorem dX6_doneIn_102 : decode cX6_doneIn 102 = .ok (.getfield 127, 3) := by decide +kernel
theorem dX6_doneIn_105 : decode cX6_doneIn 105 = .ok (.iload_n 1, 1) := by decide +kernel
theorem dX6_doneIn_106 : decode cX6_doneIn 106 = .ok (.iaload, 1) := by decide +kernel
theorem dX6_doneIn_107 : decode cX6_doneIn 107 = .ok (.iconst 4, 1) := by decide +kernel
theorem dX6_doneIn_108 : decode cX6_doneIn 108 = .ok (.if_icmp .ne 5, 3) := by decide +kernel
theorem dX6_doneIn_111 : decode cX6_doneIn 111 = .ok (.iload_n 3, 1) := by decide +kernel
theorem dX6_doneIn_112 : decode cX6_doneIn 112 = .ok (.ireturn, 1) := by decide +kernel
theorem dX6_doneIn_113 : decode cX6_doneIn 113 = .ok (.iinc 3 1, 3) := by decide +kernel
theorem dX6_doneIn_116 : decode cX6_doneIn 116 = .ok (.goto (-67), 3) := by decide +kernel
theorem dX6_doneIn_119 : decode cX6_doneIn 119 = .ok (.bipush (-5), 2) := by decide +kernel
theorem dX6_doneIn_121 : decode cX6_doneIn 121 = .ok (.ireturn, 1) := by decide +kernel
theorem dX6_meanDays_0 : decode cX6_meanDays 0 = .ok (.aload_n 0, 1) := by decide +kernel
theorem dX6_meanDays_1 : decode cX6_meanDays 1 = .ok (.getfield 10, 3) := by decide +kernel
theorem dX6_meanDays_4 : decode cX6_meanDays 4 = .ok (.getfield 168, 3) := by decide +kernel
theorem dX6_meanDays_7 : decode cX6_meanDays 7 = .ok (.getfield 172, 3) := by decide +kernel
theorem dX6_meanDays_10 : decode cX6_meanDays 10 = .ok (.istore_n 1, 1) := by decide +kernel
theorem dX6_meanDays_11 : decode cX6_meanDays 11 = .ok (.iload_n 1, 1) := by decide +kernel
theorem dX6_meanDays_12 : decode cX6_meanDays 12 = .ok (.ifCond .gt 6, 3) := by decide +kernel
theorem dX6_meanDays_15 : decode cX6_meanDays 15 = .ok (.ldc 191, 2) := by decide +kernel
theorem dX6_meanDays_17 : decode cX6_meanDays 17 = .ok (.freturn, 1) := by decide +kernel
theorem dX6_meanDays_18 : decode cX6_meanDays 18 = .ok (.aload_n 0, 1) := by decide +kernel
theorem dX6_meanDays_19 : decode cX6_meanDays 19 = .ok (.getfield 10, 3) := by decide +kernel
theorem dX6_meanDays_22 : decode cX6_meanDays 22 = .ok (.getfield 168, 3) := by decide +kernel
theorem dX6_meanDays_25 : decode cX6_meanDays 25 = .ok (.getfield 222, 3) := by decide +kernel
theorem dX6_meanDays_28 : decode cX6_meanDays 28 = .ok (.i2f, 1) := by decide +kernel
theorem dX6_meanDays_29 : decode cX6_meanDays 29 = .ok (.iload_n 1, 1) := by decide +kernel
theorem dX6_meanDays_30 : decode cX6_meanDays 30 = .ok (.i2f, 1) := by decide +kernel
theorem dX6_meanDays_31 : decode cX6_meanDays 31 = .ok (.fdiv, 1) := by decide +kernel
theorem dX6_meanDays_32 : decode cX6_meanDays 32 = .ok (.freturn, 1) := by decide +kernel
theorem dX6_count_0 : decode cX6_count 0 = .ok (.iload_n 1, 1) := by decide +kernel
theorem dX6_count_1 : decode cX6_count 1 = .ok (.iconst 2, 1) := by decide +kernel
theorem dX6_count_2 : decode cX6_count 2 = .ok (.bipush 9, 2) := by decide +kernel
theorem dX6_count_4 : decode cX6_count 4 = .ok (.invokestatic 51, 3) := by decide +kernel
theorem dX6_count_7 : decode cX6_count 7 = .ok (.ifCond .eq 17, 3) := by decide +kernel
theorem dX6_count_10 : decode cX6_count 10 = .ok (.aload_n 0, 1) := by decide +kernel
theorem dX6_count_11 : decode cX6_count 11 = .ok (.getfield 10, 3) := by decide +kernel
theorem dX6_count_14 : decode cX6_count 14 = .ok (.getfield 73, 3) := by decide +kernel
theorem dX6_count_17 : decode cX6_count 17 = .ok (.iload_n 1, 1) := by decide +kernel
theorem dX6_count_18 : decode cX6_count 18 = .ok (.iconst 2, 1) := by decide +kernel
theorem dX6_count_19 : decode cX6_count 19 = .ok (.isub, 1) := by decide +kernel
theorem dX6_count_20 : decode cX6_count 20 = .ok (.invokevirtual 153, 3) := by decide +kernel
theorem dX6_count_23 : decode cX6_count 23 = .ok (.ireturn, 1) := by decide +kernel
theorem dX6_count_24 : decode cX6_count 24 = .ok (.iload_n 1, 1) := by decide +kernel
theorem dX6_count_25 : decode cX6_count 25 = .ok (.tableswitch 185 0 17 #[87, 95, 185, 185, 185, 185, 185, 185, 185, 185, 106, 117, 125, 136, 147, 158, 169, 177], 87) := by decide +kernel
theorem dX6_count_112 : decode cX6_count 112 = .ok (.aload_n 0, 1) := by decide +kernel
theorem dX6_count_113 : decode cX6_count 113 = .ok (.getfield 10, 3) := by decide +kernel
theorem dX6_count_116 : decode cX6_count 116 = .ok (.getfield 103, 3) := by decide +kernel
theorem dX6_count_119 : decode cX6_count 119 = .ok (.ireturn, 1) := by decide +kernel
theorem dX6_count_120 : decode cX6_count 120 = .ok (.aload_n 0, 1) := by decide +kernel
theorem dX6_count_121 : decode cX6_count 121 = .ok (.getfield 10, 3) := by decide +kernel
theorem dX6_count_124 : decode cX6_count 124 = .ok (.getfield 73, 3) := by decide +kernel
theorem dX6_count_127 : decode cX6_count 127 = .ok (.getfield 116, 3) := by decide +kernel
theorem dX6_count_130 : decode cX6_count 130 = .ok (.ireturn, 1) := by decide +kernel
theorem dX6_count_131 : decode cX6_count 131 = .ok (.aload_n 0, 1) := by decide +kernel
theorem dX6_count_132 : decode cX6_count 132 = .ok (.getfield 10, 3) := by decide +kernel
theorem dX6_count_135 : decode cX6_count 135 = .ok (.getfield 87, 3) := by decide +kernel
theorem dX6_count_138 : decode cX6_count 138 = .ok (.getfield 99, 3) := by decide +kernel
theorem dX6_count_141 : decode cX6_count 141 = .ok (.ireturn, 1) := by decide +kernel
theorem dX6_count_142 : decode cX6_count 142 = .ok (.aload_n 0, 1) := by decide +kernel
theorem dX6_count_143 : decode cX6_count 143 = .ok (.getfield 10, 3) := by decide +kernel
theorem dX6_count_146 : decode cX6_count 146 = .ok (.invokevirtual 159, 3) := by decide +kernel
theorem dX6_count_149 : decode cX6_count 149 = .ok (.ireturn, 1) := by decide +kernel
theorem dX6_count_150 : decode cX6_count 150 = .ok (.aload_n 0, 1) := by decide +kernel
theorem dX6_count_151 : decode cX6_count 151 = .ok (.getfield 10, 3) := by decide +kernel
theorem dX6_count_154 : decode cX6_count 154 = .ok (.getfield 168, 3) := by decide +kernel
theorem dX6_count_157 : decode cX6_count 157 = .ok (.getfield 225, 3) := by decide +kernel
theorem dX6_count_160 : decode cX6_count 160 = .ok (.ireturn, 1) := by decide +kernel
theorem dX6_count_161 : decode cX6_count 161 = .ok (.aload_n 0, 1) := by decide +kernel
theorem dX6_count_162 : decode cX6_count 162 = .ok (.getfield 10, 3) := by decide +kernel
theorem dX6_count_165 : decode cX6_count 165 = .ok (.getfield 168, 3) := by decide +kernel
theorem dX6_count_168 : decode cX6_count 168 = .ok (.getfield 228, 3) := by decide +kernel
theorem dX6_count_171 : decode cX6_count 171 = .ok (.ireturn, 1) := by decide +kernel
theorem dX6_count_172 : decode cX6_count 172 = .ok (.aload_n 0, 1) := by decide +kernel
theorem dX6_count_173 : decode cX6_count 173 = .ok (.getfield 10, 3) := by decide +kernel
theorem dX6_count_176 : decode cX6_count 176 = .ok (.getfield 168, 3) := by decide +kernel
theorem dX6_count_179 : decode cX6_count 179 = .ok (.getfield 231, 3) := by decide +kernel
theorem dX6_count_182 : decode cX6_count 182 = .ok (.ireturn, 1) := by decide +kernel
theorem dX6_count_183 : decode cX6_count 183 = .ok (.aload_n 0, 1) := by decide +kernel
theorem dX6_count_184 : decode cX6_count 184 = .ok (.getfield 10, 3) := by decide +kernel
theorem dX6_count_187 : decode cX6_count 187 = .ok (.getfield 168, 3) := by decide +kernel
theorem dX6_count_190 : decode cX6_count 190 = .ok (.getfield 234, 3) := by decide +kernel
theorem dX6_count_193 : decode cX6_count 193 = .ok (.ireturn, 1) := by decide +kernel
theorem dX6_count_194 : decode cX6_count 194 = .ok (.aload_n 0, 1) := by decide +kernel
theorem dX6_count_195 : decode cX6_count 195 = .ok (.getfield 29, 3) := by decide +kernel
theorem dX6_count_198 : decode cX6_count 198 = .ok (.getfield 187, 3) := by decide +kernel
theorem dX6_count_201 : decode cX6_count 201 = .ok (.ireturn, 1) := by decide +kernel
theorem dX6_count_202 : decode cX6_count 202 = .ok (.aload_n 0, 1) := by decide +kernel
theorem dX6_count_203 : decode cX6_count 203 = .ok (.getfield 36, 3) := by decide +kernel
theorem dX6_count_206 : decode cX6_count 206 = .ok (.getfield 180, 3) := by decide +kernel
theorem dX6_count_209 : decode cX6_count 209 = .ok (.ireturn, 1) := by decide +kernel
theorem dX6_count_210 : decode cX6_count 210 = .ok (.bipush (-2), 2) := by decide +kernel
theorem dX6_count_212 : decode cX6_count 212 = .ok (.ireturn, 1) := by decide +kernel
theorem dX6_isIndex_0 : decode cX6_isIndex 0 = .ok (.iload_n 0, 1) := by decide +kernel
theorem dX6_isIndex_1 : decode cX6_isIndex 1 = .ok (.ifCond .lt 12, 3) := by decide +kernel
theorem dX6_isIndex_4 : decode cX6_isIndex 4 = .ok (.iload_n 0, 1) := by decide +kernel
theorem dX6_isIndex_5 : decode cX6_isIndex 5 = .ok (.iload_n 1, 1) := by decide +kernel
theorem dX6_isIndex_6 : decode cX6_isIndex 6 = .ok (.if_icmp .ge 7, 3) := by decide +kernel
theorem dX6_isIndex_9 : decode cX6_isIndex 9 = .ok (.iconst 1, 1) := by decide +kernel
theorem dX6_isIndex_10 : decode cX6_isIndex 10 = .ok (.goto 4, 3) := by decide +kernel
theorem dX6_isIndex_13 : decode cX6_isIndex 13 = .ok (.iconst 0, 1) := by decide +kernel
theorem dX6_isIndex_14 : decode cX6_isIndex 14 = .ok (.ireturn, 1) := by decide +kernel
theorem dX6_isWithin_0 : decode cX6_isWithin 0 = .ok (.iload_n 0, 1) := by decide +kernel
theorem dX6_isWithin_1 : decode cX6_isWithin 1 = .ok (.iload_n 1, 1) := by decide +kernel
theorem dX6_isWithin_2 : decode cX6_isWithin 2 = .ok (.if_icmp .lt 12, 3) := by decide +kernel
theorem dX6_isWithin_5 : decode cX6_isWithin 5 = .ok (.iload_n 0, 1) := by decide +kernel
theorem dX6_isWithin_6 : decode cX6_isWithin 6 = .ok (.iload_n 2, 1) := by decide +kernel
theorem dX6_isWithin_7 : decode cX6_isWithin 7 = .ok (.if_icmp .gt 7, 3) := by decide +kernel
theorem dX6_isWithin_10 : decode cX6_isWithin 10 = .ok (.iconst 1, 1) := by decide +kernel
theorem dX6_isWithin_11 : decode cX6_isWithin 11 = .ok (.goto 4, 3) := by decide +kernel
theorem dX6_isWithin_14 : decode cX6_isWithin 14 = .ok (.iconst 0, 1) := by decide +kernel
theorem dX6_isWithin_15 : decode cX6_isWithin 15 = .ok (.ireturn, 1) := by decide +kernel
theorem dX6_isSet_0 : decode cX6_isSet 0 = .ok (.iload_n 1, 1) := by decide +kernel
theorem dX6_isSet_1 : decode cX6_isSet 1 = .ok (.aload_n 0, 1) := by decide +kernel
theorem dX6_isSet_2 : decode cX6_isSet 2 = .ok (.getfield 10, 3) := by decide +kernel
theorem dX6_isSet_5 : decode cX6_isSet 5 = .ok (.getfield 73, 3) := by decide +kernel
theorem dX6_isSet_8 : decode cX6_isSet 8 = .ok (.getfield 116, 3) := by decide +kernel
theorem dX6_isSet_11 : decode cX6_isSet 11 = .ok (.invokestatic 40, 3) := by decide +kernel
theorem dX6_isSet_14 : decode cX6_isSet 14 = .ok (.ireturn, 1) := by decide +kernel
theorem dX6_floatOf_0 : decode cX6_floatOf 0 = .ok (.iload_n 0, 1) := by decide +kernel
theorem dX6_floatOf_1 : decode cX6_floatOf 1 = .ok (.bipush 23, 2) := by decide +kernel
theorem dX6_floatOf_3 : decode cX6_floatOf 3 = .ok (.iushr, 1) := by decide +kernel
theorem dX6_floatOf_4 : decode cX6_floatOf 4 = .ok (.istore_n 1, 1) := by decide +kernel
theorem dX6_floatOf_5 : decode cX6_floatOf 5 = .ok (.iload_n 0, 1) := by decide +kernel
theorem dX6_floatOf_6 : decode cX6_floatOf 6 = .ok (.ldc 237, 2) := by decide +kernel
theorem dX6_floatOf_8 : decode cX6_floatOf 8 = .ok (.iand, 1) := by decide +kernel
theorem dX6_floatOf_9 : decode cX6_floatOf 9 = .ok (.istore_n 2, 1) := by decide +kernel
theorem dX6_floatOf_10 : decode cX6_floatOf 10 = .ok (.iload_n 1, 1) := by decide +kernel
theorem dX6_floatOf_11 : decode cX6_floatOf 11 = .ok (.ifCond .ne 8, 3) := by decide +kernel
theorem dX6_floatOf_14 : decode cX6_floatOf 14 = .ok (.iconst 1, 1) := by decide +kernel
theorem dX6_floatOf_15 : decode cX6_floatOf 15 = .ok (.istore_n 1, 1) := by decide +kernel
theorem dX6_floatOf_16 : decode cX6_floatOf 16 = .ok (.goto 8, 3) := by decide +kernel
theorem dX6_floatOf_19 : decode cX6_floatOf 19 = .ok (.iload_n 2, 1) := by decide +kernel
theorem dX6_floatOf_20 : decode cX6_floatOf 20 = .ok (.ldc 238, 2) := by decide +kernel
theorem dX6_floatOf_22 : decode cX6_floatOf 22 = .ok (.ior, 1) := by decide +kernel
theorem dX6_floatOf_23 : decode cX6_floatOf 23 = .ok (.istore_n 2, 1) := by decide +kernel
theorem dX6_floatOf_24 : decode cX6_floatOf 24 = .ok (.iload_n 2, 1) := by decide +kernel
theorem dX6_floatOf_25 : decode cX6_floatOf 25 = .ok (.i2f, 1) := by decide +kernel
theorem dX6_floatOf_26 : decode cX6_floatOf 26 = .ok (.fstore_n 3, 1) := by decide +kernel
theorem dX6_floatOf_27 : decode cX6_floatOf 27 = .ok (.iload_n 1, 1) := by decide +kernel
theorem dX6_floatOf_28 : decode cX6_floatOf 28 = .ok (.istore 4, 2) := by decide +kernel
theorem dX6_floatOf_30 : decode cX6_floatOf 30 = .ok (.iload 4, 2) := by decide +kernel
theorem dX6_floatOf_32 : decode cX6_floatOf 32 = .ok (.sipush 150, 3) := by decide +kernel
theorem dX6_floatOf_35 : decode cX6_floatOf 35 = .ok (.if_icmp .ge 13, 3) := by decide +kernel
theorem dX6_floatOf_38 : decode cX6_floatOf 38 = .ok (.fload_n 3, 1) := by decide +kernel
theorem dX6_floatOf_39 : decode cX6_floatOf 39 = .ok (.fconst 2, 1) := by decide +kernel
theorem dX6_floatOf_40 : decode cX6_floatOf 40 = .ok (.fdiv, 1) := by decide +kernel
theorem dX6_floatOf_41 : decode cX6_floatOf 41 = .ok (.fstore_n 3, 1) := by decide +kernel
theorem dX6_floatOf_42 : decode cX6_floatOf 42 = .ok (.iinc 4 1, 3) := by decide +kernel
theorem dX6_floatOf_45 : decode cX6_floatOf 45 = .ok (.goto (-15), 3) := by decide +kernel
theorem dX6_floatOf_48 : decode cX6_floatOf 48 = .ok (.fload_n 3, 1) := by decide +kernel
theorem dX6_floatOf_49 : decode cX6_floatOf 49 = .ok (.freturn, 1) := by decide +kernel
theorem dJ9_max_7cf53_0 : decode cJ9_max_7cf53 0 = .ok (.iload_n 0, 1) := by decide +kernel
theorem dJ9_max_7cf53_1 : decode cJ9_max_7cf53 1 = .ok (.iload_n 1, 1) := by decide +kernel
theorem dJ9_max_7cf53_2 : decode cJ9_max_7cf53 2 = .ok (.if_icmp .lt 7, 3) := by decide +kernel
theorem dJ9_max_7cf53_5 : decode cJ9_max_7cf53 5 = .ok (.iload_n 0, 1) := by decide +kernel
theorem dJ9_max_7cf53_6 : decode cJ9_max_7cf53 6 = .ok (.goto 4, 3) := by decide +kernel
theorem dJ9_max_7cf53_9 : decode cJ9_max_7cf53 9 = .ok (.iload_n 1, 1) := by decide +kernel
theorem dJ9_max_7cf53_10 : decode cJ9_max_7cf53 10 = .ok (.ireturn, 1) := by decide +kernel
theorem dJ9_min_7cf53_0 : decode cJ9_min_7cf53 0 = .ok (.iload_n 0, 1) := by decide +kernel
theorem dJ9_min_7cf53_1 : decode cJ9_min_7cf53 1 = .ok (.iload_n 1, 1) := by decide +kernel
theorem dJ9_min_7cf53_2 : decode cJ9_min_7cf53 2 = .ok (.if_icmp .gt 7, 3) := by decide +kernel
theorem dJ9_min_7cf53_5 : decode cJ9_min_7cf53 5 = .ok (.iload_n 0, 1) := by decide +kernel
theorem dJ9_min_7cf53_6 : decode cJ9_min_7cf53 6 = .ok (.goto 4, 3) := by decide +kernel
theorem dJ9_min_7cf53_9 : decode cJ9_min_7cf53 9 = .ok (.iload_n 1, 1) := by decide +kernel
theorem dJ9_min_7cf53_10 : decode cJ9_min_7cf53 10 = .ok (.ireturn, 1) := by decide +kernel
theorem dL_low_0 : decode cL_low 0 = .ok (.iload_n 0, 1) := by decide +kernel
theorem dL_low_1 : decode cL_low 1 = .ok (.ldc 7, 2) := by decide +kernel
theorem dL_low_3 : decode cL_low 3 = .ok (.iand, 1) := by decide +kernel
theorem dL_low_4 : decode cL_low 4 = .ok (.iload_n 1, 1) := by decide +kernel
theorem dL_low_5 : decode cL_low 5 = .ok (.irem, 1) := by decide +kernel
theorem dL_low_6 : decode cL_low 6 = .ok (.ireturn, 1) := by decide +kernel
theorem dL_cell_0 : decode cL_cell 0 = .ok (.iload_n 1, 1) := by decide +kernel
theorem dL_cell_1 : decode cL_cell 1 = .ok (.aload_n 0, 1) := by decide +kernel
theorem dL_cell_2 : decode cL_cell 2 = .ok (.arraylength, 1) := by decide +kernel
theorem dL_cell_3 : decode cL_cell 3 = .ok (.if_icmp .ge 9, 3) := by decide +kernel
theorem dL_cell_6 : decode cL_cell 6 = .ok (.aload_n 0, 1) := by decide +kernel
theorem dL_cell_7 : decode cL_cell 7 = .ok (.iload_n 1, 1) := by decide +kernel
theorem dL_cell_8 : decode cL_cell 8 = .ok (.iaload, 1) := by decide +kernel
theorem dL_cell_9 : decode cL_cell 9 = .ok (.goto 11, 3) := by decide +kernel
theorem dL_cell_12 : decode cL_cell 12 = .ok (.ldc 8, 2) := by decide +kernel
theorem dL_cell_14 : decode cL_cell 14 = .ok (.iload_n 1, 1) := by decide +kernel
theorem dL_cell_15 : decode cL_cell 15 = .ok (.imul, 1) := by decide +kernel
theorem dL_cell_16 : decode cL_cell 16 = .ok (.sipush 977, 3) := by decide +kernel
theorem dL_cell_19 : decode cL_cell 19 = .ok (.iadd, 1) := by decide +kernel
theorem dL_cell_20 : decode cL_cell 20 = .ok (.ireturn, 1) := by decide +kernel
theorem dL_need_0 : decode cL_need 0 = .ok (.iload_n 0, 1) := by decide +kernel
theorem dL_need_1 : decode cL_need 1 = .ok (.ifCond .ne 7, 3) := by decide +kernel
theorem dL_need_4 : decode cL_need 4 = .ok (.iload_n 1, 1) := by decide +kernel
theorem dL_need_5 : decode cL_need 5 = .ok (.ifCond .eq 38, 3) := by decide +kernel
theorem dL_need_8 : decode cL_need 8 = .ok (.iload_n 0, 1) := by decide +kernel
theorem dL_need_9 : decode cL_need 9 = .ok (.iconst 1, 1) := by decide +kernel
theorem dL_need_10 : decode cL_need 10 = .ok (.if_icmp .ne 8, 3) := by decide +kernel
theorem dL_need_13 : decode cL_need 13 = .ok (.iload_n 1, 1) := by decide +kernel
theorem dL_need_14 : decode cL_need 14 = .ok (.iconst 1, 1) := by decide +kernel
theorem dL_need_15 : decode cL_need 15 = .ok (.if_icmp .eq 28, 3) := by decide +kernel
theorem dL_need_18 : decode cL_need 18 = .ok (.iload_n 0, 1) := by decide +kernel
theorem dL_need_19 : decode cL_need 19 = .ok (.iconst 3, 1) := by decide +kernel
theorem dL_need_20 : decode cL_need 20 = .ok (.if_icmp .ne 13, 3) := by decide +kernel
theorem dL_need_23 : decode cL_need 23 = .ok (.iload_n 1, 1) := by decide +kernel
theorem dL_need_24 : decode cL_need 24 = .ok (.iconst 3, 1) := by decide +kernel
theorem dL_need_25 : decode cL_need 25 = .ok (.if_icmp .eq 18, 3) := by decide +kernel
theorem dL_need_28 : decode cL_need 28 = .ok (.iload_n 1, 1) := by decide +kernel
theorem dL_need_29 : decode cL_need 29 = .ok (.iconst 4, 1) := by decide +kernel
theorem dL_need_30 : decode cL_need 30 = .ok (.if_icmp .eq 13, 3) := by decide +kernel
theorem dL_need_33 : decode cL_need 33 = .ok (.iload_n 0, 1) := by decide +kernel
theorem dL_need_34 : decode cL_need 34 = .ok (.iconst 4, 1) := by decide +kernel
theorem dL_need_35 : decode cL_need 35 = .ok (.if_icmp .ne 12, 3) := by decide +kernel
theorem dL_need_38 : decode cL_need 38 = .ok (.iload_n 1, 1) := by decide +kernel
theorem dL_need_39 : decode cL_need 39 = .ok (.iconst 5, 1) := by decide +kernel
theorem dL_need_40 : decode cL_need 40 = .ok (.if_icmp .ne 7, 3) := by decide +kernel
theorem dL_need_43 : decode cL_need 43 = .ok (.iconst 1, 1) := by decide +kernel
theorem dL_need_44 : decode cL_need 44 = .ok (.goto 18, 3) := by decide +kernel
theorem dL_need_47 : decode cL_need 47 = .ok (.iload_n 0, 1) := by decide +kernel
theorem dL_need_48 : decode cL_need 48 = .ok (.iconst 2, 1) := by decide +kernel
theorem dL_need_49 : decode cL_need 49 = .ok (.if_icmp .ne 12, 3) := by decide +kernel
theorem dL_need_52 : decode cL_need 52 = .ok (.iload_n 1, 1) := by decide +kernel
theorem dL_need_53 : decode cL_need 53 = .ok (.iconst 2, 1) := by decide +kernel
theorem dL_need_54 : decode cL_need 54 = .ok (.if_icmp .ne 7, 3) := by decide +kernel
theorem dL_need_57 : decode cL_need 57 = .ok (.iconst 2, 1) := by decide +kernel
theorem dL_need_58 : decode cL_need 58 = .ok (.goto 4, 3) := by decide +kernel
theorem dL_need_61 : decode cL_need 61 = .ok (.iconst 0, 1) := by decide +kernel
theorem dL_need_62 : decode cL_need 62 = .ok (.ireturn, 1) := by decide +kernel
theorem dL_hours_0 : decode cL_hours 0 = .ok (.iload_n 0, 1) := by decide +kernel
theorem dL_hours_1 : decode cL_hours 1 = .ok (.ifCond .ne 7, 3) := by decide +kernel
theorem dL_hours_4 : decode cL_hours 4 = .ok (.iconst 2, 1) := by decide +kernel
theorem dL_hours_5 : decode cL_hours 5 = .ok (.goto 31, 3) := by decide +kernel
theorem dL_hours_8 : decode cL_hours 8 = .ok (.iload_n 0, 1) := by decide +kernel
theorem dL_hours_9 : decode cL_hours 9 = .ok (.iconst 1, 1) := by decide +kernel
theorem dL_hours_10 : decode cL_hours 10 = .ok (.if_icmp .ne 7, 3) := by decide +kernel
theorem dL_hours_13 : decode cL_hours 13 = .ok (.iconst 3, 1) := by decide +kernel
theorem dL_hours_14 : decode cL_hours 14 = .ok (.goto 22, 3) := by decide +kernel
theorem dL_hours_17 : decode cL_hours 17 = .ok (.iload_n 0, 1) := by decide +kernel
theorem dL_hours_18 : decode cL_hours 18 = .ok (.iconst 2, 1) := by decide +kernel
theorem dL_hours_19 : decode cL_hours 19 = .ok (.if_icmp .ne 7, 3) := by decide +kernel
theorem dL_hours_22 : decode cL_hours 22 = .ok (.iconst 1, 1) := by decide +kernel
theorem dL_hours_23 : decode cL_hours 23 = .ok (.goto 13, 3) := by decide +kernel
theorem dL_hours_26 : decode cL_hours 26 = .ok (.iload_n 0, 1) := by decide +kernel
theorem dL_hours_27 : decode cL_hours 27 = .ok (.iconst 3, 1) := by decide +kernel
theorem dL_hours_28 : decode cL_hours 28 = .ok (.if_icmp .ne 7, 3) := by decide +kernel
theorem dL_hours_31 : decode cL_hours 31 = .ok (.iconst 5, 1) := by decide +kernel
theorem dL_hours_32 : decode cL_hours 32 = .ok (.goto 4, 3) := by decide +kernel
theorem dL_hours_35 : decode cL_hours 35 = .ok (.iconst 4, 1) := by decide +kernel
theorem dL_hours_36 : decode cL_hours 36 = .ok (.ireturn, 1) := by decide +kernel
theorem dL_prices_0 : decode cL_prices 0 = .ok (.iconst 0, 1) := by decide +kernel
theorem dL_prices_1 : decode cL_prices 1 = .ok (.istore_n 2, 1) := by decide +kernel
theorem dL_prices_2 : decode cL_prices 2 = .ok (.iconst 0, 1) := by decide +kernel
theorem dL_prices_3 : decode cL_prices 3 = .ok (.istore_n 3, 1) := by decide +kernel
theorem dL_prices_4 : decode cL_prices 4 = .ok (.iload_n 3, 1) := by decide +kernel
theorem dL_prices_5 : decode cL_prices 5 = .ok (.bipush 6, 2) := by decide +kernel
theorem dL_prices_7 : decode cL_prices 7 = .ok (.if_icmp .ge 24, 3) := by decide +kernel
theorem dL_prices_10 : decode cL_prices 10 = .ok (.iload_n 2, 1) := by decide +kernel
theorem dL_prices_11 : decode cL_prices 11 = .ok (.iload_n 1, 1) := by decide +kernel
theorem dL_prices_12 : decode cL_prices 12 = .ok (.iload_n 3, 1) := by decide +kernel
theorem dL_prices_13 : decode cL_prices 13 = .ok (.invokestatic 9, 3) := by decide +kernel
theorem dL_prices_16 : decode cL_prices 16 = .ok (.aload_n 0, 1) := by decide +kernel
theorem dL_prices_17 : decode cL_prices 17 = .ok (.iload_n 3, 1) := by decide +kernel
theorem dL_prices_18 : decode cL_prices 18 = .ok (.iconst 0, 1) := by decide +kernel
theorem dL_prices_19 : decode cL_prices 19 = .ok (.invokevirtual 15, 3) := by decide +kernel
theorem dL_prices_22 : decode cL_prices 22 = .ok (.imul, 1) := by decide +kernel
theorem dL_prices_23 : decode cL_prices 23 = .ok (.iadd, 1) := by decide +kernel
theorem dL_prices_24 : decode cL_prices 24 = .ok (.istore_n 2, 1) := by decide +kernel
theorem dL_prices_25 : decode cL_prices 25 = .ok (.iinc 3 1, 3) := by decide +kernel
theorem dL_prices_28 : decode cL_prices 28 = .ok (.goto (-24), 3) := by decide +kernel
theorem dL_prices_31 : decode cL_prices 31 = .ok (.iload_n 2, 1) := by decide +kernel
theorem dL_prices_32 : decode cL_prices 32 = .ok (.ireturn, 1) := by decide +kernel
theorem dL_cost_0 : decode cL_cost 0 = .ok (.aload_n 0, 1) := by decide +kernel
theorem dL_cost_1 : decode cL_cost 1 = .ok (.iload_n 1, 1) := by decide +kernel
theorem dL_cost_2 : decode cL_cost 2 = .ok (.invokestatic 20, 3) := by decide +kernel
theorem dL_cost_5 : decode cL_cost 5 = .ok (.i2f, 1) := by decide +kernel
theorem dL_cost_6 : decode cL_cost 6 = .ok (.aload_n 0, 1) := by decide +kernel
theorem dL_cost_7 : decode cL_cost 7 = .ok (.iconst 0, 1) := by decide +kernel
theorem dL_cost_8 : decode cL_cost 8 = .ok (.invokevirtual 24, 3) := by decide +kernel
theorem dL_cost_11 : decode cL_cost 11 = .ok (.fmul, 1) := by decide +kernel
theorem dL_cost_12 : decode cL_cost 12 = .ok (.fstore_n 2, 1) := by decide +kernel
theorem dL_cost_13 : decode cL_cost 13 = .ok (.fload_n 2, 1) := by decide +kernel
theorem dL_cost_14 : decode cL_cost 14 = .ok (.iload_n 1, 1) := by decide +kernel
theorem dL_cost_15 : decode cL_cost 15 = .ok (.invokestatic 28, 3) := by decide +kernel
theorem dL_cost_18 : decode cL_cost 18 = .ok (.aload_n 0, 1) := by decide +kernel
theorem dL_cost_19 : decode cL_cost 19 = .ok (.iconst 1, 1) := by decide +kernel
theorem dL_cost_20 : decode cL_cost 20 = .ok (.invokevirtual 32, 3) := by decide +kernel
theorem dL_cost_23 : decode cL_cost 23 = .ok (.imul, 1) := by decide +kernel
theorem dL_cost_24 : decode cL_cost 24 = .ok (.i2f, 1) := by decide +kernel
theorem dL_cost_25 : decode cL_cost 25 = .ok (.fadd, 1) := by decide +kernel
theorem dL_cost_26 : decode cL_cost 26 = .ok (.f2i, 1) := by decide +kernel
theorem dL_cost_27 : decode cL_cost 27 = .ok (.ireturn, 1) := by decide +kernel
theorem dL_desk_0 : decode cL_desk 0 = .ok (.iconst 0, 1) := by decide +kernel
theorem dL_desk_1 : decode cL_desk 1 = .ok (.istore_n 1, 1) := by decide +kernel
theorem dL_desk_2 : decode cL_desk 2 = .ok (.iconst 0, 1) := by decide +kernel
theorem dL_desk_3 : decode cL_desk 3 = .ok (.istore_n 2, 1) := by decide +kernel
theorem dL_desk_4 : decode cL_desk 4 = .ok (.iconst 1, 1) := by decide +kernel
theorem dL_desk_5 : decode cL_desk 5 = .ok (.istore_n 3, 1) := by decide +kernel
theorem dL_desk_6 : decode cL_desk 6 = .ok (.iconst 0, 1) := by decide +kernel
theorem dL_desk_7 : decode cL_desk 7 = .ok (.istore 4, 2) := by decide +kernel
theorem dL_desk_9 : decode cL_desk 9 = .ok (.iload 4, 2) := by decide +kernel
theorem dL_desk_11 : decode cL_desk 11 = .ok (.bipush 6, 2) := by decide +kernel
theorem dL_desk_13 : decode cL_desk 13 = .ok (.if_icmp .ge 178, 3) := by decide +kernel
theorem dL_desk_16 : decode cL_desk 16 = .ok (.iload_n 3, 1) := by decide +kernel
theorem dL_desk_17 : decode cL_desk 17 = .ok (.ifCond .eq 174, 3) := by decide +kernel
theorem dL_desk_20 : decode cL_desk 20 = .ok (.iconst 0, 1) := by decide +kernel
theorem dL_desk_21 : decode cL_desk 21 = .ok (.istore 5, 2) := by decide +kernel
theorem dL_desk_23 : decode cL_desk 23 = .ok (.iconst 0, 1) := by decide +kernel
theorem dL_desk_24 : decode cL_desk 24 = .ok (.istore 6, 2) := by decide +kernel
theorem dL_desk_26 : decode cL_desk 26 = .ok (.iconst 0, 1) := by decide +kernel
theorem dL_desk_27 : decode cL_desk 27 = .ok (.istore 7, 2) := by decide +kernel
theorem dL_desk_29 : decode cL_desk 29 = .ok (.iload 7, 2) := by decide +kernel
theorem dL_desk_31 : decode cL_desk 31 = .ok (.aload_n 0, 1) := by decide +kernel
theorem dL_desk_32 : decode cL_desk 32 = .ok (.iconst 1, 1) := by decide +kernel
theorem dL_desk_33 : decode cL_desk 33 = .ok (.invokevirtual 35, 3) := by decide +kernel
theorem dL_desk_36 : decode cL_desk 36 = .ok (.if_icmp .ge 75, 3) := by decide +kernel
theorem dL_desk_39 : decode cL_desk 39 = .ok (.iload 5, 2) := by decide +kernel
theorem dL_desk_41 : decode cL_desk 41 = .ok (.aload_n 0, 1) := by decide +kernel
theorem dL_desk_42 : decode cL_desk 42 = .ok (.iload 7, 2) := by decide +kernel
theorem dL_desk_44 : decode cL_desk 44 = .ok (.bipush 6, 2) := by decide +kernel
theorem dL_desk_46 : decode cL_desk 46 = .ok (.invokevirtual 38, 3) := by decide +kernel
theorem dL_desk_49 : decode cL_desk 49 = .ok (.iconst 3, 1) := by decide +kernel
theorem dL_desk_50 : decode cL_desk 50 = .ok (.if_icmp .ne 18, 3) := by decide +kernel
theorem dL_desk_53 : decode cL_desk 53 = .ok (.aload_n 0, 1) := by decide +kernel
theorem dL_desk_54 : decode cL_desk 54 = .ok (.iload 7, 2) := by decide +kernel
theorem dL_desk_56 : decode cL_desk 56 = .ok (.iconst 0, 1) := by decide +kernel
theorem dL_desk_57 : decode cL_desk 57 = .ok (.invokevirtual 38, 3) := by decide +kernel
theorem dL_desk_60 : decode cL_desk 60 = .ok (.iload 4, 2) := by decide +kernel
theorem dL_desk_62 : decode cL_desk 62 = .ok (.invokestatic 9, 3) := by decide +kernel
theorem dL_desk_65 : decode cL_desk 65 = .ok (.goto 4, 3) := by decide +kernel
theorem dL_desk_68 : decode cL_desk 68 = .ok (.iconst 0, 1) := by decide +kernel
theorem dL_desk_69 : decode cL_desk 69 = .ok (.iadd, 1) := by decide +kernel
theorem dL_desk_70 : decode cL_desk 70 = .ok (.istore 5, 2) := by decide +kernel
theorem dL_desk_72 : decode cL_desk 72 = .ok (.iload 6, 2) := by decide +kernel
theorem dL_desk_74 : decode cL_desk 74 = .ok (.aload_n 0, 1) := by decide +kernel
theorem dL_desk_75 : decode cL_desk 75 = .ok (.iload 7, 2) := by decide +kernel
theorem dL_desk_77 : decode cL_desk 77 = .ok (.bipush 6, 2) := by decide +kernel
theorem dL_desk_79 : decode cL_desk 79 = .ok (.invokevirtual 38, 3) := by decide +kernel
theorem dL_desk_82 : decode cL_desk 82 = .ok (.iconst 2, 1) := by decide +kernel
theorem dL_desk_83 : decode cL_desk 83 = .ok (.if_icmp .ne 18, 3) := by decide +kernel
theorem dL_desk_86 : decode cL_desk 86 = .ok (.aload_n 0, 1) := by decide +kernel
theorem dL_desk_87 : decode cL_desk 87 = .ok (.iload 7, 2) := by decide +kernel
theorem dL_desk_89 : decode cL_desk 89 = .ok (.iconst 0, 1) := by decide +kernel
theorem dL_desk_90 : decode cL_desk 90 = .ok (.invokevirtual 38, 3) := by decide +kernel
theorem dL_desk_93 : decode cL_desk 93 = .ok (.iload 4, 2) := by decide +kernel
theorem dL_desk_95 : decode cL_desk 95 = .ok (.invokestatic 9, 3) := by decide +kernel
theorem dL_desk_98 : decode cL_desk 98 = .ok (.goto 4, 3) := by decide +kernel
theorem dL_desk_101 : decode cL_desk 101 = .ok (.iconst 0, 1) := by decide +kernel
theorem dL_desk_102 : decode cL_desk 102 = .ok (.iadd, 1) := by decide +kernel
theorem dL_desk_103 : decode cL_desk 103 = .ok (.istore 6, 2) := by decide +kernel
theorem dL_desk_105 : decode cL_desk 105 = .ok (.iinc 7 1, 3) := by decide +kernel
theorem dL_desk_108 : decode cL_desk 108 = .ok (.goto (-79), 3) := by decide +kernel
theorem dL_desk_111 : decode cL_desk 111 = .ok (.iload 6, 2) := by decide +kernel
theorem dL_desk_113 : decode cL_desk 113 = .ok (.aload_n 0, 1) := by decide +kernel
theorem dL_desk_114 : decode cL_desk 114 = .ok (.iload 4, 2) := by decide +kernel
theorem dL_desk_116 : decode cL_desk 116 = .ok (.iconst 2, 1) := by decide +kernel
theorem dL_desk_117 : decode cL_desk 117 = .ok (.invokevirtual 15, 3) := by decide +kernel
theorem dL_desk_120 : decode cL_desk 120 = .ok (.iload 5, 2) := by decide +kernel
theorem dL_desk_122 : decode cL_desk 122 = .ok (.isub, 1) := by decide +kernel
theorem dL_desk_123 : decode cL_desk 123 = .ok (.isub, 1) := by decide +kernel
theorem dL_desk_124 : decode cL_desk 124 = .ok (.aload_n 0, 1) := by decide +kernel
theorem dL_desk_125 : decode cL_desk 125 = .ok (.iload 4, 2) := by decide +kernel
theorem dL_desk_127 : decode cL_desk 127 = .ok (.iconst 4, 1) := by decide +kernel
theorem dL_desk_128 : decode cL_desk 128 = .ok (.invokevirtual 15, 3) := by decide +kernel
theorem dL_desk_131 : decode cL_desk 131 = .ok (.isub, 1) := by decide +kernel
theorem dL_desk_132 : decode cL_desk 132 = .ok (.istore 7, 2) := by decide +kernel
theorem dL_desk_134 : decode cL_desk 134 = .ok (.aload_n 0, 1) := by decide +kernel
theorem dL_desk_135 : decode cL_desk 135 = .ok (.iload 4, 2) := by decide +kernel
theorem dL_desk_137 : decode cL_desk 137 = .ok (.iconst 3, 1) := by decide +kernel
theorem dL_desk_138 : decode cL_desk 138 = .ok (.invokevirtual 15, 3) := by decide +kernel
theorem dL_desk_141 : decode cL_desk 141 = .ok (.iload 5, 2) := by decide +kernel
theorem dL_desk_143 : decode cL_desk 143 = .ok (.if_icmp .ne 40, 3) := by decide +kernel
theorem dL_desk_146 : decode cL_desk 146 = .ok (.iload 5, 2) := by decide +kernel
theorem dL_desk_148 : decode cL_desk 148 = .ok (.aload_n 0, 1) := by decide +kernel
theorem dL_desk_149 : decode cL_desk 149 = .ok (.iload 4, 2) := by decide +kernel
theorem dL_desk_151 : decode cL_desk 151 = .ok (.iconst 2, 1) := by decide +kernel
theorem dL_desk_152 : decode cL_desk 152 = .ok (.invokevirtual 15, 3) := by decide +kernel
theorem dL_desk_155 : decode cL_desk 155 = .ok (.if_icmp .gt 28, 3) := by decide +kernel
theorem dL_desk_158 : decode cL_desk 158 = .ok (.aload_n 0, 1) := by decide +kernel
theorem dL_desk_159 : decode cL_desk 159 = .ok (.iload 4, 2) := by decide +kernel
theorem dL_desk_161 : decode cL_desk 161 = .ok (.iconst 5, 1) := by decide +kernel
theorem dL_desk_162 : decode cL_desk 162 = .ok (.invokevirtual 15, 3) := by decide +kernel
theorem dL_desk_165 : decode cL_desk 165 = .ok (.iload 7, 2) := by decide +kernel
theorem dL_desk_167 : decode cL_desk 167 = .ok (.ifCond .le 8, 3) := by decide +kernel
theorem dL_desk_170 : decode cL_desk 170 = .ok (.iload 7, 2) := by decide +kernel
theorem dL_desk_172 : decode cL_desk 172 = .ok (.goto 4, 3) := by decide +kernel
theorem dL_desk_175 : decode cL_desk 175 = .ok (.iconst 0, 1) := by decide +kernel
theorem dL_desk_176 : decode cL_desk 176 = .ok (.if_icmp .ne 7, 3) := by decide +kernel
theorem dL_desk_179 : decode cL_desk 179 = .ok (.iconst 1, 1) := by decide +kernel
theorem dL_desk_180 : decode cL_desk 180 = .ok (.goto 4, 3) := by decide +kernel
theorem dL_desk_183 : decode cL_desk 183 = .ok (.iconst 0, 1) := by decide +kernel
theorem dL_desk_184 : decode cL_desk 184 = .ok (.istore_n 3, 1) := by decide +kernel
theorem dL_desk_185 : decode cL_desk 185 = .ok (.iinc 4 1, 3) := by decide +kernel
theorem dL_desk_188 : decode cL_desk 188 = .ok (.goto (-179), 3) := by decide +kernel
theorem dL_desk_191 : decode cL_desk 191 = .ok (.iconst 0, 1) := by decide +kernel
theorem dL_desk_192 : decode cL_desk 192 = .ok (.istore 4, 2) := by decide +kernel
theorem dL_desk_194 : decode cL_desk 194 = .ok (.iload 4, 2) := by decide +kernel
theorem dL_desk_196 : decode cL_desk 196 = .ok (.aload_n 0, 1) := by decide +kernel
theorem dL_desk_197 : decode cL_desk 197 = .ok (.iconst 1, 1) := by decide +kernel
theorem dL_desk_198 : decode cL_desk 198 = .ok (.invokevirtual 35, 3) := by decide +kernel
theorem dL_desk_201 : decode cL_desk 201 = .ok (.if_icmp .ge 399, 3) := by decide +kernel
theorem dL_desk_204 : decode cL_desk 204 = .ok (.iload_n 3, 1) := by decide +kernel
theorem dL_desk_205 : decode cL_desk 205 = .ok (.ifCond .eq 395, 3) := by decide +kernel
theorem dL_desk_208 : decode cL_desk 208 = .ok (.aload_n 0, 1) := by decide +kernel
theorem dL_desk_209 : decode cL_desk 209 = .ok (.iload 4, 2) := by decide +kernel
theorem dL_desk_211 : decode cL_desk 211 = .ok (.bipush 6, 2) := by decide +kernel
theorem dL_desk_213 : decode cL_desk 213 = .ok (.invokevirtual 38, 3) := by decide +kernel
theorem dL_desk_216 : decode cL_desk 216 = .ok (.istore 5, 2) := by decide +kernel
theorem dL_desk_218 : decode cL_desk 218 = .ok (.aload_n 0, 1) := by decide +kernel
theorem dL_desk_219 : decode cL_desk 219 = .ok (.iload 4, 2) := by decide +kernel
theorem dL_desk_221 : decode cL_desk 221 = .ok (.iconst 0, 1) := by decide +kernel
theorem dL_desk_222 : decode cL_desk 222 = .ok (.invokevirtual 38, 3) := by decide +kernel
theorem dL_desk_225 : decode cL_desk 225 = .ok (.invokestatic 28, 3) := by decide +kernel
theorem dL_desk_228 : decode cL_desk 228 = .ok (.istore 6, 2) := by decide +kernel
theorem dL_desk_230 : decode cL_desk 230 = .ok (.iload 5, 2) := by decide +kernel
theorem dL_desk_232 : decode cL_desk 232 = .ok (.iconst 4, 1) := by decide +kernel
theorem dL_desk_233 : decode cL_desk 233 = .ok (.if_icmp .eq 9, 3) := by decide +kernel
theorem dL_desk_236 : decode cL_desk 236 = .ok (.iload 5, 2) := by decide +kernel
theorem dL_desk_238 : decode cL_desk 238 = .ok (.iconst 5, 1) := by decide +kernel
theorem dL_desk_239 : decode cL_desk 239 = .ok (.if_icmp .ne 7, 3) := by decide +kernel
theorem dL_desk_242 : decode cL_desk 242 = .ok (.iconst 1, 1) := by decide +kernel
theorem dL_desk_243 : decode cL_desk 243 = .ok (.goto 4, 3) := by decide +kernel
theorem dL_desk_246 : decode cL_desk 246 = .ok (.iconst 0, 1) := by decide +kernel
theorem dL_desk_247 : decode cL_desk 247 = .ok (.istore 7, 2) := by decide +kernel
theorem dL_desk_249 : decode cL_desk 249 = .ok (.iload_n 1, 1) := by decide +kernel
theorem dL_desk_250 : decode cL_desk 250 = .ok (.aload_n 0, 1) := by decide +kernel
theorem dL_desk_251 : decode cL_desk 251 = .ok (.iload 4, 2) := by decide +kernel
theorem dL_desk_253 : decode cL_desk 253 = .ok (.iconst 5, 1) := by decide +kernel
theorem dL_desk_254 : decode cL_desk 254 = .ok (.invokevirtual 38, 3) := by decide +kernel
theorem dL_desk_257 : decode cL_desk 257 = .ok (.iadd, 1) := by decide +kernel
theorem dL_desk_258 : decode cL_desk 258 = .ok (.istore_n 1, 1) := by decide +kernel
theorem dL_desk_259 : decode cL_desk 259 = .ok (.iload_n 2, 1) := by decide +kernel
theorem dL_desk_260 : decode cL_desk 260 = .ok (.aload_n 0, 1) := by decide +kernel
theorem dL_desk_261 : decode cL_desk 261 = .ok (.iload 4, 2) := by decide +kernel
theorem dL_desk_263 : decode cL_desk 263 = .ok (.iconst 3, 1) := by decide +kernel
theorem dL_desk_264 : decode cL_desk 264 = .ok (.invokevirtual 38, 3) := by decide +kernel
theorem dL_desk_267 : decode cL_desk 267 = .ok (.iload 6, 2) := by decide +kernel
theorem dL_desk_269 : decode cL_desk 269 = .ok (.if_icmp .ne 7, 3) := by decide +kernel
theorem dL_desk_272 : decode cL_desk 272 = .ok (.iconst 1, 1) := by decide +kernel
theorem dL_desk_273 : decode cL_desk 273 = .ok (.goto 4, 3) := by decide +kernel
theorem dL_desk_276 : decode cL_desk 276 = .ok (.iconst 0, 1) := by decide +kernel
theorem dL_desk_277 : decode cL_desk 277 = .ok (.iadd, 1) := by decide +kernel
theorem dL_desk_278 : decode cL_desk 278 = .ok (.istore_n 2, 1) := by decide +kernel
theorem dL_desk_279 : decode cL_desk 279 = .ok (.iload 5, 2) := by decide +kernel
theorem dL_desk_281 : decode cL_desk 281 = .ok (.ifCond .lt 93, 3) := by decide +kernel
theorem dL_desk_284 : decode cL_desk 284 = .ok (.iload 5, 2) := by decide +kernel
theorem dL_desk_286 : decode cL_desk 286 = .ok (.bipush 8, 2) := by decide +kernel
theorem dL_desk_288 : decode cL_desk 288 = .ok (.if_icmp .ge 86, 3) := by decide +kernel
theorem dL_desk_291 : decode cL_desk 291 = .ok (.aload_n 0, 1) := by decide +kernel
theorem dL_desk_292 : decode cL_desk 292 = .ok (.iload 4, 2) := by decide +kernel
theorem dL_desk_294 : decode cL_desk 294 = .ok (.iconst 3, 1) := by decide +kernel
theorem dL_desk_295 : decode cL_desk 295 = .ok (.invokevirtual 38, 3) := by decide +kernel
theorem dL_desk_298 : decode cL_desk 298 = .ok (.iload 6, 2) := by decide +kernel
theorem dL_desk_300 : decode cL_desk 300 = .ok (.if_icmp .gt 74, 3) := by decide +kernel
theorem dL_desk_303 : decode cL_desk 303 = .ok (.iload 5, 2) := by decide +kernel
theorem dL_desk_305 : decode cL_desk 305 = .ok (.iconst 2, 1) := by decide +kernel
theorem dL_desk_306 : decode cL_desk 306 = .ok (.if_icmp .gt 13, 3) := by decide +kernel
theorem dL_desk_309 : decode cL_desk 309 = .ok (.aload_n 0, 1) := by decide +kernel
theorem dL_desk_310 : decode cL_desk 310 = .ok (.iload 4, 2) := by decide +kernel
theorem dL_desk_312 : decode cL_desk 312 = .ok (.iconst 3, 1) := by decide +kernel
theorem dL_desk_313 : decode cL_desk 313 = .ok (.invokevirtual 38, 3) := by decide +kernel
theorem dL_desk_316 : decode cL_desk 316 = .ok (.ifCond .ne 58, 3) := by decide +kernel
theorem dL_desk_319 : decode cL_desk 319 = .ok (.iload 5, 2) := by decide +kernel
theorem dL_desk_321 : decode cL_desk 321 = .ok (.iconst 3, 1) := by decide +kernel
theorem dL_desk_322 : decode cL_desk 322 = .ok (.if_icmp .ne 15, 3) := by decide +kernel
theorem dL_desk_325 : decode cL_desk 325 = .ok (.aload_n 0, 1) := by decide +kernel
theorem dL_desk_326 : decode cL_desk 326 = .ok (.iload 4, 2) := by decide +kernel
theorem dL_desk_328 : decode cL_desk 328 = .ok (.iconst 3, 1) := by decide +kernel
theorem dL_desk_329 : decode cL_desk 329 = .ok (.invokevirtual 38, 3) := by decide +kernel
theorem dL_desk_332 : decode cL_desk 332 = .ok (.iload 6, 2) := by decide +kernel
theorem dL_desk_334 : decode cL_desk 334 = .ok (.if_icmp .ge 40, 3) := by decide +kernel
theorem dL_desk_337 : decode cL_desk 337 = .ok (.iload 5, 2) := by decide +kernel
theorem dL_desk_339 : decode cL_desk 339 = .ok (.iconst 4, 1) := by decide +kernel
theorem dL_desk_340 : decode cL_desk 340 = .ok (.if_icmp .ne 15, 3) := by decide +kernel
theorem dL_desk_343 : decode cL_desk 343 = .ok (.aload_n 0, 1) := by decide +kernel
theorem dL_desk_344 : decode cL_desk 344 = .ok (.iload 4, 2) := by decide +kernel
theorem dL_desk_346 : decode cL_desk 346 = .ok (.iconst 3, 1) := by decide +kernel
theorem dL_desk_347 : decode cL_desk 347 = .ok (.invokevirtual 38, 3) := by decide +kernel
theorem dL_desk_350 : decode cL_desk 350 = .ok (.iload 6, 2) := by decide +kernel
theorem dL_desk_352 : decode cL_desk 352 = .ok (.if_icmp .ne 22, 3) := by decide +kernel
theorem dL_desk_355 : decode cL_desk 355 = .ok (.aload_n 0, 1) := by decide +kernel
theorem dL_desk_356 : decode cL_desk 356 = .ok (.iload 4, 2) := by decide +kernel
theorem dL_desk_358 : decode cL_desk 358 = .ok (.iconst 1, 1) := by decide +kernel
theorem dL_desk_359 : decode cL_desk 359 = .ok (.invokevirtual 38, 3) := by decide +kernel
theorem dL_desk_362 : decode cL_desk 362 = .ok (.aload_n 0, 1) := by decide +kernel
theorem dL_desk_363 : decode cL_desk 363 = .ok (.iconst 0, 1) := by decide +kernel
theorem dL_desk_364 : decode cL_desk 364 = .ok (.invokevirtual 35, 3) := by decide +kernel
theorem dL_desk_367 : decode cL_desk 367 = .ok (.if_icmp .gt 7, 3) := by decide +kernel
theorem dL_desk_370 : decode cL_desk 370 = .ok (.iconst 1, 1) := by decide +kernel
theorem dL_desk_371 : decode cL_desk 371 = .ok (.goto 4, 3) := by decide +kernel
theorem dL_desk_374 : decode cL_desk 374 = .ok (.iconst 0, 1) := by decide +kernel
theorem dL_desk_375 : decode cL_desk 375 = .ok (.istore_n 3, 1) := by decide +kernel
theorem dL_desk_376 : decode cL_desk 376 = .ok (.iload_n 3, 1) := by decide +kernel
theorem dL_desk_377 : decode cL_desk 377 = .ok (.ifCond .eq 135, 3) := by decide +kernel
theorem dL_desk_380 : decode cL_desk 380 = .ok (.aload_n 0, 1) := by decide +kernel
theorem dL_desk_381 : decode cL_desk 381 = .ok (.iload 4, 2) := by decide +kernel
theorem dL_desk_383 : decode cL_desk 383 = .ok (.bipush 7, 2) := by decide +kernel
theorem dL_desk_385 : decode cL_desk 385 = .ok (.invokevirtual 38, 3) := by decide +kernel
theorem dL_desk_388 : decode cL_desk 388 = .ok (.ifCond .lt 7, 3) := by decide +kernel
theorem dL_desk_391 : decode cL_desk 391 = .ok (.iconst 1, 1) := by decide +kernel
theorem dL_desk_392 : decode cL_desk 392 = .ok (.goto 4, 3) := by decide +kernel
theorem dL_desk_395 : decode cL_desk 395 = .ok (.iconst 0, 1) := by decide +kernel
theorem dL_desk_396 : decode cL_desk 396 = .ok (.iload 5, 2) := by decide +kernel
theorem dL_desk_398 : decode cL_desk 398 = .ok (.iconst 3, 1) := by decide +kernel
theorem dL_desk_399 : decode cL_desk 399 = .ok (.if_icmp .le 7, 3) := by decide +kernel
theorem dL_desk_402 : decode cL_desk 402 = .ok (.iconst 1, 1) := by decide +kernel
theorem dL_desk_403 : decode cL_desk 403 = .ok (.goto 4, 3) := by decide +kernel
theorem dL_desk_406 : decode cL_desk 406 = .ok (.iconst 0, 1) := by decide +kernel
theorem dL_desk_407 : decode cL_desk 407 = .ok (.if_icmp .ne 105, 3) := by decide +kernel
theorem dL_desk_410 : decode cL_desk 410 = .ok (.aload_n 0, 1) := by decide +kernel
theorem dL_desk_411 : decode cL_desk 411 = .ok (.iload 4, 2) := by decide +kernel
theorem dL_desk_413 : decode cL_desk 413 = .ok (.bipush 8, 2) := by decide +kernel
theorem dL_desk_415 : decode cL_desk 415 = .ok (.invokevirtual 38, 3) := by decide +kernel
theorem dL_desk_418 : decode cL_desk 418 = .ok (.ifCond .lt 7, 3) := by decide +kernel
theorem dL_desk_421 : decode cL_desk 421 = .ok (.iconst 1, 1) := by decide +kernel
theorem dL_desk_422 : decode cL_desk 422 = .ok (.goto 4, 3) := by decide +kernel
theorem dL_desk_425 : decode cL_desk 425 = .ok (.iconst 0, 1) := by decide +kernel
theorem dL_desk_426 : decode cL_desk 426 = .ok (.iload 7, 2) := by decide +kernel
theorem dL_desk_428 : decode cL_desk 428 = .ok (.if_icmp .ne 84, 3) := by decide +kernel
theorem dL_desk_431 : decode cL_desk 431 = .ok (.aload_n 0, 1) := by decide +kernel
theorem dL_desk_432 : decode cL_desk 432 = .ok (.iload 4, 2) := by decide +kernel
theorem dL_desk_434 : decode cL_desk 434 = .ok (.iconst 5, 1) := by decide +kernel
theorem dL_desk_435 : decode cL_desk 435 = .ok (.invokevirtual 38, 3) := by decide +kernel
theorem dL_desk_438 : decode cL_desk 438 = .ok (.ifCond .eq 10, 3) := by decide +kernel
theorem dL_desk_441 : decode cL_desk 441 = .ok (.iload 5, 2) := by decide +kernel
theorem dL_desk_443 : decode cL_desk 443 = .ok (.bipush 6, 2) := by decide +kernel
theorem dL_desk_445 : decode cL_desk 445 = .ok (.if_icmp .ge 67, 3) := by decide +kernel
theorem dL_desk_448 : decode cL_desk 448 = .ok (.aload_n 0, 1) := by decide +kernel
theorem dL_desk_449 : decode cL_desk 449 = .ok (.iload 4, 2) := by decide +kernel
theorem dL_desk_451 : decode cL_desk 451 = .ok (.iconst 4, 1) := by decide +kernel
theorem dL_desk_452 : decode cL_desk 452 = .ok (.invokevirtual 38, 3) := by decide +kernel
theorem dL_desk_455 : decode cL_desk 455 = .ok (.ifCond .lt 57, 3) := by decide +kernel
theorem dL_desk_458 : decode cL_desk 458 = .ok (.aload_n 0, 1) := by decide +kernel
theorem dL_desk_459 : decode cL_desk 459 = .ok (.iload 4, 2) := by decide +kernel
theorem dL_desk_461 : decode cL_desk 461 = .ok (.iconst 4, 1) := by decide +kernel
theorem dL_desk_462 : decode cL_desk 462 = .ok (.invokevirtual 38, 3) := by decide +kernel
theorem dL_desk_465 : decode cL_desk 465 = .ok (.ifCond .eq 15, 3) := by decide +kernel
theorem dL_desk_468 : decode cL_desk 468 = .ok (.aload_n 0, 1) := by decide +kernel
theorem dL_desk_469 : decode cL_desk 469 = .ok (.iload 4, 2) := by decide +kernel
theorem dL_desk_471 : decode cL_desk 471 = .ok (.iconst 3, 1) := by decide +kernel
theorem dL_desk_472 : decode cL_desk 472 = .ok (.invokevirtual 38, 3) := by decide +kernel
theorem dL_desk_475 : decode cL_desk 475 = .ok (.iload 6, 2) := by decide +kernel
theorem dL_desk_477 : decode cL_desk 477 = .ok (.if_icmp .ne 35, 3) := by decide +kernel
theorem dL_desk_480 : decode cL_desk 480 = .ok (.iload 5, 2) := by decide +kernel
theorem dL_desk_482 : decode cL_desk 482 = .ok (.ifCond .ne 7, 3) := by decide +kernel
theorem dL_desk_485 : decode cL_desk 485 = .ok (.iconst 1, 1) := by decide +kernel
theorem dL_desk_486 : decode cL_desk 486 = .ok (.goto 4, 3) := by decide +kernel
theorem dL_desk_489 : decode cL_desk 489 = .ok (.iconst 0, 1) := by decide +kernel
theorem dL_desk_490 : decode cL_desk 490 = .ok (.aload_n 0, 1) := by decide +kernel
theorem dL_desk_491 : decode cL_desk 491 = .ok (.iload 4, 2) := by decide +kernel
theorem dL_desk_493 : decode cL_desk 493 = .ok (.iconst 2, 1) := by decide +kernel
theorem dL_desk_494 : decode cL_desk 494 = .ok (.invokevirtual 38, 3) := by decide +kernel
theorem dL_desk_497 : decode cL_desk 497 = .ok (.ifCond .ne 7, 3) := by decide +kernel
theorem dL_desk_500 : decode cL_desk 500 = .ok (.iconst 1, 1) := by decide +kernel
theorem dL_desk_501 : decode cL_desk 501 = .ok (.goto 4, 3) := by decide +kernel
theorem dL_desk_504 : decode cL_desk 504 = .ok (.iconst 0, 1) := by decide +kernel
theorem dL_desk_505 : decode cL_desk 505 = .ok (.if_icmp .ne 7, 3) := by decide +kernel
theorem dL_desk_508 : decode cL_desk 508 = .ok (.iconst 1, 1) := by decide +kernel
theorem dL_desk_509 : decode cL_desk 509 = .ok (.goto 4, 3) := by decide +kernel
theorem dL_desk_512 : decode cL_desk 512 = .ok (.iconst 0, 1) := by decide +kernel
theorem dL_desk_513 : decode cL_desk 513 = .ok (.istore_n 3, 1) := by decide +kernel
theorem dL_desk_514 : decode cL_desk 514 = .ok (.iload_n 3, 1) := by decide +kernel
theorem dL_desk_515 : decode cL_desk 515 = .ok (.ifCond .eq 77, 3) := by decide +kernel
theorem dL_desk_518 : decode cL_desk 518 = .ok (.iload 5, 2) := by decide +kernel
theorem dL_desk_520 : decode cL_desk 520 = .ok (.iconst 2, 1) := by decide +kernel
theorem dL_desk_521 : decode cL_desk 521 = .ok (.if_icmp .eq 14, 3) := by decide +kernel
theorem dL_desk_524 : decode cL_desk 524 = .ok (.aload_n 0, 1) := by decide +kernel
theorem dL_desk_525 : decode cL_desk 525 = .ok (.iload 4, 2) := by decide +kernel
theorem dL_desk_527 : decode cL_desk 527 = .ok (.invokevirtual 41, 3) := by decide +kernel
theorem dL_desk_530 : decode cL_desk 530 = .ok (.bipush (-5), 2) := by decide +kernel
theorem dL_desk_532 : decode cL_desk 532 = .ok (.if_icmp .ne 60, 3) := by decide +kernel
theorem dL_desk_535 : decode cL_desk 535 = .ok (.iload 5, 2) := by decide +kernel
theorem dL_desk_537 : decode cL_desk 537 = .ok (.iconst 2, 1) := by decide +kernel
theorem dL_desk_538 : decode cL_desk 538 = .ok (.if_icmp .eq 20, 3) := by decide +kernel
theorem dL_desk_541 : decode cL_desk 541 = .ok (.iload 5, 2) := by decide +kernel
theorem dL_desk_543 : decode cL_desk 543 = .ok (.iconst 3, 1) := by decide +kernel
theorem dL_desk_544 : decode cL_desk 544 = .ok (.if_icmp .eq 14, 3) := by decide +kernel
theorem dL_desk_547 : decode cL_desk 547 = .ok (.aload_n 0, 1) := by decide +kernel
theorem dL_desk_548 : decode cL_desk 548 = .ok (.iload 4, 2) := by decide +kernel
theorem dL_desk_550 : decode cL_desk 550 = .ok (.invokevirtual 44, 3) := by decide +kernel
theorem dL_desk_553 : decode cL_desk 553 = .ok (.bipush (-5), 2) := by decide +kernel
theorem dL_desk_555 : decode cL_desk 555 = .ok (.if_icmp .ne 37, 3) := by decide +kernel
theorem dL_desk_558 : decode cL_desk 558 = .ok (.aload_n 0, 1) := by decide +kernel
theorem dL_desk_559 : decode cL_desk 559 = .ok (.iload 4, 2) := by decide +kernel
theorem dL_desk_561 : decode cL_desk 561 = .ok (.invokevirtual 47, 3) := by decide +kernel
theorem dL_desk_564 : decode cL_desk 564 = .ok (.bipush (-5), 2) := by decide +kernel
theorem dL_desk_566 : decode cL_desk 566 = .ok (.if_icmp .ne 7, 3) := by decide +kernel
theorem dL_desk_569 : decode cL_desk 569 = .ok (.iconst 1, 1) := by decide +kernel
theorem dL_desk_570 : decode cL_desk 570 = .ok (.goto 4, 3) := by decide +kernel
theorem dL_desk_573 : decode cL_desk 573 = .ok (.iconst 0, 1) := by decide +kernel
theorem dL_desk_574 : decode cL_desk 574 = .ok (.iload 5, 2) := by decide +kernel
theorem dL_desk_576 : decode cL_desk 576 = .ok (.iconst 5, 1) := by decide +kernel
theorem dL_desk_577 : decode cL_desk 577 = .ok (.if_icmp .le 7, 3) := by decide +kernel
theorem dL_desk_580 : decode cL_desk 580 = .ok (.iconst 1, 1) := by decide +kernel
theorem dL_desk_581 : decode cL_desk 581 = .ok (.goto 4, 3) := by decide +kernel
theorem dL_desk_584 : decode cL_desk 584 = .ok (.iconst 0, 1) := by decide +kernel
theorem dL_desk_585 : decode cL_desk 585 = .ok (.if_icmp .ne 7, 3) := by decide +kernel
theorem dL_desk_588 : decode cL_desk 588 = .ok (.iconst 1, 1) := by decide +kernel
theorem dL_desk_589 : decode cL_desk 589 = .ok (.goto 4, 3) := by decide +kernel
theorem dL_desk_592 : decode cL_desk 592 = .ok (.iconst 0, 1) := by decide +kernel
theorem dL_desk_593 : decode cL_desk 593 = .ok (.istore_n 3, 1) := by decide +kernel
theorem dL_desk_594 : decode cL_desk 594 = .ok (.iinc 4 1, 3) := by decide +kernel
theorem dL_desk_597 : decode cL_desk 597 = .ok (.goto (-403), 3) := by decide +kernel
theorem dL_desk_600 : decode cL_desk 600 = .ok (.iconst 0, 1) := by decide +kernel
theorem dL_desk_601 : decode cL_desk 601 = .ok (.istore 4, 2) := by decide +kernel
theorem dL_desk_603 : decode cL_desk 603 = .ok (.iconst 0, 1) := by decide +kernel
theorem dL_desk_604 : decode cL_desk 604 = .ok (.istore 5, 2) := by decide +kernel
theorem dL_desk_606 : decode cL_desk 606 = .ok (.iload 5, 2) := by decide +kernel
theorem dL_desk_608 : decode cL_desk 608 = .ok (.bipush 8, 2) := by decide +kernel
theorem dL_desk_610 : decode cL_desk 610 = .ok (.if_icmp .ge 22, 3) := by decide +kernel
theorem dL_desk_613 : decode cL_desk 613 = .ok (.iload 4, 2) := by decide +kernel
theorem dL_desk_615 : decode cL_desk 615 = .ok (.aload_n 0, 1) := by decide +kernel
theorem dL_desk_616 : decode cL_desk 616 = .ok (.iconst 2, 1) := by decide +kernel
theorem dL_desk_617 : decode cL_desk 617 = .ok (.iload 5, 2) := by decide +kernel
theorem dL_desk_619 : decode cL_desk 619 = .ok (.iadd, 1) := by decide +kernel
theorem dL_desk_620 : decode cL_desk 620 = .ok (.invokevirtual 35, 3) := by decide +kernel
theorem dL_desk_623 : decode cL_desk 623 = .ok (.iadd, 1) := by decide +kernel
theorem dL_desk_624 : decode cL_desk 624 = .ok (.istore 4, 2) := by decide +kernel
theorem dL_desk_626 : decode cL_desk 626 = .ok (.iinc 5 1, 3) := by decide +kernel
theorem dL_desk_629 : decode cL_desk 629 = .ok (.goto (-23), 3) := by decide +kernel
theorem dL_desk_632 : decode cL_desk 632 = .ok (.iload_n 3, 1) := by decide +kernel
theorem dL_desk_633 : decode cL_desk 633 = .ok (.ifCond .eq 53, 3) := by decide +kernel
theorem dL_desk_636 : decode cL_desk 636 = .ok (.iload 4, 2) := by decide +kernel
theorem dL_desk_638 : decode cL_desk 638 = .ok (.aload_n 0, 1) := by decide +kernel
theorem dL_desk_639 : decode cL_desk 639 = .ok (.iconst 1, 1) := by decide +kernel
theorem dL_desk_640 : decode cL_desk 640 = .ok (.invokevirtual 35, 3) := by decide +kernel
theorem dL_desk_643 : decode cL_desk 643 = .ok (.if_icmp .ne 43, 3) := by decide +kernel
theorem dL_desk_646 : decode cL_desk 646 = .ok (.aload_n 0, 1) := by decide +kernel
theorem dL_desk_647 : decode cL_desk 647 = .ok (.bipush 11, 2) := by decide +kernel
theorem dL_desk_649 : decode cL_desk 649 = .ok (.invokevirtual 35, 3) := by decide +kernel
theorem dL_desk_652 : decode cL_desk 652 = .ok (.aload_n 0, 1) := by decide +kernel
theorem dL_desk_653 : decode cL_desk 653 = .ok (.iconst 4, 1) := by decide +kernel
theorem dL_desk_654 : decode cL_desk 654 = .ok (.invokevirtual 32, 3) := by decide +kernel
theorem dL_desk_657 : decode cL_desk 657 = .ok (.iload_n 1, 1) := by decide +kernel
theorem dL_desk_658 : decode cL_desk 658 = .ok (.isub, 1) := by decide +kernel
theorem dL_desk_659 : decode cL_desk 659 = .ok (.if_icmp .ne 27, 3) := by decide +kernel
theorem dL_desk_662 : decode cL_desk 662 = .ok (.aload_n 0, 1) := by decide +kernel
theorem dL_desk_663 : decode cL_desk 663 = .ok (.bipush 11, 2) := by decide +kernel
theorem dL_desk_665 : decode cL_desk 665 = .ok (.invokevirtual 35, 3) := by decide +kernel
theorem dL_desk_668 : decode cL_desk 668 = .ok (.ifCond .lt 18, 3) := by decide +kernel
theorem dL_desk_671 : decode cL_desk 671 = .ok (.aload_n 0, 1) := by decide +kernel
theorem dL_desk_672 : decode cL_desk 672 = .ok (.bipush 10, 2) := by decide +kernel
theorem dL_desk_674 : decode cL_desk 674 = .ok (.invokevirtual 35, 3) := by decide +kernel
theorem dL_desk_677 : decode cL_desk 677 = .ok (.bipush 12, 2) := by decide +kernel
theorem dL_desk_679 : decode cL_desk 679 = .ok (.if_icmp .gt 7, 3) := by decide +kernel
theorem dL_desk_682 : decode cL_desk 682 = .ok (.iconst 1, 1) := by decide +kernel
theorem dL_desk_683 : decode cL_desk 683 = .ok (.goto 4, 3) := by decide +kernel
theorem dL_desk_686 : decode cL_desk 686 = .ok (.iconst 0, 1) := by decide +kernel
theorem dL_desk_687 : decode cL_desk 687 = .ok (.istore_n 3, 1) := by decide +kernel
theorem dL_desk_688 : decode cL_desk 688 = .ok (.iconst 0, 1) := by decide +kernel
theorem dL_desk_689 : decode cL_desk 689 = .ok (.istore 5, 2) := by decide +kernel
theorem dL_desk_691 : decode cL_desk 691 = .ok (.iload 5, 2) := by decide +kernel
theorem dL_desk_693 : decode cL_desk 693 = .ok (.iconst 5, 1) := by decide +kernel
theorem dL_desk_694 : decode cL_desk 694 = .ok (.if_icmp .ge 34, 3) := by decide +kernel
theorem dL_desk_697 : decode cL_desk 697 = .ok (.iload_n 3, 1) := by decide +kernel
theorem dL_desk_698 : decode cL_desk 698 = .ok (.ifCond .eq 30, 3) := by decide +kernel
theorem dL_desk_701 : decode cL_desk 701 = .ok (.aload_n 0, 1) := by decide +kernel
theorem dL_desk_702 : decode cL_desk 702 = .ok (.iload 5, 2) := by decide +kernel
theorem dL_desk_704 : decode cL_desk 704 = .ok (.invokevirtual 50, 3) := by decide +kernel
theorem dL_desk_707 : decode cL_desk 707 = .ok (.aload_n 0, 1) := by decide +kernel
theorem dL_desk_708 : decode cL_desk 708 = .ok (.iload 5, 2) := by decide +kernel
theorem dL_desk_710 : decode cL_desk 710 = .ok (.invokestatic 53, 3) := by decide +kernel
theorem dL_desk_713 : decode cL_desk 713 = .ok (.if_icmp .ne 7, 3) := by decide +kernel
theorem dL_desk_716 : decode cL_desk 716 = .ok (.iconst 1, 1) := by decide +kernel
theorem dL_desk_717 : decode cL_desk 717 = .ok (.goto 4, 3) := by decide +kernel
theorem dL_desk_720 : decode cL_desk 720 = .ok (.iconst 0, 1) := by decide +kernel
theorem dL_desk_721 : decode cL_desk 721 = .ok (.istore_n 3, 1) := by decide +kernel
theorem dL_desk_722 : decode cL_desk 722 = .ok (.iinc 5 1, 3) := by decide +kernel
theorem dL_desk_725 : decode cL_desk 725 = .ok (.goto (-34), 3) := by decide +kernel
theorem dL_desk_728 : decode cL_desk 728 = .ok (.aload_n 0, 1) := by decide +kernel
theorem dL_desk_729 : decode cL_desk 729 = .ok (.invokevirtual 56, 3) := by decide +kernel
theorem dL_desk_732 : decode cL_desk 732 = .ok (.fstore 5, 2) := by decide +kernel
theorem dL_desk_734 : decode cL_desk 734 = .ok (.iload_n 3, 1) := by decide +kernel
theorem dL_desk_735 : decode cL_desk 735 = .ok (.ifCond .eq 29, 3) := by decide +kernel
theorem dL_desk_738 : decode cL_desk 738 = .ok (.iload_n 2, 1) := by decide +kernel
theorem dL_desk_739 : decode cL_desk 739 = .ok (.ifCond .ne 14, 3) := by decide +kernel
theorem dL_desk_742 : decode cL_desk 742 = .ok (.fload 5, 2) := by decide +kernel
theorem dL_desk_744 : decode cL_desk 744 = .ok (.fload 5, 2) := by decide +kernel
theorem dL_desk_746 : decode cL_desk 746 = .ok (.fcmp .l, 1) := by decide +kernel
theorem dL_desk_747 : decode cL_desk 747 = .ok (.ifCond .eq 17, 3) := by decide +kernel
theorem dL_desk_750 : decode cL_desk 750 = .ok (.goto 10, 3) := by decide +kernel
theorem dL_desk_753 : decode cL_desk 753 = .ok (.fload 5, 2) := by decide +kernel
theorem dL_desk_755 : decode cL_desk 755 = .ok (.fconst 0, 1) := by decide +kernel
theorem dL_desk_756 : decode cL_desk 756 = .ok (.fcmp .l, 1) := by decide +kernel
theorem dL_desk_757 : decode cL_desk 757 = .ok (.ifCond .lt 7, 3) := by decide +kernel
theorem dL_desk_760 : decode cL_desk 760 = .ok (.iconst 1, 1) := by decide +kernel
theorem dL_desk_761 : decode cL_desk 761 = .ok (.goto 4, 3) := by decide +kernel
theorem dL_desk_764 : decode cL_desk 764 = .ok (.iconst 0, 1) := by decide +kernel
theorem dL_desk_765 : decode cL_desk 765 = .ok (.ireturn, 1) := by decide +kernel
theorem dL_act_0 : decode cL_act 0 = .ok (.aload_n 1, 1) := by decide +kernel
theorem dL_act_1 : decode cL_act 1 = .ok (.iload_n 2, 1) := by decide +kernel
theorem dL_act_2 : decode cL_act 2 = .ok (.iconst 1, 1) := by decide +kernel
theorem dL_act_3 : decode cL_act 3 = .ok (.iadd, 1) := by decide +kernel
theorem dL_act_4 : decode cL_act 4 = .ok (.invokestatic 60, 3) := by decide +kernel
theorem dL_act_7 : decode cL_act 7 = .ok (.istore_n 3, 1) := by decide +kernel
theorem dL_act_8 : decode cL_act 8 = .ok (.aload_n 1, 1) := by decide +kernel
theorem dL_act_9 : decode cL_act 9 = .ok (.iload_n 2, 1) := by decide +kernel
theorem dL_act_10 : decode cL_act 10 = .ok (.iconst 2, 1) := by decide +kernel
theorem dL_act_11 : decode cL_act 11 = .ok (.iadd, 1) := by decide +kernel
theorem dL_act_12 : decode cL_act 12 = .ok (.invokestatic 60, 3) := by decide +kernel
theorem dL_act_15 : decode cL_act 15 = .ok (.istore 4, 2) := by decide +kernel
theorem dL_act_17 : decode cL_act 17 = .ok (.iload_n 3, 1) := by decide +kernel
theorem dL_act_18 : decode cL_act 18 = .ok (.bipush 10, 2) := by decide +kernel
theorem dL_act_20 : decode cL_act 20 = .ok (.invokestatic 64, 3) := by decide +kernel
theorem dL_act_23 : decode cL_act 23 = .ok (.istore 5, 2) := by decide +kernel
theorem dL_act_25 : decode cL_act 25 = .ok (.aload_n 1, 1) := by decide +kernel
theorem dL_act_26 : decode cL_act 26 = .ok (.iload_n 2, 1) := by decide +kernel
theorem dL_act_27 : decode cL_act 27 = .ok (.invokestatic 60, 3) := by decide +kernel
theorem dL_act_30 : decode cL_act 30 = .ok (.bipush 22, 2) := by decide +kernel
theorem dL_act_32 : decode cL_act 32 = .ok (.invokestatic 64, 3) := by decide +kernel
theorem dL_act_35 : decode cL_act 35 = .ok (.tableswitch 288 0 18 #[89, 89, 89, 99, 99, 99, 106, 106, 106, 128, 128, 128, 147, 166, 173, 180, 209, 262, 267], 89) := by decide +kernel
theorem dL_act_124 : decode cL_act 124 = .ok (.aload_n 0, 1) := by decide +kernel
theorem dL_act_125 : decode cL_act 125 = .ok (.iload_n 3, 1) := by decide +kernel
theorem dL_act_126 : decode cL_act 126 = .ok (.iconst 5, 1) := by decide +kernel
theorem dL_act_127 : decode cL_act 127 = .ok (.invokestatic 64, 3) := by decide +kernel
theorem dL_act_130 : decode cL_act 130 = .ok (.invokevirtual 67, 3) := by decide +kernel
theorem dL_act_133 : decode cL_act 133 = .ok (.ireturn, 1) := by decide +kernel
theorem dL_act_134 : decode cL_act 134 = .ok (.aload_n 0, 1) := by decide +kernel
theorem dL_act_135 : decode cL_act 135 = .ok (.iload 5, 2) := by decide +kernel
theorem dL_act_137 : decode cL_act 137 = .ok (.invokevirtual 70, 3) := by decide +kernel
theorem dL_act_140 : decode cL_act 140 = .ok (.ireturn, 1) := by decide +kernel
theorem dL_act_141 : decode cL_act 141 = .ok (.aload_n 0, 1) := by decide +kernel
theorem dL_act_142 : decode cL_act 142 = .ok (.iload 5, 2) := by decide +kernel
theorem dL_act_144 : decode cL_act 144 = .ok (.iload 4, 2) := by decide +kernel
theorem dL_act_146 : decode cL_act 146 = .ok (.bipush 6, 2) := by decide +kernel
theorem dL_act_148 : decode cL_act 148 = .ok (.invokestatic 64, 3) := by decide +kernel
theorem dL_act_151 : decode cL_act 151 = .ok (.ifCond .le 7, 3) := by decide +kernel
theorem dL_act_154 : decode cL_act 154 = .ok (.iconst 1, 1) := by decide +kernel
theorem dL_act_155 : decode cL_act 155 = .ok (.goto 4, 3) := by decide +kernel
theorem dL_act_158 : decode cL_act 158 = .ok (.iconst 0, 1) := by decide +kernel
theorem dL_act_159 : decode cL_act 159 = .ok (.invokevirtual 73, 3) := by decide +kernel
theorem dL_act_162 : decode cL_act 162 = .ok (.ireturn, 1) := by decide +kernel
theorem dL_act_163 : decode cL_act 163 = .ok (.aload_n 0, 1) := by decide +kernel
theorem dL_act_164 : decode cL_act 164 = .ok (.iload_n 3, 1) := by decide +kernel
theorem dL_act_165 : decode cL_act 165 = .ok (.bipush 6, 2) := by decide +kernel
theorem dL_act_167 : decode cL_act 167 = .ok (.invokestatic 64, 3) := by decide +kernel
theorem dL_act_170 : decode cL_act 170 = .ok (.iconst 1, 1) := by decide +kernel
theorem dL_act_171 : decode cL_act 171 = .ok (.iload 4, 2) := by decide +kernel
theorem dL_act_173 : decode cL_act 173 = .ok (.iconst 4, 1) := by decide +kernel
theorem dL_act_174 : decode cL_act 174 = .ok (.invokestatic 64, 3) := by decide +kernel
theorem dL_act_177 : decode cL_act 177 = .ok (.iadd, 1) := by decide +kernel
theorem dL_act_178 : decode cL_act 178 = .ok (.invokevirtual 77, 3) := by decide +kernel
theorem dL_act_181 : decode cL_act 181 = .ok (.ireturn, 1) := by decide +kernel
theorem dL_act_182 : decode cL_act 182 = .ok (.aload_n 0, 1) := by decide +kernel
theorem dL_act_183 : decode cL_act 183 = .ok (.iload_n 3, 1) := by decide +kernel
theorem dL_act_184 : decode cL_act 184 = .ok (.bipush 6, 2) := by decide +kernel
theorem dL_act_186 : decode cL_act 186 = .ok (.invokestatic 64, 3) := by decide +kernel
theorem dL_act_189 : decode cL_act 189 = .ok (.iconst 1, 1) := by decide +kernel
theorem dL_act_190 : decode cL_act 190 = .ok (.iload 4, 2) := by decide +kernel
theorem dL_act_192 : decode cL_act 192 = .ok (.iconst 4, 1) := by decide +kernel
theorem dL_act_193 : decode cL_act 193 = .ok (.invokestatic 64, 3) := by decide +kernel
theorem dL_act_196 : decode cL_act 196 = .ok (.iadd, 1) := by decide +kernel
theorem dL_act_197 : decode cL_act 197 = .ok (.invokevirtual 80, 3) := by decide +kernel
theorem dL_act_200 : decode cL_act 200 = .ok (.ireturn, 1) := by decide +kernel
theorem dL_act_201 : decode cL_act 201 = .ok (.aload_n 0, 1) := by decide +kernel
theorem dL_act_202 : decode cL_act 202 = .ok (.iload 5, 2) := by decide +kernel
theorem dL_act_204 : decode cL_act 204 = .ok (.invokevirtual 83, 3) := by decide +kernel
theorem dL_act_207 : decode cL_act 207 = .ok (.ireturn, 1) := by decide +kernel
theorem dL_act_208 : decode cL_act 208 = .ok (.aload_n 0, 1) := by decide +kernel
theorem dL_act_209 : decode cL_act 209 = .ok (.iload 5, 2) := by decide +kernel
theorem dL_act_211 : decode cL_act 211 = .ok (.invokevirtual 86, 3) := by decide +kernel
theorem dL_act_214 : decode cL_act 214 = .ok (.ireturn, 1) := by decide +kernel
theorem dL_act_215 : decode cL_act 215 = .ok (.aload_n 0, 1) := by decide +kernel
theorem dL_act_216 : decode cL_act 216 = .ok (.iload_n 3, 1) := by decide +kernel
theorem dL_act_217 : decode cL_act 217 = .ok (.bipush 6, 2) := by decide +kernel
theorem dL_act_219 : decode cL_act 219 = .ok (.invokestatic 64, 3) := by decide +kernel
theorem dL_act_222 : decode cL_act 222 = .ok (.iconst 1, 1) := by decide +kernel
theorem dL_act_223 : decode cL_act 223 = .ok (.iload 4, 2) := by decide +kernel
theorem dL_act_225 : decode cL_act 225 = .ok (.ldc 89, 2) := by decide +kernel
theorem dL_act_227 : decode cL_act 227 = .ok (.invokestatic 64, 3) := by decide +kernel
theorem dL_act_230 : decode cL_act 230 = .ok (.iadd, 1) := by decide +kernel
theorem dL_act_231 : decode cL_act 231 = .ok (.iconst 1, 1) := by decide +kernel
theorem dL_act_232 : decode cL_act 232 = .ok (.iload 4, 2) := by decide +kernel
theorem dL_act_234 : decode cL_act 234 = .ok (.bipush 6, 2) := by decide +kernel
theorem dL_act_236 : decode cL_act 236 = .ok (.invokestatic 64, 3) := by decide +kernel
theorem dL_act_239 : decode cL_act 239 = .ok (.iadd, 1) := by decide +kernel
theorem dL_act_240 : decode cL_act 240 = .ok (.invokevirtual 90, 3) := by decide +kernel
theorem dL_act_243 : decode cL_act 243 = .ok (.ireturn, 1) := by decide +kernel
theorem dL_act_244 : decode cL_act 244 = .ok (.iload_n 3, 1) := by decide +kernel
theorem dL_act_245 : decode cL_act 245 = .ok (.iconst 2, 1) := by decide +kernel
theorem dL_act_246 : decode cL_act 246 = .ok (.invokestatic 64, 3) := by decide +kernel
theorem dL_act_249 : decode cL_act 249 = .ok (.ifCond .ne 24, 3) := by decide +kernel
theorem dL_act_252 : decode cL_act 252 = .ok (.aload_n 0, 1) := by decide +kernel
theorem dL_act_253 : decode cL_act 253 = .ok (.iload_n 3, 1) := by decide +kernel
theorem dL_act_254 : decode cL_act 254 = .ok (.iconst 5, 1) := by decide +kernel
theorem dL_act_255 : decode cL_act 255 = .ok (.invokestatic 64, 3) := by decide +kernel
theorem dL_act_258 : decode cL_act 258 = .ok (.iconst 1, 1) := by decide +kernel
theorem dL_act_259 : decode cL_act 259 = .ok (.iload 4, 2) := by decide +kernel
theorem dL_act_261 : decode cL_act 261 = .ok (.bipush 24, 2) := by decide +kernel
theorem dL_act_263 : decode cL_act 263 = .ok (.invokestatic 64, 3) := by decide +kernel
theorem dL_act_266 : decode cL_act 266 = .ok (.iadd, 1) := by decide +kernel
theorem dL_act_267 : decode cL_act 267 = .ok (.invokevirtual 94, 3) := by decide +kernel
theorem dL_act_270 : decode cL_act 270 = .ok (.goto 26, 3) := by decide +kernel
theorem dL_act_273 : decode cL_act 273 = .ok (.aload_n 0, 1) := by decide +kernel
theorem dL_act_274 : decode cL_act 274 = .ok (.iload_n 3, 1) := by decide +kernel
theorem dL_act_275 : decode cL_act 275 = .ok (.iconst 2, 1) := by decide +kernel
theorem dL_act_276 : decode cL_act 276 = .ok (.invokestatic 64, 3) := by decide +kernel
theorem dL_act_279 : decode cL_act 279 = .ok (.ldc 97, 2) := by decide +kernel
theorem dL_act_281 : decode cL_act 281 = .ok (.iload 4, 2) := by decide +kernel
theorem dL_act_283 : decode cL_act 283 = .ok (.sipush 180, 3) := by decide +kernel
theorem dL_act_286 : decode cL_act 286 = .ok (.invokestatic 64, 3) := by decide +kernel
theorem dL_act_289 : decode cL_act 289 = .ok (.bipush 16, 2) := by decide +kernel
theorem dL_act_291 : decode cL_act 291 = .ok (.ishl, 1) := by decide +kernel
theorem dL_act_292 : decode cL_act 292 = .ok (.iadd, 1) := by decide +kernel
theorem dL_act_293 : decode cL_act 293 = .ok (.invokevirtual 98, 3) := by decide +kernel
theorem dL_act_296 : decode cL_act 296 = .ok (.ireturn, 1) := by decide +kernel
theorem dL_act_297 : decode cL_act 297 = .ok (.aload_n 0, 1) := by decide +kernel
theorem dL_act_298 : decode cL_act 298 = .ok (.invokevirtual 101, 3) := by decide +kernel
theorem dL_act_301 : decode cL_act 301 = .ok (.ireturn, 1) := by decide +kernel
theorem dL_act_302 : decode cL_act 302 = .ok (.iload 4, 2) := by decide +kernel
theorem dL_act_304 : decode cL_act 304 = .ok (.iconst 2, 1) := by decide +kernel
theorem dL_act_305 : decode cL_act 305 = .ok (.invokestatic 64, 3) := by decide +kernel
theorem dL_act_308 : decode cL_act 308 = .ok (.ifCond .ne 10, 3) := by decide +kernel
theorem dL_act_311 : decode cL_act 311 = .ok (.aload_n 0, 1) := by decide +kernel
theorem dL_act_312 : decode cL_act 312 = .ok (.invokevirtual 105, 3) := by decide +kernel
theorem dL_act_315 : decode cL_act 315 = .ok (.goto 7, 3) := by decide +kernel
theorem dL_act_318 : decode cL_act 318 = .ok (.aload_n 0, 1) := by decide +kernel
theorem dL_act_319 : decode cL_act 319 = .ok (.invokevirtual 108, 3) := by decide +kernel
theorem dL_act_322 : decode cL_act 322 = .ok (.ireturn, 1) := by decide +kernel
theorem dL_act_323 : decode cL_act 323 = .ok (.aload_n 0, 1) := by decide +kernel
theorem dL_act_324 : decode cL_act 324 = .ok (.iconst 1, 1) := by decide +kernel
theorem dL_act_325 : decode cL_act 325 = .ok (.iload 4, 2) := by decide +kernel
theorem dL_act_327 : decode cL_act 327 = .ok (.iconst 5, 1) := by decide +kernel
theorem dL_act_328 : decode cL_act 328 = .ok (.invokestatic 64, 3) := by decide +kernel
theorem dL_act_331 : decode cL_act 331 = .ok (.iadd, 1) := by decide +kernel
theorem dL_act_332 : decode cL_act 332 = .ok (.invokevirtual 111, 3) := by decide +kernel
theorem dL_act_335 : decode cL_act 335 = .ok (.ireturn, 1) := by decide +kernel
theorem dL_law_0 : decode cL_law 0 = .ok (.new 16, 3) := by decide +kernel
theorem dL_law_3 : decode cL_law 3 = .ok (.dup, 1) := by decide +kernel
theorem dL_law_4 : decode cL_law 4 = .ok (.invokespecial 114, 3) := by decide +kernel
theorem dL_law_7 : decode cL_law 7 = .ok (.astore_n 1, 1) := by decide +kernel
theorem dL_law_8 : decode cL_law 8 = .ok (.iconst 1, 1) := by decide +kernel
theorem dL_law_9 : decode cL_law 9 = .ok (.istore_n 2, 1) := by decide +kernel
theorem dL_law_10 : decode cL_law 10 = .ok (.aload_n 0, 1) := by decide +kernel
theorem dL_law_11 : decode cL_law 11 = .ok (.arraylength, 1) := by decide +kernel
theorem dL_law_12 : decode cL_law 12 = .ok (.iconst 3, 1) := by decide +kernel
theorem dL_law_13 : decode cL_law 13 = .ok (.idiv, 1) := by decide +kernel
theorem dL_law_14 : decode cL_law 14 = .ok (.bipush 40, 2) := by decide +kernel
theorem dL_law_16 : decode cL_law 16 = .ok (.if_icmp .le 8, 3) := by decide +kernel
theorem dL_law_19 : decode cL_law 19 = .ok (.bipush 40, 2) := by decide +kernel
theorem dL_law_21 : decode cL_law 21 = .ok (.goto 7, 3) := by decide +kernel
theorem dL_law_24 : decode cL_law 24 = .ok (.aload_n 0, 1) := by decide +kernel
theorem dL_law_25 : decode cL_law 25 = .ok (.arraylength, 1) := by decide +kernel
theorem dL_law_26 : decode cL_law 26 = .ok (.iconst 3, 1) := by decide +kernel
theorem dL_law_27 : decode cL_law 27 = .ok (.idiv, 1) := by decide +kernel
theorem dL_law_28 : decode cL_law 28 = .ok (.istore_n 3, 1) := by decide +kernel
theorem dL_law_29 : decode cL_law 29 = .ok (.iconst 0, 1) := by decide +kernel
theorem dL_law_30 : decode cL_law 30 = .ok (.istore 4, 2) := by decide +kernel
theorem dL_law_32 : decode cL_law 32 = .ok (.iload 4, 2) := by decide +kernel
theorem dL_law_34 : decode cL_law 34 = .ok (.iload_n 3, 1) := by decide +kernel
theorem dL_law_35 : decode cL_law 35 = .ok (.if_icmp .ge 231, 3) := by decide +kernel
theorem dL_law_38 : decode cL_law 38 = .ok (.iload_n 2, 1) := by decide +kernel
theorem dL_law_39 : decode cL_law 39 = .ok (.ifCond .eq 227, 3) := by decide +kernel
theorem dL_law_42 : decode cL_law 42 = .ok (.aload_n 1, 1) := by decide +kernel
theorem dL_law_43 : decode cL_law 43 = .ok (.bipush 16, 2) := by decide +kernel
theorem dL_law_45 : decode cL_law 45 = .ok (.invokevirtual 35, 3) := by decide +kernel
theorem dL_law_48 : decode cL_law 48 = .ok (.istore 5, 2) := by decide +kernel
theorem dL_law_50 : decode cL_law 50 = .ok (.aload_n 1, 1) := by decide +kernel
theorem dL_law_51 : decode cL_law 51 = .ok (.iconst 0, 1) := by decide +kernel
theorem dL_law_52 : decode cL_law 52 = .ok (.invokevirtual 35, 3) := by decide +kernel
theorem dL_law_55 : decode cL_law 55 = .ok (.istore 6, 2) := by decide +kernel
theorem dL_law_57 : decode cL_law 57 = .ok (.aload_n 1, 1) := by decide +kernel
theorem dL_law_58 : decode cL_law 58 = .ok (.iconst 1, 1) := by decide +kernel
theorem dL_law_59 : decode cL_law 59 = .ok (.invokevirtual 35, 3) := by decide +kernel
theorem dL_law_62 : decode cL_law 62 = .ok (.istore 7, 2) := by decide +kernel
theorem dL_law_64 : decode cL_law 64 = .ok (.aload_n 0, 1) := by decide +kernel
theorem dL_law_65 : decode cL_law 65 = .ok (.iconst 3, 1) := by decide +kernel
theorem dL_law_66 : decode cL_law 66 = .ok (.iload 4, 2) := by decide +kernel
theorem dL_law_68 : decode cL_law 68 = .ok (.imul, 1) := by decide +kernel
theorem dL_law_69 : decode cL_law 69 = .ok (.iconst 1, 1) := by decide +kernel
theorem dL_law_70 : decode cL_law 70 = .ok (.iadd, 1) := by decide +kernel
theorem dL_law_71 : decode cL_law 71 = .ok (.invokestatic 60, 3) := by decide +kernel
theorem dL_law_74 : decode cL_law 74 = .ok (.bipush 10, 2) := by decide +kernel
theorem dL_law_76 : decode cL_law 76 = .ok (.invokestatic 64, 3) := by decide +kernel
theorem dL_law_79 : decode cL_law 79 = .ok (.istore 8, 2) := by decide +kernel
theorem dL_law_81 : decode cL_law 81 = .ok (.aload_n 1, 1) := by decide +kernel
theorem dL_law_82 : decode cL_law 82 = .ok (.iload 8, 2) := by decide +kernel
theorem dL_law_84 : decode cL_law 84 = .ok (.invokevirtual 44, 3) := by decide +kernel
theorem dL_law_87 : decode cL_law 87 = .ok (.istore 9, 2) := by decide +kernel
theorem dL_law_89 : decode cL_law 89 = .ok (.aload_n 1, 1) := by decide +kernel
theorem dL_law_90 : decode cL_law 90 = .ok (.aload_n 0, 1) := by decide +kernel
theorem dL_law_91 : decode cL_law 91 = .ok (.iconst 3, 1) := by decide +kernel
theorem dL_law_92 : decode cL_law 92 = .ok (.iload 4, 2) := by decide +kernel
theorem dL_law_94 : decode cL_law 94 = .ok (.imul, 1) := by decide +kernel
theorem dL_law_95 : decode cL_law 95 = .ok (.invokestatic 115, 3) := by decide +kernel
theorem dL_law_98 : decode cL_law 98 = .ok (.istore 10, 2) := by decide +kernel
theorem dL_law_100 : decode cL_law 100 = .ok (.iload 10, 2) := by decide +kernel
theorem dL_law_102 : decode cL_law 102 = .ok (.ifCond .ge 34, 3) := by decide +kernel
theorem dL_law_105 : decode cL_law 105 = .ok (.aload_n 1, 1) := by decide +kernel
theorem dL_law_106 : decode cL_law 106 = .ok (.bipush 16, 2) := by decide +kernel
theorem dL_law_108 : decode cL_law 108 = .ok (.invokevirtual 35, 3) := by decide +kernel
theorem dL_law_111 : decode cL_law 111 = .ok (.iload 5, 2) := by decide +kernel
theorem dL_law_113 : decode cL_law 113 = .ok (.if_icmp .ne 27, 3) := by decide +kernel
theorem dL_law_116 : decode cL_law 116 = .ok (.aload_n 1, 1) := by decide +kernel
theorem dL_law_117 : decode cL_law 117 = .ok (.iconst 0, 1) := by decide +kernel
theorem dL_law_118 : decode cL_law 118 = .ok (.invokevirtual 35, 3) := by decide +kernel
theorem dL_law_121 : decode cL_law 121 = .ok (.iload 6, 2) := by decide +kernel
theorem dL_law_123 : decode cL_law 123 = .ok (.if_icmp .ne 17, 3) := by decide +kernel
theorem dL_law_126 : decode cL_law 126 = .ok (.aload_n 1, 1) := by decide +kernel
theorem dL_law_127 : decode cL_law 127 = .ok (.iconst 1, 1) := by decide +kernel
theorem dL_law_128 : decode cL_law 128 = .ok (.invokevirtual 35, 3) := by decide +kernel
theorem dL_law_131 : decode cL_law 131 = .ok (.iload 7, 2) := by decide +kernel
theorem dL_law_133 : decode cL_law 133 = .ok (.if_icmp .ne 7, 3) := by decide +kernel
theorem dL_law_136 : decode cL_law 136 = .ok (.iconst 1, 1) := by decide +kernel
theorem dL_law_137 : decode cL_law 137 = .ok (.goto 4, 3) := by decide +kernel
theorem dL_law_140 : decode cL_law 140 = .ok (.iconst 0, 1) := by decide +kernel
theorem dL_law_141 : decode cL_law 141 = .ok (.istore_n 2, 1) := by decide +kernel
theorem dL_law_142 : decode cL_law 142 = .ok (.aload_n 0, 1) := by decide +kernel
theorem dL_law_143 : decode cL_law 143 = .ok (.iconst 3, 1) := by decide +kernel
theorem dL_law_144 : decode cL_law 144 = .ok (.iload 4, 2) := by decide +kernel
theorem dL_law_146 : decode cL_law 146 = .ok (.imul, 1) := by decide +kernel
theorem dL_law_147 : decode cL_law 147 = .ok (.invokestatic 60, 3) := by decide +kernel
theorem dL_law_150 : decode cL_law 150 = .ok (.bipush 22, 2) := by decide +kernel
theorem dL_law_152 : decode cL_law 152 = .ok (.invokestatic 64, 3) := by decide +kernel
theorem dL_law_155 : decode cL_law 155 = .ok (.bipush 18, 2) := by decide +kernel
theorem dL_law_157 : decode cL_law 157 = .ok (.if_icmp .le 86, 3) := by decide +kernel
theorem dL_law_160 : decode cL_law 160 = .ok (.iconst 1, 1) := by decide +kernel
theorem dL_law_161 : decode cL_law 161 = .ok (.aload_n 0, 1) := by decide +kernel
theorem dL_law_162 : decode cL_law 162 = .ok (.iconst 3, 1) := by decide +kernel
theorem dL_law_163 : decode cL_law 163 = .ok (.iload 4, 2) := by decide +kernel
theorem dL_law_165 : decode cL_law 165 = .ok (.imul, 1) := by decide +kernel
theorem dL_law_166 : decode cL_law 166 = .ok (.iconst 2, 1) := by decide +kernel
theorem dL_law_167 : decode cL_law 167 = .ok (.iadd, 1) := by decide +kernel
theorem dL_law_168 : decode cL_law 168 = .ok (.invokestatic 60, 3) := by decide +kernel
theorem dL_law_171 : decode cL_law 171 = .ok (.iconst 5, 1) := by decide +kernel
theorem dL_law_172 : decode cL_law 172 = .ok (.invokestatic 64, 3) := by decide +kernel
theorem dL_law_175 : decode cL_law 175 = .ok (.iadd, 1) := by decide +kernel
theorem dL_law_176 : decode cL_law 176 = .ok (.istore 11, 2) := by decide +kernel
theorem dL_law_178 : decode cL_law 178 = .ok (.iload_n 2, 1) := by decide +kernel
theorem dL_law_179 : decode cL_law 179 = .ok (.ifCond .eq 62, 3) := by decide +kernel
theorem dL_law_182 : decode cL_law 182 = .ok (.iload 10, 2) := by decide +kernel
theorem dL_law_184 : decode cL_law 184 = .ok (.ifCond .lt 57, 3) := by decide +kernel
theorem dL_law_187 : decode cL_law 187 = .ok (.aload_n 1, 1) := by decide +kernel
theorem dL_law_188 : decode cL_law 188 = .ok (.iconst 0, 1) := by decide +kernel
theorem dL_law_189 : decode cL_law 189 = .ok (.invokevirtual 35, 3) := by decide +kernel
theorem dL_law_192 : decode cL_law 192 = .ok (.iload 6, 2) := by decide +kernel
theorem dL_law_194 : decode cL_law 194 = .ok (.iload 11, 2) := by decide +kernel
theorem dL_law_196 : decode cL_law 196 = .ok (.iadd, 1) := by decide +kernel
theorem dL_law_197 : decode cL_law 197 = .ok (.if_icmp .ne 44, 3) := by decide +kernel
theorem dL_law_200 : decode cL_law 200 = .ok (.iload 9, 2) := by decide +kernel
theorem dL_law_202 : decode cL_law 202 = .ok (.ifCond .lt 35, 3) := by decide +kernel
theorem dL_law_205 : decode cL_law 205 = .ok (.aload_n 1, 1) := by decide +kernel
theorem dL_law_206 : decode cL_law 206 = .ok (.iload 8, 2) := by decide +kernel
theorem dL_law_208 : decode cL_law 208 = .ok (.bipush 6, 2) := by decide +kernel
theorem dL_law_210 : decode cL_law 210 = .ok (.invokevirtual 38, 3) := by decide +kernel
theorem dL_law_213 : decode cL_law 213 = .ok (.iconst 3, 1) := by decide +kernel
theorem dL_law_214 : decode cL_law 214 = .ok (.if_icmp .le 7, 3) := by decide +kernel
theorem dL_law_217 : decode cL_law 217 = .ok (.iconst 1, 1) := by decide +kernel
theorem dL_law_218 : decode cL_law 218 = .ok (.goto 4, 3) := by decide +kernel
theorem dL_law_221 : decode cL_law 221 = .ok (.iconst 0, 1) := by decide +kernel
theorem dL_law_222 : decode cL_law 222 = .ok (.iload 9, 2) := by decide +kernel
theorem dL_law_224 : decode cL_law 224 = .ok (.iload 11, 2) := by decide +kernel
theorem dL_law_226 : decode cL_law 226 = .ok (.if_icmp .gt 7, 3) := by decide +kernel
theorem dL_law_229 : decode cL_law 229 = .ok (.iconst 1, 1) := by decide +kernel
theorem dL_law_230 : decode cL_law 230 = .ok (.goto 4, 3) := by decide +kernel
theorem dL_law_233 : decode cL_law 233 = .ok (.iconst 0, 1) := by decide +kernel
theorem dL_law_234 : decode cL_law 234 = .ok (.if_icmp .ne 7, 3) := by decide +kernel
theorem dL_law_237 : decode cL_law 237 = .ok (.iconst 1, 1) := by decide +kernel
theorem dL_law_238 : decode cL_law 238 = .ok (.goto 4, 3) := by decide +kernel
theorem dL_law_241 : decode cL_law 241 = .ok (.iconst 0, 1) := by decide +kernel
theorem dL_law_242 : decode cL_law 242 = .ok (.istore_n 2, 1) := by decide +kernel
theorem dL_law_243 : decode cL_law 243 = .ok (.iload_n 2, 1) := by decide +kernel
theorem dL_law_244 : decode cL_law 244 = .ok (.ifCond .eq 14, 3) := by decide +kernel
theorem dL_law_247 : decode cL_law 247 = .ok (.aload_n 1, 1) := by decide +kernel
theorem dL_law_248 : decode cL_law 248 = .ok (.invokestatic 119, 3) := by decide +kernel
theorem dL_law_251 : decode cL_law 251 = .ok (.ifCond .eq 7, 3) := by decide +kernel
theorem dL_law_254 : decode cL_law 254 = .ok (.iconst 1, 1) := by decide +kernel
theorem dL_law_255 : decode cL_law 255 = .ok (.goto 4, 3) := by decide +kernel
theorem dL_law_258 : decode cL_law 258 = .ok (.iconst 0, 1) := by decide +kernel
theorem dL_law_259 : decode cL_law 259 = .ok (.istore_n 2, 1) := by decide +kernel
theorem dL_law_260 : decode cL_law 260 = .ok (.iinc 4 1, 3) := by decide +kernel
theorem dL_law_263 : decode cL_law 263 = .ok (.goto (-231), 3) := by decide +kernel
theorem dL_law_266 : decode cL_law 266 = .ok (.iload_n 2, 1) := by decide +kernel
theorem dL_law_267 : decode cL_law 267 = .ok (.ireturn, 1) := by decide +kernel
