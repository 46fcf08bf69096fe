theorem dX10_blockingPairs_16 : decode cX10_blockingPairs 16 = .ok (.istore_n 3, 1) := by decide +kernel
theorem dX10_blockingPairs_17 : decode cX10_blockingPairs 17 = .ok (.iload_n 3, 1) := by decide +kernel
theorem dX10_blockingPairs_18 : decode cX10_blockingPairs 18 = .ok (.aload_n 0, 1) := by decide +kernel
theorem dX10_blockingPairs_19 : decode cX10_blockingPairs 19 = .ok (.getfield 31, 3) := by decide +kernel
theorem dX10_blockingPairs_22 : decode cX10_blockingPairs 22 = .ok (.getfield 133, 3) := by decide +kernel
theorem dX10_blockingPairs_25 : decode cX10_blockingPairs 25 = .ok (.if_icmp .ge 24, 3) := by decide +kernel
theorem dX10_blockingPairs_28 : decode cX10_blockingPairs 28 = .ok (.aload_n 0, 1) := by decide +kernel
theorem dX10_blockingPairs_29 : decode cX10_blockingPairs 29 = .ok (.getfield 31, 3) := by decide +kernel
theorem dX10_blockingPairs_32 : decode cX10_blockingPairs 32 = .ok (.iload_n 2, 1) := by decide +kernel
theorem dX10_blockingPairs_33 : decode cX10_blockingPairs 33 = .ok (.iload_n 3, 1) := by decide +kernel
theorem dX10_blockingPairs_34 : decode cX10_blockingPairs 34 = .ok (.invokevirtual 266, 3) := by decide +kernel
theorem dX10_blockingPairs_37 : decode cX10_blockingPairs 37 = .ok (.ifCond .eq 6, 3) := by decide +kernel
theorem dX10_blockingPairs_40 : decode cX10_blockingPairs 40 = .ok (.iinc 1 1, 3) := by decide +kernel
theorem dX10_blockingPairs_43 : decode cX10_blockingPairs 43 = .ok (.iinc 3 1, 3) := by decide +kernel
theorem dX10_blockingPairs_46 : decode cX10_blockingPairs 46 = .ok (.goto (-29), 3) := by decide +kernel
theorem dX10_blockingPairs_49 : decode cX10_blockingPairs 49 = .ok (.iinc 2 1, 3) := by decide +kernel
theorem dX10_blockingPairs_52 : decode cX10_blockingPairs 52 = .ok (.goto (-48), 3) := by decide +kernel
theorem dX10_blockingPairs_55 : decode cX10_blockingPairs 55 = .ok (.iload_n 1, 1) := by decide +kernel
theorem dX10_blockingPairs_56 : decode cX10_blockingPairs 56 = .ok (.ireturn, 1) := by decide +kernel
theorem dX10_fairResult_0 : decode cX10_fairResult 0 = .ok (.aload_n 0, 1) := by decide +kernel
theorem dX10_fairResult_1 : decode cX10_fairResult 1 = .ok (.iload_n 1, 1) := by decide +kernel
theorem dX10_fairResult_2 : decode cX10_fairResult 2 = .ok (.invokevirtual 250, 3) := by decide +kernel
theorem dX10_fairResult_5 : decode cX10_fairResult 5 = .ok (.aload_n 0, 1) := by decide +kernel
theorem dX10_fairResult_6 : decode cX10_fairResult 6 = .ok (.getfield 35, 3) := by decide +kernel
theorem dX10_fairResult_9 : decode cX10_fairResult 9 = .ok (.aload_n 0, 1) := by decide +kernel
theorem dX10_fairResult_10 : decode cX10_fairResult 10 = .ok (.getfield 31, 3) := by decide +kernel
theorem dX10_fairResult_13 : decode cX10_fairResult 13 = .ok (.invokevirtual 269, 3) := by decide +kernel
theorem dX10_fairResult_16 : decode cX10_fairResult 16 = .ok (.aload_n 0, 1) := by decide +kernel
theorem dX10_fairResult_17 : decode cX10_fairResult 17 = .ok (.getfield 54, 3) := by decide +kernel
theorem dX10_fairResult_20 : decode cX10_fairResult 20 = .ok (.aload_n 0, 1) := by decide +kernel
theorem dX10_fairResult_21 : decode cX10_fairResult 21 = .ok (.getfield 35, 3) := by decide +kernel
theorem dX10_fairResult_24 : decode cX10_fairResult 24 = .ok (.invokevirtual 272, 3) := by decide +kernel
theorem dX10_fairResult_27 : decode cX10_fairResult 27 = .ok (.pop, 1) := by decide +kernel
theorem dX10_fairResult_28 : decode cX10_fairResult 28 = .ok (.aload_n 0, 1) := by decide +kernel
theorem dX10_fairResult_29 : decode cX10_fairResult 29 = .ok (.getfield 35, 3) := by decide +kernel
theorem dX10_fairResult_32 : decode cX10_fairResult 32 = .ok (.getfield 276, 3) := by decide +kernel
theorem dX10_fairResult_35 : decode cX10_fairResult 35 = .ok (.iload_n 1, 1) := by decide +kernel
theorem dX10_fairResult_36 : decode cX10_fairResult 36 = .ok (.aaload, 1) := by decide +kernel
theorem dX10_fairResult_37 : decode cX10_fairResult 37 = .ok (.getfield 203, 3) := by decide +kernel
theorem dX10_fairResult_40 : decode cX10_fairResult 40 = .ok (.ireturn, 1) := by decide +kernel
theorem dX10_savingsAfter_0 : decode cX10_savingsAfter 0 = .ok (.aload_n 0, 1) := by decide +kernel
theorem dX10_savingsAfter_1 : decode cX10_savingsAfter 1 = .ok (.iload_n 1, 1) := by decide +kernel
theorem dX10_savingsAfter_2 : decode cX10_savingsAfter 2 = .ok (.invokevirtual 250, 3) := by decide +kernel
theorem dX10_savingsAfter_5 : decode cX10_savingsAfter 5 = .ok (.aload_n 0, 1) := by decide +kernel
theorem dX10_savingsAfter_6 : decode cX10_savingsAfter 6 = .ok (.iload_n 2, 1) := by decide +kernel
theorem dX10_savingsAfter_7 : decode cX10_savingsAfter 7 = .ok (.invokevirtual 280, 3) := by decide +kernel
theorem dX10_savingsAfter_10 : decode cX10_savingsAfter 10 = .ok (.aload_n 0, 1) := by decide +kernel
theorem dX10_savingsAfter_11 : decode cX10_savingsAfter 11 = .ok (.getfield 35, 3) := by decide +kernel
theorem dX10_savingsAfter_14 : decode cX10_savingsAfter 14 = .ok (.getfield 276, 3) := by decide +kernel
theorem dX10_savingsAfter_17 : decode cX10_savingsAfter 17 = .ok (.iload_n 1, 1) := by decide +kernel
theorem dX10_savingsAfter_18 : decode cX10_savingsAfter 18 = .ok (.aaload, 1) := by decide +kernel
theorem dX10_savingsAfter_19 : decode cX10_savingsAfter 19 = .ok (.getfield 197, 3) := by decide +kernel
theorem dX10_savingsAfter_22 : decode cX10_savingsAfter 22 = .ok (.ireturn, 1) := by decide +kernel
theorem dX10_purseAfter_0 : decode cX10_purseAfter 0 = .ok (.aload_n 0, 1) := by decide +kernel
theorem dX10_purseAfter_1 : decode cX10_purseAfter 1 = .ok (.iload_n 1, 1) := by decide +kernel
theorem dX10_purseAfter_2 : decode cX10_purseAfter 2 = .ok (.invokevirtual 260, 3) := by decide +kernel
theorem dX10_purseAfter_5 : decode cX10_purseAfter 5 = .ok (.aload_n 0, 1) := by decide +kernel
theorem dX10_purseAfter_6 : decode cX10_purseAfter 6 = .ok (.iload_n 2, 1) := by decide +kernel
theorem dX10_purseAfter_7 : decode cX10_purseAfter 7 = .ok (.invokevirtual 280, 3) := by decide +kernel
theorem dX10_purseAfter_10 : decode cX10_purseAfter 10 = .ok (.aload_n 0, 1) := by decide +kernel
theorem dX10_purseAfter_11 : decode cX10_purseAfter 11 = .ok (.getfield 35, 3) := by decide +kernel
theorem dX10_purseAfter_14 : decode cX10_purseAfter 14 = .ok (.getfield 235, 3) := by decide +kernel
theorem dX10_purseAfter_17 : decode cX10_purseAfter 17 = .ok (.iload_n 1, 1) := by decide +kernel
theorem dX10_purseAfter_18 : decode cX10_purseAfter 18 = .ok (.aaload, 1) := by decide +kernel
theorem dX10_purseAfter_19 : decode cX10_purseAfter 19 = .ok (.getfield 221, 3) := by decide +kernel
theorem dX10_purseAfter_22 : decode cX10_purseAfter 22 = .ok (.ireturn, 1) := by decide +kernel
theorem dX10_desertsIn_0 : decode cX10_desertsIn 0 = .ok (.aload_n 0, 1) := by decide +kernel
theorem dX10_desertsIn_1 : decode cX10_desertsIn 1 = .ok (.iload_n 1, 1) := by decide +kernel
theorem dX10_desertsIn_2 : decode cX10_desertsIn 2 = .ok (.invokevirtual 250, 3) := by decide +kernel
theorem dX10_desertsIn_5 : decode cX10_desertsIn 5 = .ok (.aload_n 0, 1) := by decide +kernel
theorem dX10_desertsIn_6 : decode cX10_desertsIn 6 = .ok (.getfield 35, 3) := by decide +kernel
theorem dX10_desertsIn_9 : decode cX10_desertsIn 9 = .ok (.aload_n 0, 1) := by decide +kernel
theorem dX10_desertsIn_10 : decode cX10_desertsIn 10 = .ok (.getfield 31, 3) := by decide +kernel
theorem dX10_desertsIn_13 : decode cX10_desertsIn 13 = .ok (.invokevirtual 269, 3) := by decide +kernel
theorem dX10_desertsIn_16 : decode cX10_desertsIn 16 = .ok (.aload_n 0, 1) := by decide +kernel
theorem dX10_desertsIn_17 : decode cX10_desertsIn 17 = .ok (.getfield 31, 3) := by decide +kernel
theorem dX10_desertsIn_20 : decode cX10_desertsIn 20 = .ok (.getfield 276, 3) := by decide +kernel
theorem dX10_desertsIn_23 : decode cX10_desertsIn 23 = .ok (.iload_n 1, 1) := by decide +kernel
theorem dX10_desertsIn_24 : decode cX10_desertsIn 24 = .ok (.aaload, 1) := by decide +kernel
theorem dX10_desertsIn_25 : decode cX10_desertsIn 25 = .ok (.getfield 283, 3) := by decide +kernel
theorem dX10_desertsIn_28 : decode cX10_desertsIn 28 = .ok (.istore_n 2, 1) := by decide +kernel
theorem dX10_desertsIn_29 : decode cX10_desertsIn 29 = .ok (.iconst 1, 1) := by decide +kernel
theorem dX10_desertsIn_30 : decode cX10_desertsIn 30 = .ok (.istore_n 3, 1) := by decide +kernel
theorem dX10_desertsIn_31 : decode cX10_desertsIn 31 = .ok (.iload_n 3, 1) := by decide +kernel
theorem dX10_desertsIn_32 : decode cX10_desertsIn 32 = .ok (.bipush 120, 2) := by decide +kernel
theorem dX10_desertsIn_34 : decode cX10_desertsIn 34 = .ok (.if_icmp .gt 37, 3) := by decide +kernel
theorem dX10_desertsIn_37 : decode cX10_desertsIn 37 = .ok (.aload_n 0, 1) := by decide +kernel
theorem dX10_desertsIn_38 : decode cX10_desertsIn 38 = .ok (.aload_n 0, 1) := by decide +kernel
theorem dX10_desertsIn_39 : decode cX10_desertsIn 39 = .ok (.getfield 35, 3) := by decide +kernel
theorem dX10_desertsIn_42 : decode cX10_desertsIn 42 = .ok (.iconst 1, 1) := by decide +kernel
theorem dX10_desertsIn_43 : decode cX10_desertsIn 43 = .ok (.invokevirtual 286, 3) := by decide +kernel
theorem dX10_desertsIn_46 : decode cX10_desertsIn 46 = .ok (.pop, 1) := by decide +kernel
theorem dX10_desertsIn_47 : decode cX10_desertsIn 47 = .ok (.aload_n 0, 1) := by decide +kernel
theorem dX10_desertsIn_48 : decode cX10_desertsIn 48 = .ok (.getfield 35, 3) := by decide +kernel
theorem dX10_desertsIn_51 : decode cX10_desertsIn 51 = .ok (.getfield 276, 3) := by decide +kernel
theorem dX10_desertsIn_54 : decode cX10_desertsIn 54 = .ok (.iload_n 1, 1) := by decide +kernel
theorem dX10_desertsIn_55 : decode cX10_desertsIn 55 = .ok (.aaload, 1) := by decide +kernel
theorem dX10_desertsIn_56 : decode cX10_desertsIn 56 = .ok (.getfield 283, 3) := by decide +kernel
theorem dX10_desertsIn_59 : decode cX10_desertsIn 59 = .ok (.iload_n 2, 1) := by decide +kernel
theorem dX10_desertsIn_60 : decode cX10_desertsIn 60 = .ok (.if_icmp .eq 5, 3) := by decide +kernel
theorem dX10_desertsIn_63 : decode cX10_desertsIn 63 = .ok (.iload_n 3, 1) := by decide +kernel
theorem dX10_desertsIn_64 : decode cX10_desertsIn 64 = .ok (.ireturn, 1) := by decide +kernel
theorem dX10_desertsIn_65 : decode cX10_desertsIn 65 = .ok (.iinc 3 1, 3) := by decide +kernel
theorem dX10_desertsIn_68 : decode cX10_desertsIn 68 = .ok (.goto (-37), 3) := by decide +kernel
theorem dX10_desertsIn_71 : decode cX10_desertsIn 71 = .ok (.iconst (-1), 1) := by decide +kernel
theorem dX10_desertsIn_72 : decode cX10_desertsIn 72 = .ok (.ireturn, 1) := by decide +kernel
theorem dX10_leastWage_0 : decode cX10_leastWage 0 = .ok (.aload_n 0, 1) := by decide +kernel
theorem dX10_leastWage_1 : decode cX10_leastWage 1 = .ok (.iload_n 1, 1) := by decide +kernel
theorem dX10_leastWage_2 : decode cX10_leastWage 2 = .ok (.iload_n 2, 1) := by decide +kernel
theorem dX10_leastWage_3 : decode cX10_leastWage 3 = .ok (.invokevirtual 231, 3) := by decide +kernel
theorem dX10_leastWage_6 : decode cX10_leastWage 6 = .ok (.iconst 1, 1) := by decide +kernel
theorem dX10_leastWage_7 : decode cX10_leastWage 7 = .ok (.istore_n 3, 1) := by decide +kernel
theorem dX10_leastWage_8 : decode cX10_leastWage 8 = .ok (.iload_n 3, 1) := by decide +kernel
theorem dX10_leastWage_9 : decode cX10_leastWage 9 = .ok (.bipush 99, 2) := by decide +kernel
theorem dX10_leastWage_11 : decode cX10_leastWage 11 = .ok (.if_icmp .gt 63, 3) := by decide +kernel
theorem dX10_leastWage_14 : decode cX10_leastWage 14 = .ok (.aload_n 0, 1) := by decide +kernel
theorem dX10_leastWage_15 : decode cX10_leastWage 15 = .ok (.getfield 35, 3) := by decide +kernel
theorem dX10_leastWage_18 : decode cX10_leastWage 18 = .ok (.aload_n 0, 1) := by decide +kernel
theorem dX10_leastWage_19 : decode cX10_leastWage 19 = .ok (.getfield 31, 3) := by decide +kernel
theorem dX10_leastWage_22 : decode cX10_leastWage 22 = .ok (.invokevirtual 269, 3) := by decide +kernel
theorem dX10_leastWage_25 : decode cX10_leastWage 25 = .ok (.aload_n 0, 1) := by decide +kernel
theorem dX10_leastWage_26 : decode cX10_leastWage 26 = .ok (.getfield 35, 3) := by decide +kernel
theorem dX10_leastWage_29 : decode cX10_leastWage 29 = .ok (.getfield 235, 3) := by decide +kernel
theorem dX10_leastWage_32 : decode cX10_leastWage 32 = .ok (.iload_n 1, 1) := by decide +kernel
theorem dX10_leastWage_33 : decode cX10_leastWage 33 = .ok (.aaload, 1) := by decide +kernel
theorem dX10_leastWage_34 : decode cX10_leastWage 34 = .ok (.iload_n 3, 1) := by decide +kernel
theorem dX10_leastWage_35 : decode cX10_leastWage 35 = .ok (.putfield 218, 3) := by decide +kernel
theorem dX10_leastWage_38 : decode cX10_leastWage 38 = .ok (.aload_n 0, 1) := by decide +kernel
theorem dX10_leastWage_39 : decode cX10_leastWage 39 = .ok (.getfield 54, 3) := by decide +kernel
theorem dX10_leastWage_42 : decode cX10_leastWage 42 = .ok (.aload_n 0, 1) := by decide +kernel
theorem dX10_leastWage_43 : decode cX10_leastWage 43 = .ok (.getfield 35, 3) := by decide +kernel
theorem dX10_leastWage_46 : decode cX10_leastWage 46 = .ok (.invokevirtual 272, 3) := by decide +kernel
theorem dX10_leastWage_49 : decode cX10_leastWage 49 = .ok (.pop, 1) := by decide +kernel
theorem dX10_leastWage_50 : decode cX10_leastWage 50 = .ok (.aload_n 0, 1) := by decide +kernel
theorem dX10_leastWage_51 : decode cX10_leastWage 51 = .ok (.getfield 35, 3) := by decide +kernel
theorem dX10_leastWage_54 : decode cX10_leastWage 54 = .ok (.getfield 276, 3) := by decide +kernel
theorem dX10_leastWage_57 : decode cX10_leastWage 57 = .ok (.iload_n 2, 1) := by decide +kernel
theorem dX10_leastWage_58 : decode cX10_leastWage 58 = .ok (.aaload, 1) := by decide +kernel
theorem dX10_leastWage_59 : decode cX10_leastWage 59 = .ok (.getfield 203, 3) := by decide +kernel
theorem dX10_leastWage_62 : decode cX10_leastWage 62 = .ok (.iload_n 1, 1) := by decide +kernel
theorem dX10_leastWage_63 : decode cX10_leastWage 63 = .ok (.if_icmp .ne 5, 3) := by decide +kernel
theorem dX10_leastWage_66 : decode cX10_leastWage 66 = .ok (.iload_n 3, 1) := by decide +kernel
theorem dX10_leastWage_67 : decode cX10_leastWage 67 = .ok (.ireturn, 1) := by decide +kernel
theorem dX10_leastWage_68 : decode cX10_leastWage 68 = .ok (.iinc 3 1, 3) := by decide +kernel
theorem dX10_leastWage_71 : decode cX10_leastWage 71 = .ok (.goto (-63), 3) := by decide +kernel
theorem dX10_leastWage_74 : decode cX10_leastWage 74 = .ok (.iconst (-1), 1) := by decide +kernel
theorem dX10_leastWage_75 : decode cX10_leastWage 75 = .ok (.ireturn, 1) := by decide +kernel
theorem dX10_bestTest_0 : decode cX10_bestTest 0 = .ok (.aload_n 0, 1) := by decide +kernel
theorem dX10_bestTest_1 : decode cX10_bestTest 1 = .ok (.iload_n 1, 1) := by decide +kernel
theorem dX10_bestTest_2 : decode cX10_bestTest 2 = .ok (.invokevirtual 260, 3) := by decide +kernel
theorem dX10_bestTest_5 : decode cX10_bestTest 5 = .ok (.iconst (-1), 1) := by decide +kernel
theorem dX10_bestTest_6 : decode cX10_bestTest 6 = .ok (.istore_n 2, 1) := by decide +kernel
theorem dX10_bestTest_7 : decode cX10_bestTest 7 = .ok (.iconst 0, 1) := by decide +kernel
theorem dX10_bestTest_8 : decode cX10_bestTest 8 = .ok (.istore_n 3, 1) := by decide +kernel
theorem dX10_bestTest_9 : decode cX10_bestTest 9 = .ok (.iconst 0, 1) := by decide +kernel
theorem dX10_bestTest_10 : decode cX10_bestTest 10 = .ok (.istore 4, 2) := by decide +kernel
theorem dX10_bestTest_12 : decode cX10_bestTest 12 = .ok (.iload 4, 2) := by decide +kernel
theorem dX10_bestTest_14 : decode cX10_bestTest 14 = .ok (.aload_n 0, 1) := by decide +kernel
theorem dX10_bestTest_15 : decode cX10_bestTest 15 = .ok (.getfield 31, 3) := by decide +kernel
theorem dX10_bestTest_18 : decode cX10_bestTest 18 = .ok (.getfield 133, 3) := by decide +kernel
theorem dX10_bestTest_21 : decode cX10_bestTest 21 = .ok (.if_icmp .ge 51, 3) := by decide +kernel
theorem dX10_bestTest_24 : decode cX10_bestTest 24 = .ok (.aload_n 0, 1) := by decide +kernel
theorem dX10_bestTest_25 : decode cX10_bestTest 25 = .ok (.getfield 31, 3) := by decide +kernel
theorem dX10_bestTest_28 : decode cX10_bestTest 28 = .ok (.iload_n 1, 1) := by decide +kernel
theorem dX10_bestTest_29 : decode cX10_bestTest 29 = .ok (.iload 4, 2) := by decide +kernel
theorem dX10_bestTest_31 : decode cX10_bestTest 31 = .ok (.invokevirtual 290, 3) := by decide +kernel
theorem dX10_bestTest_34 : decode cX10_bestTest 34 = .ok (.istore 5, 2) := by decide +kernel
theorem dX10_bestTest_36 : decode cX10_bestTest 36 = .ok (.aload_n 0, 1) := by decide +kernel
theorem dX10_bestTest_37 : decode cX10_bestTest 37 = .ok (.getfield 31, 3) := by decide +kernel
theorem dX10_bestTest_40 : decode cX10_bestTest 40 = .ok (.iload_n 1, 1) := by decide +kernel
theorem dX10_bestTest_41 : decode cX10_bestTest 41 = .ok (.iload 4, 2) := by decide +kernel
theorem dX10_bestTest_43 : decode cX10_bestTest 43 = .ok (.invokevirtual 293, 3) := by decide +kernel
theorem dX10_bestTest_46 : decode cX10_bestTest 46 = .ok (.ifCond .eq 20, 3) := by decide +kernel
theorem dX10_bestTest_49 : decode cX10_bestTest 49 = .ok (.iload_n 2, 1) := by decide +kernel
theorem dX10_bestTest_50 : decode cX10_bestTest 50 = .ok (.iconst (-1), 1) := by decide +kernel
theorem dX10_bestTest_51 : decode cX10_bestTest 51 = .ok (.if_icmp .eq 9, 3) := by decide +kernel
theorem dX10_bestTest_54 : decode cX10_bestTest 54 = .ok (.iload 5, 2) := by decide +kernel
theorem dX10_bestTest_56 : decode cX10_bestTest 56 = .ok (.iload_n 3, 1) := by decide +kernel
theorem dX10_bestTest_57 : decode cX10_bestTest 57 = .ok (.if_icmp .le 9, 3) := by decide +kernel
theorem dX10_bestTest_60 : decode cX10_bestTest 60 = .ok (.iload 4, 2) := by decide +kernel
theorem dX10_bestTest_62 : decode cX10_bestTest 62 = .ok (.istore_n 2, 1) := by decide +kernel
theorem dX10_bestTest_63 : decode cX10_bestTest 63 = .ok (.iload 5, 2) := by decide +kernel
theorem dX10_bestTest_65 : decode cX10_bestTest 65 = .ok (.istore_n 3, 1) := by decide +kernel
theorem dX10_bestTest_66 : decode cX10_bestTest 66 = .ok (.iinc 4 1, 3) := by decide +kernel
theorem dX10_bestTest_69 : decode cX10_bestTest 69 = .ok (.goto (-57), 3) := by decide +kernel
theorem dX10_bestTest_72 : decode cX10_bestTest 72 = .ok (.iload_n 2, 1) := by decide +kernel
theorem dX10_bestTest_73 : decode cX10_bestTest 73 = .ok (.ireturn, 1) := by decide +kernel
theorem dX10_richestEcho_0 : decode cX10_richestEcho 0 = .ok (.iconst 0, 1) := by decide +kernel
theorem dX10_richestEcho_1 : decode cX10_richestEcho 1 = .ok (.istore_n 1, 1) := by decide +kernel
theorem dX10_richestEcho_2 : decode cX10_richestEcho 2 = .ok (.iconst 1, 1) := by decide +kernel
theorem dX10_richestEcho_3 : decode cX10_richestEcho 3 = .ok (.istore_n 2, 1) := by decide +kernel
theorem dX10_richestEcho_4 : decode cX10_richestEcho 4 = .ok (.iload_n 2, 1) := by decide +kernel
theorem dX10_richestEcho_5 : decode cX10_richestEcho 5 = .ok (.aload_n 0, 1) := by decide +kernel
theorem dX10_richestEcho_6 : decode cX10_richestEcho 6 = .ok (.getfield 31, 3) := by decide +kernel
theorem dX10_richestEcho_9 : decode cX10_richestEcho 9 = .ok (.getfield 133, 3) := by decide +kernel
theorem dX10_richestEcho_12 : decode cX10_richestEcho 12 = .ok (.if_icmp .ge 38, 3) := by decide +kernel
theorem dX10_richestEcho_15 : decode cX10_richestEcho 15 = .ok (.aload_n 0, 1) := by decide +kernel
theorem dX10_richestEcho_16 : decode cX10_richestEcho 16 = .ok (.getfield 31, 3) := by decide +kernel
theorem dX10_richestEcho_19 : decode cX10_richestEcho 19 = .ok (.getfield 276, 3) := by decide +kernel
theorem dX10_richestEcho_22 : decode cX10_richestEcho 22 = .ok (.iload_n 2, 1) := by decide +kernel
theorem dX10_richestEcho_23 : decode cX10_richestEcho 23 = .ok (.aaload, 1) := by decide +kernel
theorem dX10_richestEcho_24 : decode cX10_richestEcho 24 = .ok (.getfield 197, 3) := by decide +kernel
theorem dX10_richestEcho_27 : decode cX10_richestEcho 27 = .ok (.aload_n 0, 1) := by decide +kernel
theorem dX10_richestEcho_28 : decode cX10_richestEcho 28 = .ok (.getfield 31, 3) := by decide +kernel
theorem dX10_richestEcho_31 : decode cX10_richestEcho 31 = .ok (.getfield 276, 3) := by decide +kernel
theorem dX10_richestEcho_34 : decode cX10_richestEcho 34 = .ok (.iload_n 1, 1) := by decide +kernel
theorem dX10_richestEcho_35 : decode cX10_richestEcho 35 = .ok (.aaload, 1) := by decide +kernel
theorem dX10_richestEcho_36 : decode cX10_richestEcho 36 = .ok (.getfield 197, 3) := by decide +kernel
theorem dX10_richestEcho_39 : decode cX10_richestEcho 39 = .ok (.if_icmp .le 5, 3) := by decide +kernel
theorem dX10_richestEcho_42 : decode cX10_richestEcho 42 = .ok (.iload_n 2, 1) := by decide +kernel
theorem dX10_richestEcho_43 : decode cX10_richestEcho 43 = .ok (.istore_n 1, 1) := by decide +kernel
theorem dX10_richestEcho_44 : decode cX10_richestEcho 44 = .ok (.iinc 2 1, 3) := by decide +kernel
theorem dX10_richestEcho_47 : decode cX10_richestEcho 47 = .ok (.goto (-43), 3) := by decide +kernel
theorem dX10_richestEcho_50 : decode cX10_richestEcho 50 = .ok (.iload_n 1, 1) := by decide +kernel
theorem dX10_richestEcho_51 : decode cX10_richestEcho 51 = .ok (.ireturn, 1) := by decide +kernel
theorem dX10_daysServed_0 : decode cX10_daysServed 0 = .ok (.aload_n 0, 1) := by decide +kernel
theorem dX10_daysServed_1 : decode cX10_daysServed 1 = .ok (.iload_n 1, 1) := by decide +kernel
theorem dX10_daysServed_2 : decode cX10_daysServed 2 = .ok (.iload_n 2, 1) := by decide +kernel
theorem dX10_daysServed_3 : decode cX10_daysServed 3 = .ok (.invokevirtual 231, 3) := by decide +kernel
theorem dX10_daysServed_6 : decode cX10_daysServed 6 = .ok (.aload_n 0, 1) := by decide +kernel
theorem dX10_daysServed_7 : decode cX10_daysServed 7 = .ok (.getfield 31, 3) := by decide +kernel
theorem dX10_daysServed_10 : decode cX10_daysServed 10 = .ok (.getfield 235, 3) := by decide +kernel
theorem dX10_daysServed_13 : decode cX10_daysServed 13 = .ok (.iload_n 1, 1) := by decide +kernel
theorem dX10_daysServed_14 : decode cX10_daysServed 14 = .ok (.aaload, 1) := by decide +kernel
theorem dX10_daysServed_15 : decode cX10_daysServed 15 = .ok (.getfield 296, 3) := by decide +kernel
theorem dX10_daysServed_18 : decode cX10_daysServed 18 = .ok (.iload_n 2, 1) := by decide +kernel
theorem dX10_daysServed_19 : decode cX10_daysServed 19 = .ok (.iaload, 1) := by decide +kernel
theorem dX10_daysServed_20 : decode cX10_daysServed 20 = .ok (.ireturn, 1) := by decide +kernel
theorem dX10_contractsMade_0 : decode cX10_contractsMade 0 = .ok (.aload_n 0, 1) := by decide +kernel
theorem dX10_contractsMade_1 : decode cX10_contractsMade 1 = .ok (.getfield 31, 3) := by decide +kernel
theorem dX10_contractsMade_4 : decode cX10_contractsMade 4 = .ok (.getfield 299, 3) := by decide +kernel
theorem dX10_contractsMade_7 : decode cX10_contractsMade 7 = .ok (.ireturn, 1) := by decide +kernel
theorem dX10_contractsEnded_0 : decode cX10_contractsEnded 0 = .ok (.aload_n 0, 1) := by decide +kernel
theorem dX10_contractsEnded_1 : decode cX10_contractsEnded 1 = .ok (.getfield 31, 3) := by decide +kernel
theorem dX10_contractsEnded_4 : decode cX10_contractsEnded 4 = .ok (.getfield 302, 3) := by decide +kernel
theorem dX10_contractsEnded_7 : decode cX10_contractsEnded 7 = .ok (.ireturn, 1) := by decide +kernel
theorem dX10_desertions_0 : decode cX10_desertions 0 = .ok (.aload_n 0, 1) := by decide +kernel
theorem dX10_desertions_1 : decode cX10_desertions 1 = .ok (.iload_n 1, 1) := by decide +kernel
theorem dX10_desertions_2 : decode cX10_desertions 2 = .ok (.invokevirtual 179, 3) := by decide +kernel
theorem dX10_desertions_5 : decode cX10_desertions 5 = .ok (.getfield 283, 3) := by decide +kernel
theorem dX10_desertions_8 : decode cX10_desertions 8 = .ok (.ireturn, 1) := by decide +kernel
theorem dX10_repliesHeard_0 : decode cX10_repliesHeard 0 = .ok (.aload_n 0, 1) := by decide +kernel
theorem dX10_repliesHeard_1 : decode cX10_repliesHeard 1 = .ok (.iload_n 1, 1) := by decide +kernel
theorem dX10_repliesHeard_2 : decode cX10_repliesHeard 2 = .ok (.invokevirtual 206, 3) := by decide +kernel
theorem dX10_repliesHeard_5 : decode cX10_repliesHeard 5 = .ok (.getfield 305, 3) := by decide +kernel
theorem dX10_repliesHeard_8 : decode cX10_repliesHeard 8 = .ok (.ireturn, 1) := by decide +kernel
theorem dX10_wagesPaid_0 : decode cX10_wagesPaid 0 = .ok (.aload_n 0, 1) := by decide +kernel
theorem dX10_wagesPaid_1 : decode cX10_wagesPaid 1 = .ok (.iload_n 1, 1) := by decide +kernel
theorem dX10_wagesPaid_2 : decode cX10_wagesPaid 2 = .ok (.invokevirtual 206, 3) := by decide +kernel
theorem dX10_wagesPaid_5 : decode cX10_wagesPaid 5 = .ok (.getfield 308, 3) := by decide +kernel
theorem dX10_wagesPaid_8 : decode cX10_wagesPaid 8 = .ok (.ireturn, 1) := by decide +kernel
theorem dX10_moneyImbalance_0 : decode cX10_moneyImbalance 0 = .ok (.aload_n 0, 1) := by decide +kernel
theorem dX10_moneyImbalance_1 : decode cX10_moneyImbalance 1 = .ok (.getfield 31, 3) := by decide +kernel
theorem dX10_moneyImbalance_4 : decode cX10_moneyImbalance 4 = .ok (.getfield 311, 3) := by decide +kernel
theorem dX10_moneyImbalance_7 : decode cX10_moneyImbalance 7 = .ok (.aload_n 0, 1) := by decide +kernel
theorem dX10_moneyImbalance_8 : decode cX10_moneyImbalance 8 = .ok (.getfield 31, 3) := by decide +kernel
theorem dX10_moneyImbalance_11 : decode cX10_moneyImbalance 11 = .ok (.getfield 314, 3) := by decide +kernel
theorem dX10_moneyImbalance_14 : decode cX10_moneyImbalance 14 = .ok (.iadd, 1) := by decide +kernel
theorem dX10_moneyImbalance_15 : decode cX10_moneyImbalance 15 = .ok (.aload_n 0, 1) := by decide +kernel
theorem dX10_moneyImbalance_16 : decode cX10_moneyImbalance 16 = .ok (.getfield 31, 3) := by decide +kernel
theorem dX10_moneyImbalance_19 : decode cX10_moneyImbalance 19 = .ok (.getfield 317, 3) := by decide +kernel
theorem dX10_moneyImbalance_22 : decode cX10_moneyImbalance 22 = .ok (.iadd, 1) := by decide +kernel
theorem dX10_moneyImbalance_23 : decode cX10_moneyImbalance 23 = .ok (.aload_n 0, 1) := by decide +kernel
theorem dX10_moneyImbalance_24 : decode cX10_moneyImbalance 24 = .ok (.getfield 31, 3) := by decide +kernel
theorem dX10_moneyImbalance_27 : decode cX10_moneyImbalance 27 = .ok (.getfield 320, 3) := by decide +kernel
theorem dX10_moneyImbalance_30 : decode cX10_moneyImbalance 30 = .ok (.isub, 1) := by decide +kernel
theorem dX10_moneyImbalance_31 : decode cX10_moneyImbalance 31 = .ok (.aload_n 0, 1) := by decide +kernel
theorem dX10_moneyImbalance_32 : decode cX10_moneyImbalance 32 = .ok (.getfield 31, 3) := by decide +kernel
theorem dX10_moneyImbalance_35 : decode cX10_moneyImbalance 35 = .ok (.invokevirtual 323, 3) := by decide +kernel
theorem dX10_moneyImbalance_38 : decode cX10_moneyImbalance 38 = .ok (.isub, 1) := by decide +kernel
theorem dX10_moneyImbalance_39 : decode cX10_moneyImbalance 39 = .ok (.aload_n 0, 1) := by decide +kernel
theorem dX10_moneyImbalance_40 : decode cX10_moneyImbalance 40 = .ok (.getfield 31, 3) := by decide +kernel
theorem dX10_moneyImbalance_43 : decode cX10_moneyImbalance 43 = .ok (.invokevirtual 326, 3) := by decide +kernel
theorem dX10_moneyImbalance_46 : decode cX10_moneyImbalance 46 = .ok (.isub, 1) := by decide +kernel
theorem dX10_moneyImbalance_47 : decode cX10_moneyImbalance 47 = .ok (.ireturn, 1) := by decide +kernel
theorem dX10_contractImbalance_0 : decode cX10_contractImbalance 0 = .ok (.aload_n 0, 1) := by decide +kernel
theorem dX10_contractImbalance_1 : decode cX10_contractImbalance 1 = .ok (.getfield 31, 3) := by decide +kernel
theorem dX10_contractImbalance_4 : decode cX10_contractImbalance 4 = .ok (.getfield 299, 3) := by decide +kernel
theorem dX10_contractImbalance_7 : decode cX10_contractImbalance 7 = .ok (.aload_n 0, 1) := by decide +kernel
theorem dX10_contractImbalance_8 : decode cX10_contractImbalance 8 = .ok (.getfield 31, 3) := by decide +kernel
theorem dX10_contractImbalance_11 : decode cX10_contractImbalance 11 = .ok (.getfield 302, 3) := by decide +kernel
theorem dX10_contractImbalance_14 : decode cX10_contractImbalance 14 = .ok (.isub, 1) := by decide +kernel
theorem dX10_contractImbalance_15 : decode cX10_contractImbalance 15 = .ok (.aload_n 0, 1) := by decide +kernel
theorem dX10_contractImbalance_16 : decode cX10_contractImbalance 16 = .ok (.getfield 31, 3) := by decide +kernel
theorem dX10_contractImbalance_19 : decode cX10_contractImbalance 19 = .ok (.invokevirtual 329, 3) := by decide +kernel
theorem dX10_contractImbalance_22 : decode cX10_contractImbalance 22 = .ok (.isub, 1) := by decide +kernel
theorem dX10_contractImbalance_23 : decode cX10_contractImbalance 23 = .ok (.ireturn, 1) := by decide +kernel
theorem dX10_doubleServants_0 : decode cX10_doubleServants 0 = .ok (.iconst 0, 1) := by decide +kernel
theorem dX10_doubleServants_1 : decode cX10_doubleServants 1 = .ok (.istore_n 1, 1) := by decide +kernel
theorem dX10_doubleServants_2 : decode cX10_doubleServants 2 = .ok (.iconst 0, 1) := by decide +kernel
theorem dX10_doubleServants_3 : decode cX10_doubleServants 3 = .ok (.istore_n 2, 1) := by decide +kernel
theorem dX10_doubleServants_4 : decode cX10_doubleServants 4 = .ok (.iload_n 2, 1) := by decide +kernel
theorem dX10_doubleServants_5 : decode cX10_doubleServants 5 = .ok (.aload_n 0, 1) := by decide +kernel
theorem dX10_doubleServants_6 : decode cX10_doubleServants 6 = .ok (.getfield 31, 3) := by decide +kernel
theorem dX10_doubleServants_9 : decode cX10_doubleServants 9 = .ok (.getfield 133, 3) := by decide +kernel
theorem dX10_doubleServants_12 : decode cX10_doubleServants 12 = .ok (.if_icmp .ge 24, 3) := by decide +kernel
theorem dX10_doubleServants_15 : decode cX10_doubleServants 15 = .ok (.aload_n 0, 1) := by decide +kernel
theorem dX10_doubleServants_16 : decode cX10_doubleServants 16 = .ok (.getfield 31, 3) := by decide +kernel
theorem dX10_doubleServants_19 : decode cX10_doubleServants 19 = .ok (.iload_n 2, 1) := by decide +kernel
theorem dX10_doubleServants_20 : decode cX10_doubleServants 20 = .ok (.invokevirtual 332, 3) := by decide +kernel
theorem dX10_doubleServants_23 : decode cX10_doubleServants 23 = .ok (.iconst 1, 1) := by decide +kernel
theorem dX10_doubleServants_24 : decode cX10_doubleServants 24 = .ok (.if_icmp .le 6, 3) := by decide +kernel
theorem dX10_doubleServants_27 : decode cX10_doubleServants 27 = .ok (.iinc 1 1, 3) := by decide +kernel
theorem dX10_doubleServants_30 : decode cX10_doubleServants 30 = .ok (.iinc 2 1, 3) := by decide +kernel
theorem dX10_doubleServants_33 : decode cX10_doubleServants 33 = .ok (.goto (-29), 3) := by decide +kernel
theorem dX10_doubleServants_36 : decode cX10_doubleServants 36 = .ok (.iload_n 1, 1) := by decide +kernel
theorem dX10_doubleServants_37 : decode cX10_doubleServants 37 = .ok (.ireturn, 1) := by decide +kernel
theorem dX10_meanSavings_0 : decode cX10_meanSavings 0 = .ok (.aload_n 0, 1) := by decide +kernel
theorem dX10_meanSavings_1 : decode cX10_meanSavings 1 = .ok (.getfield 31, 3) := by decide +kernel
theorem dX10_meanSavings_4 : decode cX10_meanSavings 4 = .ok (.getfield 133, 3) := by decide +kernel
theorem dX10_meanSavings_7 : decode cX10_meanSavings 7 = .ok (.iconst 1, 1) := by decide +kernel
theorem dX10_meanSavings_8 : decode cX10_meanSavings 8 = .ok (.if_icmp .ge 5, 3) := by decide +kernel
theorem dX10_meanSavings_11 : decode cX10_meanSavings 11 = .ok (.dconst 0, 1) := by decide +kernel
theorem dX10_meanSavings_12 : decode cX10_meanSavings 12 = .ok (.dreturn, 1) := by decide +kernel
theorem dX10_meanSavings_13 : decode cX10_meanSavings 13 = .ok (.aload_n 0, 1) := by decide +kernel
theorem dX10_meanSavings_14 : decode cX10_meanSavings 14 = .ok (.getfield 31, 3) := by decide +kernel
theorem dX10_meanSavings_17 : decode cX10_meanSavings 17 = .ok (.invokevirtual 326, 3) := by decide +kernel
theorem dX10_meanSavings_20 : decode cX10_meanSavings 20 = .ok (.i2d, 1) := by decide +kernel
theorem dX10_meanSavings_21 : decode cX10_meanSavings 21 = .ok (.aload_n 0, 1) := by decide +kernel
theorem dX10_meanSavings_22 : decode cX10_meanSavings 22 = .ok (.getfield 31, 3) := by decide +kernel
theorem dX10_meanSavings_25 : decode cX10_meanSavings 25 = .ok (.getfield 133, 3) := by decide +kernel
theorem dX10_meanSavings_28 : decode cX10_meanSavings 28 = .ok (.i2d, 1) := by decide +kernel
theorem dX10_meanSavings_29 : decode cX10_meanSavings 29 = .ok (.ddiv, 1) := by decide +kernel
theorem dX10_meanSavings_30 : decode cX10_meanSavings 30 = .ok (.dreturn, 1) := by decide +kernel
theorem dX10_employmentRate_0 : decode cX10_employmentRate 0 = .ok (.aload_n 0, 1) := by decide +kernel
theorem dX10_employmentRate_1 : decode cX10_employmentRate 1 = .ok (.getfield 31, 3) := by decide +kernel
theorem dX10_employmentRate_4 : decode cX10_employmentRate 4 = .ok (.getfield 133, 3) := by decide +kernel
theorem dX10_employmentRate_7 : decode cX10_employmentRate 7 = .ok (.iconst 1, 1) := by decide +kernel
theorem dX10_employmentRate_8 : decode cX10_employmentRate 8 = .ok (.if_icmp .ge 5, 3) := by decide +kernel
theorem dX10_employmentRate_11 : decode cX10_employmentRate 11 = .ok (.fconst 0, 1) := by decide +kernel
theorem dX10_employmentRate_12 : decode cX10_employmentRate 12 = .ok (.freturn, 1) := by decide +kernel
theorem dX10_employmentRate_13 : decode cX10_employmentRate 13 = .ok (.iconst 0, 1) := by decide +kernel
theorem dX10_employmentRate_14 : decode cX10_employmentRate 14 = .ok (.istore_n 1, 1) := by decide +kernel
theorem dX10_employmentRate_15 : decode cX10_employmentRate 15 = .ok (.iconst 0, 1) := by decide +kernel
theorem dX10_employmentRate_16 : decode cX10_employmentRate 16 = .ok (.istore_n 2, 1) := by decide +kernel
theorem dX10_employmentRate_17 : decode cX10_employmentRate 17 = .ok (.iload_n 2, 1) := by decide +kernel
theorem dX10_employmentRate_18 : decode cX10_employmentRate 18 = .ok (.aload_n 0, 1) := by decide +kernel
theorem dX10_employmentRate_19 : decode cX10_employmentRate 19 = .ok (.getfield 31, 3) := by decide +kernel
theorem dX10_employmentRate_22 : decode cX10_employmentRate 22 = .ok (.getfield 133, 3) := by decide +kernel
theorem dX10_employmentRate_25 : decode cX10_employmentRate 25 = .ok (.if_icmp .ge 28, 3) := by decide +kernel
theorem dX10_employmentRate_28 : decode cX10_employmentRate 28 = .ok (.aload_n 0, 1) := by decide +kernel
theorem dX10_employmentRate_29 : decode cX10_employmentRate 29 = .ok (.getfield 31, 3) := by decide +kernel
theorem dX10_employmentRate_32 : decode cX10_employmentRate 32 = .ok (.getfield 276, 3) := by decide +kernel
theorem dX10_employmentRate_35 : decode cX10_employmentRate 35 = .ok (.iload_n 2, 1) := by decide +kernel
theorem dX10_employmentRate_36 : decode cX10_employmentRate 36 = .ok (.aaload, 1) := by decide +kernel
theorem dX10_employmentRate_37 : decode cX10_employmentRate 37 = .ok (.getfield 203, 3) := by decide +kernel
theorem dX10_employmentRate_40 : decode cX10_employmentRate 40 = .ok (.iconst (-1), 1) := by decide +kernel
theorem dX10_employmentRate_41 : decode cX10_employmentRate 41 = .ok (.if_icmp .eq 6, 3) := by decide +kernel
theorem dX10_employmentRate_44 : decode cX10_employmentRate 44 = .ok (.iinc 1 1, 3) := by decide +kernel
theorem dX10_employmentRate_47 : decode cX10_employmentRate 47 = .ok (.iinc 2 1, 3) := by decide +kernel
theorem dX10_employmentRate_50 : decode cX10_employmentRate 50 = .ok (.goto (-33), 3) := by decide +kernel
theorem dX10_employmentRate_53 : decode cX10_employmentRate 53 = .ok (.iload_n 1, 1) := by decide +kernel
theorem dX10_employmentRate_54 : decode cX10_employmentRate 54 = .ok (.i2f, 1) := by decide +kernel
theorem dX10_employmentRate_55 : decode cX10_employmentRate 55 = .ok (.aload_n 0, 1) := by decide +kernel
theorem dX10_employmentRate_56 : decode cX10_employmentRate 56 = .ok (.getfield 31, 3) := by decide +kernel
theorem dX10_employmentRate_59 : decode cX10_employmentRate 59 = .ok (.getfield 133, 3) := by decide +kernel
theorem dX10_employmentRate_62 : decode cX10_employmentRate 62 = .ok (.i2f, 1) := by decide +kernel
theorem dX10_employmentRate_63 : decode cX10_employmentRate 63 = .ok (.fdiv, 1) := by decide +kernel
theorem dX10_employmentRate_64 : decode cX10_employmentRate 64 = .ok (.freturn, 1) := by decide +kernel
theorem dX10_passDays_0 : decode cX10_passDays 0 = .ok (.iload_n 1, 1) := by decide +kernel
theorem dX10_passDays_1 : decode cX10_passDays 1 = .ok (.iconst 1, 1) := by decide +kernel
theorem dX10_passDays_2 : decode cX10_passDays 2 = .ok (.if_icmp .lt 9, 3) := by decide +kernel
theorem dX10_passDays_5 : decode cX10_passDays 5 = .ok (.iload_n 1, 1) := by decide +kernel
theorem dX10_passDays_6 : decode cX10_passDays 6 = .ok (.bipush 60, 2) := by decide +kernel
theorem dX10_passDays_8 : decode cX10_passDays 8 = .ok (.if_icmp .le 14, 3) := by decide +kernel
theorem dX10_passDays_11 : decode cX10_passDays 11 = .ok (.new 123, 3) := by decide +kernel
theorem dX10_passDays_14 : decode cX10_passDays 14 = .ok (.dup, 1) := by decide +kernel
theorem dX10_passDays_15 : decode cX10_passDays 15 = .ok (.ldc_w 335, 3) := by decide +kernel
theorem dX10_passDays_18 : decode cX10_passDays 18 = .ok (.invokespecial 127, 3) := by decide +kernel
theorem dX10_passDays_21 : decode cX10_passDays 21 = .ok (.athrow, 1) := by decide +kernel
theorem dX10_passDays_22 : decode cX10_passDays 22 = .ok (.aload_n 0, 1) := by decide +kernel
theorem dX10_passDays_23 : decode cX10_passDays 23 = .ok (.getfield 47, 3) := by decide +kernel
theorem dX10_passDays_26 : decode cX10_passDays 26 = .ok (.aload_n 0, 1) := by decide +kernel
theorem dX10_passDays_27 : decode cX10_passDays 27 = .ok (.getfield 31, 3) := by decide +kernel
theorem dX10_passDays_30 : decode cX10_passDays 30 = .ok (.invokevirtual 141, 3) := by decide +kernel
theorem dX10_passDays_33 : decode cX10_passDays 33 = .ok (.aload_n 0, 1) := by decide +kernel
theorem dX10_passDays_34 : decode cX10_passDays 34 = .ok (.aload_n 0, 1) := by decide +kernel
theorem dX10_passDays_35 : decode cX10_passDays 35 = .ok (.getfield 31, 3) := by decide +kernel
theorem dX10_passDays_38 : decode cX10_passDays 38 = .ok (.iload_n 1, 1) := by decide +kernel
theorem dX10_passDays_39 : decode cX10_passDays 39 = .ok (.invokevirtual 286, 3) := by decide +kernel
theorem dX10_passDays_42 : decode cX10_passDays 42 = .ok (.ireturn, 1) := by decide +kernel
theorem dX10_holdFair_0 : decode cX10_holdFair 0 = .ok (.aload_n 0, 1) := by decide +kernel
theorem dX10_holdFair_1 : decode cX10_holdFair 1 = .ok (.getfield 47, 3) := by decide +kernel
theorem dX10_holdFair_4 : decode cX10_holdFair 4 = .ok (.aload_n 0, 1) := by decide +kernel
theorem dX10_holdFair_5 : decode cX10_holdFair 5 = .ok (.getfield 31, 3) := by decide +kernel
theorem dX10_holdFair_8 : decode cX10_holdFair 8 = .ok (.invokevirtual 141, 3) := by decide +kernel
theorem dX10_holdFair_11 : decode cX10_holdFair 11 = .ok (.aload_n 0, 1) := by decide +kernel
theorem dX10_holdFair_12 : decode cX10_holdFair 12 = .ok (.getfield 54, 3) := by decide +kernel
theorem dX10_holdFair_15 : decode cX10_holdFair 15 = .ok (.aload_n 0, 1) := by decide +kernel
theorem dX10_holdFair_16 : decode cX10_holdFair 16 = .ok (.getfield 31, 3) := by decide +kernel
theorem dX10_holdFair_19 : decode cX10_holdFair 19 = .ok (.invokevirtual 272, 3) := by decide +kernel
theorem dX10_holdFair_22 : decode cX10_holdFair 22 = .ok (.ireturn, 1) := by decide +kernel
theorem dX10_test_0 : decode cX10_test 0 = .ok (.aload_n 0, 1) := by decide +kernel
theorem dX10_test_1 : decode cX10_test 1 = .ok (.iload_n 1, 1) := by decide +kernel
theorem dX10_test_2 : decode cX10_test 2 = .ok (.iload_n 2, 1) := by decide +kernel
theorem dX10_test_3 : decode cX10_test 3 = .ok (.invokevirtual 231, 3) := by decide +kernel
theorem dX10_test_6 : decode cX10_test 6 = .ok (.aload_n 0, 1) := by decide +kernel
theorem dX10_test_7 : decode cX10_test 7 = .ok (.getfield 31, 3) := by decide +kernel
theorem dX10_test_10 : decode cX10_test 10 = .ok (.iload_n 1, 1) := by decide +kernel
theorem dX10_test_11 : decode cX10_test 11 = .ok (.iload_n 2, 1) := by decide +kernel
theorem dX10_test_12 : decode cX10_test 12 = .ok (.invokevirtual 293, 3) := by decide +kernel
theorem dX10_test_15 : decode cX10_test 15 = .ok (.ifCond .ne 14, 3) := by decide +kernel
theorem dX10_test_18 : decode cX10_test 18 = .ok (.new 113, 3) := by decide +kernel
theorem dX10_test_21 : decode cX10_test 21 = .ok (.dup, 1) := by decide +kernel
theorem dX10_test_22 : decode cX10_test 22 = .ok (.ldc_w 337, 3) := by decide +kernel
theorem dX10_test_25 : decode cX10_test 25 = .ok (.invokespecial 117, 3) := by decide +kernel
theorem dX10_test_28 : decode cX10_test 28 = .ok (.athrow, 1) := by decide +kernel
theorem dX10_test_29 : decode cX10_test 29 = .ok (.aload_n 0, 1) := by decide +kernel
theorem dX10_test_30 : decode cX10_test 30 = .ok (.getfield 47, 3) := by decide +kernel
theorem dX10_test_33 : decode cX10_test 33 = .ok (.aload_n 0, 1) := by decide +kernel
theorem dX10_test_34 : decode cX10_test 34 = .ok (.getfield 31, 3) := by decide +kernel
theorem dX10_test_37 : decode cX10_test 37 = .ok (.invokevirtual 141, 3) := by decide +kernel
theorem dX10_test_40 : decode cX10_test 40 = .ok (.aload_n 0, 1) := by decide +kernel
theorem dX10_test_41 : decode cX10_test 41 = .ok (.getfield 31, 3) := by decide +kernel
theorem dX10_test_44 : decode cX10_test 44 = .ok (.getfield 235, 3) := by decide +kernel
theorem dX10_test_47 : decode cX10_test 47 = .ok (.iload_n 1, 1) := by decide +kernel
theorem dX10_test_48 : decode cX10_test 48 = .ok (.aaload, 1) := by decide +kernel
theorem dX10_test_49 : decode cX10_test 49 = .ok (.iload_n 2, 1) := by decide +kernel
theorem dX10_test_50 : decode cX10_test 50 = .ok (.invokevirtual 339, 3) := by decide +kernel
theorem dX10_test_53 : decode cX10_test 53 = .ok (.aload_n 0, 1) := by decide +kernel
theorem dX10_test_54 : decode cX10_test 54 = .ok (.getfield 31, 3) := by decide +kernel
theorem dX10_test_57 : decode cX10_test 57 = .ok (.iload_n 1, 1) := by decide +kernel
theorem dX10_test_58 : decode cX10_test 58 = .ok (.iload_n 2, 1) := by decide +kernel
theorem dX10_test_59 : decode cX10_test 59 = .ok (.invokevirtual 290, 3) := by decide +kernel
theorem dX10_test_62 : decode cX10_test 62 = .ok (.ireturn, 1) := by decide +kernel
theorem dX10_dismiss_0 : decode cX10_dismiss 0 = .ok (.aload_n 0, 1) := by decide +kernel
theorem dX10_dismiss_1 : decode cX10_dismiss 1 = .ok (.iload_n 1, 1) := by decide +kernel
theorem dX10_dismiss_2 : decode cX10_dismiss 2 = .ok (.invokevirtual 179, 3) := by decide +kernel
theorem dX10_dismiss_5 : decode cX10_dismiss 5 = .ok (.getfield 203, 3) := by decide +kernel
theorem dX10_dismiss_8 : decode cX10_dismiss 8 = .ok (.istore_n 2, 1) := by decide +kernel
theorem dX10_dismiss_9 : decode cX10_dismiss 9 = .ok (.iload_n 2, 1) := by decide +kernel
theorem dX10_dismiss_10 : decode cX10_dismiss 10 = .ok (.iconst (-1), 1) := by decide +kernel
theorem dX10_dismiss_11 : decode cX10_dismiss 11 = .ok (.if_icmp .ne 14, 3) := by decide +kernel
theorem dX10_dismiss_14 : decode cX10_dismiss 14 = .ok (.new 113, 3) := by decide +kernel
theorem dX10_dismiss_17 : decode cX10_dismiss 17 = .ok (.dup, 1) := by decide +kernel
theorem dX10_dismiss_18 : decode cX10_dismiss 18 = .ok (.ldc_w 342, 3) := by decide +kernel
theorem dX10_dismiss_21 : decode cX10_dismiss 21 = .ok (.invokespecial 117, 3) := by decide +kernel
theorem dX10_dismiss_24 : decode cX10_dismiss 24 = .ok (.athrow, 1) := by decide +kernel
theorem dX10_dismiss_25 : decode cX10_dismiss 25 = .ok (.aload_n 0, 1) := by decide +kernel
theorem dX10_dismiss_26 : decode cX10_dismiss 26 = .ok (.getfield 47, 3) := by decide +kernel
theorem dX10_dismiss_29 : decode cX10_dismiss 29 = .ok (.aload_n 0, 1) := by decide +kernel
theorem dX10_dismiss_30 : decode cX10_dismiss 30 = .ok (.getfield 31, 3) := by decide +kernel
theorem dX10_dismiss_33 : decode cX10_dismiss 33 = .ok (.invokevirtual 141, 3) := by decide +kernel
theorem dX10_dismiss_36 : decode cX10_dismiss 36 = .ok (.aload_n 0, 1) := by decide +kernel
theorem dX10_dismiss_37 : decode cX10_dismiss 37 = .ok (.getfield 31, 3) := by decide +kernel
theorem dX10_dismiss_40 : decode cX10_dismiss 40 = .ok (.iload_n 1, 1) := by decide +kernel
theorem dX10_dismiss_41 : decode cX10_dismiss 41 = .ok (.invokevirtual 344, 3) := by decide +kernel
theorem dX10_dismiss_44 : decode cX10_dismiss 44 = .ok (.iload_n 2, 1) := by decide +kernel
theorem dX10_dismiss_45 : decode cX10_dismiss 45 = .ok (.ireturn, 1) := by decide +kernel
theorem dX10_setWage_0 : decode cX10_setWage 0 = .ok (.aload_n 0, 1) := by decide +kernel
theorem dX10_setWage_1 : decode cX10_setWage 1 = .ok (.iload_n 1, 1) := by decide +kernel
theorem dX10_setWage_2 : decode cX10_setWage 2 = .ok (.invokevirtual 206, 3) := by decide +kernel
theorem dX10_setWage_5 : decode cX10_setWage 5 = .ok (.astore_n 3, 1) := by decide +kernel
theorem dX10_setWage_6 : decode cX10_setWage 6 = .ok (.iload_n 2, 1) := by decide +kernel
theorem dX10_setWage_7 : decode cX10_setWage 7 = .ok (.iconst 1, 1) := by decide +kernel
theorem dX10_setWage_8 : decode cX10_setWage 8 = .ok (.if_icmp .lt 9, 3) := by decide +kernel
theorem dX10_setWage_11 : decode cX10_setWage 11 = .ok (.iload_n 2, 1) := by decide +kernel
theorem dX10_setWage_12 : decode cX10_setWage 12 = .ok (.bipush 99, 2) := by decide +kernel
theorem dX10_setWage_14 : decode cX10_setWage 14 = .ok (.if_icmp .le 14, 3) := by decide +kernel
theorem dX10_setWage_17 : decode cX10_setWage 17 = .ok (.new 123, 3) := by decide +kernel
theorem dX10_setWage_20 : decode cX10_setWage 20 = .ok (.dup, 1) := by decide +kernel
theorem dX10_setWage_21 : decode cX10_setWage 21 = .ok (.ldc_w 347, 3) := by decide +kernel
theorem dX10_setWage_24 : decode cX10_setWage 24 = .ok (.invokespecial 127, 3) := by decide +kernel
theorem dX10_setWage_27 : decode cX10_setWage 27 = .ok (.athrow, 1) := by decide +kernel
theorem dX10_setWage_28 : decode cX10_setWage 28 = .ok (.aload_n 0, 1) := by decide +kernel
theorem dX10_setWage_29 : decode cX10_setWage 29 = .ok (.getfield 47, 3) := by decide +kernel
theorem dX10_setWage_32 : decode cX10_setWage 32 = .ok (.aload_n 0, 1) := by decide +kernel
theorem dX10_setWage_33 : decode cX10_setWage 33 = .ok (.getfield 31, 3) := by decide +kernel
theorem dX10_setWage_36 : decode cX10_setWage 36 = .ok (.invokevirtual 141, 3) := by decide +kernel
theorem dX10_setWage_39 : decode cX10_setWage 39 = .ok (.aload_n 3, 1) := by decide +kernel
theorem dX10_setWage_40 : decode cX10_setWage 40 = .ok (.getfield 218, 3) := by decide +kernel
theorem dX10_setWage_43 : decode cX10_setWage 43 = .ok (.istore 4, 2) := by decide +kernel
theorem dX10_setWage_45 : decode cX10_setWage 45 = .ok (.aload_n 3, 1) := by decide +kernel
theorem dX10_setWage_46 : decode cX10_setWage 46 = .ok (.iload_n 2, 1) := by decide +kernel
theorem dX10_setWage_47 : decode cX10_setWage 47 = .ok (.putfield 218, 3) := by decide +kernel
theorem dX10_setWage_50 : decode cX10_setWage 50 = .ok (.iload 4, 2) := by decide +kernel
theorem dX10_setWage_52 : decode cX10_setWage 52 = .ok (.ireturn, 1) := by decide +kernel
theorem dX10_fund_0 : decode cX10_fund 0 = .ok (.aload_n 0, 1) := by decide +kernel
theorem dX10_fund_1 : decode cX10_fund 1 = .ok (.iload_n 1, 1) := by decide +kernel
theorem dX10_fund_2 : decode cX10_fund 2 = .ok (.invokevirtual 206, 3) := by decide +kernel
theorem dX10_fund_5 : decode cX10_fund 5 = .ok (.astore_n 3, 1) := by decide +kernel
theorem dX10_fund_6 : decode cX10_fund 6 = .ok (.iload_n 2, 1) := by decide +kernel
theorem dX10_fund_7 : decode cX10_fund 7 = .ok (.iconst 1, 1) := by decide +kernel
theorem dX10_fund_8 : decode cX10_fund 8 = .ok (.if_icmp .lt 10, 3) := by decide +kernel
theorem dX10_fund_11 : decode cX10_fund 11 = .ok (.iload_n 2, 1) := by decide +kernel
theorem dX10_fund_12 : decode cX10_fund 12 = .ok (.sipush 999, 3) := by decide +kernel
theorem dX10_fund_15 : decode cX10_fund 15 = .ok (.if_icmp .le 14, 3) := by decide +kernel
theorem dX10_fund_18 : decode cX10_fund 18 = .ok (.new 123, 3) := by decide +kernel
theorem dX10_fund_21 : decode cX10_fund 21 = .ok (.dup, 1) := by decide +kernel
theorem dX10_fund_22 : decode cX10_fund 22 = .ok (.ldc_w 349, 3) := by decide +kernel
theorem dX10_fund_25 : decode cX10_fund 25 = .ok (.invokespecial 127, 3) := by decide +kernel
theorem dX10_fund_28 : decode cX10_fund 28 = .ok (.athrow, 1) := by decide +kernel
theorem dX10_fund_29 : decode cX10_fund 29 = .ok (.aload_n 0, 1) := by decide +kernel
theorem dX10_fund_30 : decode cX10_fund 30 = .ok (.getfield 47, 3) := by decide +kernel
theorem dX10_fund_33 : decode cX10_fund 33 = .ok (.aload_n 0, 1) := by decide +kernel
theorem dX10_fund_34 : decode cX10_fund 34 = .ok (.getfield 31, 3) := by decide +kernel
theorem dX10_fund_37 : decode cX10_fund 37 = .ok (.invokevirtual 141, 3) := by decide +kernel
theorem dX10_fund_40 : decode cX10_fund 40 = .ok (.aload_n 0, 1) := by decide +kernel
theorem dX10_fund_41 : decode cX10_fund 41 = .ok (.getfield 31, 3) := by decide +kernel
theorem dX10_fund_44 : decode cX10_fund 44 = .ok (.iload_n 1, 1) := by decide +kernel
theorem dX10_fund_45 : decode cX10_fund 45 = .ok (.iload_n 2, 1) := by decide +kernel
theorem dX10_fund_46 : decode cX10_fund 46 = .ok (.invokevirtual 351, 3) := by decide +kernel
theorem dX10_fund_49 : decode cX10_fund 49 = .ok (.aload_n 3, 1) := by decide +kernel
theorem dX10_fund_50 : decode cX10_fund 50 = .ok (.getfield 221, 3) := by decide +kernel
theorem dX10_fund_53 : decode cX10_fund 53 = .ok (.ireturn, 1) := by decide +kernel
theorem dX10_train_0 : decode cX10_train 0 = .ok (.aload_n 0, 1) := by decide +kernel
theorem dX10_train_1 : decode cX10_train 1 = .ok (.iload_n 1, 1) := by decide +kernel
theorem dX10_train_2 : decode cX10_train 2 = .ok (.invokevirtual 179, 3) := by decide +kernel
theorem dX10_train_5 : decode cX10_train 5 = .ok (.astore_n 2, 1) := by decide +kernel
theorem dX10_train_6 : decode cX10_train 6 = .ok (.aload_n 2, 1) := by decide +kernel
theorem dX10_train_7 : decode cX10_train 7 = .ok (.invokevirtual 354, 3) := by decide +kernel
theorem dX10_train_10 : decode cX10_train 10 = .ok (.ifCond .ne 14, 3) := by decide +kernel
theorem dX10_train_13 : decode cX10_train 13 = .ok (.new 113, 3) := by decide +kernel
theorem dX10_train_16 : decode cX10_train 16 = .ok (.dup, 1) := by decide +kernel
theorem dX10_train_17 : decode cX10_train 17 = .ok (.ldc_w 357, 3) := by decide +kernel
theorem dX10_train_20 : decode cX10_train 20 = .ok (.invokespecial 117, 3) := by decide +kernel
theorem dX10_train_23 : decode cX10_train 23 = .ok (.athrow, 1) := by decide +kernel
theorem dX10_train_24 : decode cX10_train 24 = .ok (.aload_n 0, 1) := by decide +kernel
theorem dX10_train_25 : decode cX10_train 25 = .ok (.getfield 47, 3) := by decide +kernel
theorem dX10_train_28 : decode cX10_train 28 = .ok (.aload_n 0, 1) := by decide +kernel
theorem dX10_train_29 : decode cX10_train 29 = .ok (.getfield 31, 3) := by decide +kernel
theorem dX10_train_32 : decode cX10_train 32 = .ok (.invokevirtual 141, 3) := by decide +kernel
theorem dX10_train_35 : decode cX10_train 35 = .ok (.aload_n 0, 1) := by decide +kernel
theorem dX10_train_36 : decode cX10_train 36 = .ok (.getfield 31, 3) := by decide +kernel
theorem dX10_train_39 : decode cX10_train 39 = .ok (.iload_n 1, 1) := by decide +kernel
theorem dX10_train_40 : decode cX10_train 40 = .ok (.invokevirtual 359, 3) := by decide +kernel
theorem dX10_train_43 : decode cX10_train 43 = .ok (.aload_n 2, 1) := by decide +kernel
theorem dX10_train_44 : decode cX10_train 44 = .ok (.getfield 188, 3) := by decide +kernel
theorem dX10_train_47 : decode cX10_train 47 = .ok (.ireturn, 1) := by decide +kernel
theorem dX10_undo_0 : decode cX10_undo 0 = .ok (.aload_n 0, 1) := by decide +kernel
theorem dX10_undo_1 : decode cX10_undo 1 = .ok (.getfield 47, 3) := by decide +kernel
theorem dX10_undo_4 : decode cX10_undo 4 = .ok (.getfield 362, 3) := by decide +kernel
theorem dX10_undo_7 : decode cX10_undo 7 = .ok (.iconst 1, 1) := by decide +kernel
theorem dX10_undo_8 : decode cX10_undo 8 = .ok (.if_icmp .ge 14, 3) := by decide +kernel
theorem dX10_undo_11 : decode cX10_undo 11 = .ok (.new 113, 3) := by decide +kernel
theorem dX10_undo_14 : decode cX10_undo 14 = .ok (.dup, 1) := by decide +kernel
theorem dX10_undo_15 : decode cX10_undo 15 = .ok (.ldc_w 363, 3) := by decide +kernel
theorem dX10_undo_18 : decode cX10_undo 18 = .ok (.invokespecial 117, 3) := by decide +kernel
theorem dX10_undo_21 : decode cX10_undo 21 = .ok (.athrow, 1) := by decide +kernel
theorem dX10_undo_22 : decode cX10_undo 22 = .ok (.aload_n 0, 1) := by decide +kernel
theorem dX10_undo_23 : decode cX10_undo 23 = .ok (.getfield 47, 3) := by decide +kernel
theorem dX10_undo_26 : decode cX10_undo 26 = .ok (.aload_n 0, 1) := by decide +kernel
theorem dX10_undo_27 : decode cX10_undo 27 = .ok (.getfield 31, 3) := by decide +kernel
theorem dX10_undo_30 : decode cX10_undo 30 = .ok (.invokevirtual 365, 3) := by decide +kernel
theorem dX10_undo_33 : decode cX10_undo 33 = .ok (.aload_n 0, 1) := by decide +kernel
theorem dX10_undo_34 : decode cX10_undo 34 = .ok (.getfield 47, 3) := by decide +kernel
theorem dX10_undo_37 : decode cX10_undo 37 = .ok (.getfield 362, 3) := by decide +kernel
theorem dX10_undo_40 : decode cX10_undo 40 = .ok (.ireturn, 1) := by decide +kernel
theorem dX10_save_0 : decode cX10_save 0 = .ok (.aload_n 0, 1) := by decide +kernel
theorem dX10_save_1 : decode cX10_save 1 = .ok (.getfield 41, 3) := by decide +kernel
theorem dX10_save_4 : decode cX10_save 4 = .ok (.aload_n 0, 1) := by decide +kernel
theorem dX10_save_5 : decode cX10_save 5 = .ok (.getfield 31, 3) := by decide +kernel
theorem dX10_save_8 : decode cX10_save 8 = .ok (.invokevirtual 269, 3) := by decide +kernel
theorem dX10_save_11 : decode cX10_save 11 = .ok (.aload_n 0, 1) := by decide +kernel
theorem dX10_save_12 : decode cX10_save 12 = .ok (.iconst 1, 1) := by decide +kernel
theorem dX10_save_13 : decode cX10_save 13 = .ok (.putfield 368, 3) := by decide +kernel
theorem dX10_save_16 : decode cX10_save 16 = .ok (.aload_n 0, 1) := by decide +kernel
theorem dX10_save_17 : decode cX10_save 17 = .ok (.getfield 31, 3) := by decide +kernel
theorem dX10_save_20 : decode cX10_save 20 = .ok (.getfield 158, 3) := by decide +kernel
theorem dX10_save_23 : decode cX10_save 23 = .ok (.ireturn, 1) := by decide +kernel
theorem dX10_restore_0 : decode cX10_restore 0 = .ok (.aload_n 0, 1) := by decide +kernel
theorem dX10_restore_1 : decode cX10_restore 1 = .ok (.getfield 368, 3) := by decide +kernel
theorem dX10_restore_4 : decode cX10_restore 4 = .ok (.ifCond .ne 14, 3) := by decide +kernel
theorem dX10_restore_7 : decode cX10_restore 7 = .ok (.new 113, 3) := by decide +kernel
theorem dX10_restore_10 : decode cX10_restore 10 = .ok (.dup, 1) := by decide +kernel
theorem dX10_restore_11 : decode cX10_restore 11 = .ok (.ldc_w 372, 3) := by decide +kernel
theorem dX10_restore_14 : decode cX10_restore 14 = .ok (.invokespecial 117, 3) := by decide +kernel
theorem dX10_restore_17 : decode cX10_restore 17 = .ok (.athrow, 1) := by decide +kernel
theorem dX10_restore_18 : decode cX10_restore 18 = .ok (.aload_n 0, 1) := by decide +kernel
theorem dX10_restore_19 : decode cX10_restore 19 = .ok (.getfield 31, 3) := by decide +kernel
theorem dX10_restore_22 : decode cX10_restore 22 = .ok (.aload_n 0, 1) := by decide +kernel
theorem dX10_restore_23 : decode cX10_restore 23 = .ok (.getfield 41, 3) := by decide +kernel
theorem dX10_restore_26 : decode cX10_restore 26 = .ok (.invokevirtual 269, 3) := by decide +kernel
theorem dX10_restore_29 : decode cX10_restore 29 = .ok (.aload_n 0, 1) := by decide +kernel
theorem dX10_restore_30 : decode cX10_restore 30 = .ok (.getfield 47, 3) := by decide +kernel
theorem dX10_restore_33 : decode cX10_restore 33 = .ok (.iconst 0, 1) := by decide +kernel
theorem dX10_restore_34 : decode cX10_restore 34 = .ok (.putfield 362, 3) := by decide +kernel
theorem dX10_restore_37 : decode cX10_restore 37 = .ok (.aload_n 0, 1) := by decide +kernel
theorem dX10_restore_38 : decode cX10_restore 38 = .ok (.getfield 31, 3) := by decide +kernel
theorem dX10_restore_41 : decode cX10_restore 41 = .ok (.getfield 158, 3) := by decide +kernel
theorem dX10_restore_44 : decode cX10_restore 44 = .ok (.ireturn, 1) := by decide +kernel
theorem dX10_formatContracts_0 : decode cX10_formatContracts 0 = .ok (.aload_n 0, 1) := by decide +kernel
theorem dX10_formatContracts_1 : decode cX10_formatContracts 1 = .ok (.getfield 18, 3) := by decide +kernel
theorem dX10_formatContracts_4 : decode cX10_formatContracts 4 = .ok (.iconst 0, 1) := by decide +kernel
theorem dX10_formatContracts_5 : decode cX10_formatContracts 5 = .ok (.putfield 111, 3) := by decide +kernel
theorem dX10_formatContracts_8 : decode cX10_formatContracts 8 = .ok (.iconst 0, 1) := by decide +kernel
theorem dX10_formatContracts_9 : decode cX10_formatContracts 9 = .ok (.istore_n 1, 1) := by decide +kernel
theorem dX10_formatContracts_10 : decode cX10_formatContracts 10 = .ok (.iload_n 1, 1) := by decide +kernel
theorem dX10_formatContracts_11 : decode cX10_formatContracts 11 = .ok (.aload_n 0, 1) := by decide +kernel
theorem dX10_formatContracts_12 : decode cX10_formatContracts 12 = .ok (.getfield 31, 3) := by decide +kernel
theorem dX10_formatContracts_15 : decode cX10_formatContracts 15 = .ok (.getfield 155, 3) := by decide +kernel
theorem dX10_formatContracts_18 : decode cX10_formatContracts 18 = .ok (.if_icmp .ge 35, 3) := by decide +kernel
theorem dX10_formatContracts_21 : decode cX10_formatContracts 21 = .ok (.iload_n 1, 1) := by decide +kernel
theorem dX10_formatContracts_22 : decode cX10_formatContracts 22 = .ok (.ifCond .le 12, 3) := by decide +kernel
theorem dX10_formatContracts_25 : decode cX10_formatContracts 25 = .ok (.aload_n 0, 1) := by decide +kernel
theorem dX10_formatContracts_26 : decode cX10_formatContracts 26 = .ok (.getfield 18, 3) := by decide +kernel
theorem dX10_formatContracts_29 : decode cX10_formatContracts 29 = .ok (.bipush 32, 2) := by decide +kernel
theorem dX10_formatContracts_31 : decode cX10_formatContracts 31 = .ok (.invokevirtual 101, 3) := by decide +kernel
theorem dX10_formatContracts_34 : decode cX10_formatContracts 34 = .ok (.aload_n 0, 1) := by decide +kernel
theorem dX10_formatContracts_35 : decode cX10_formatContracts 35 = .ok (.aload_n 0, 1) := by decide +kernel
theorem dX10_formatContracts_36 : decode cX10_formatContracts 36 = .ok (.getfield 31, 3) := by decide +kernel
theorem dX10_formatContracts_39 : decode cX10_formatContracts 39 = .ok (.getfield 235, 3) := by decide +kernel
theorem dX10_formatContracts_42 : decode cX10_formatContracts 42 = .ok (.iload_n 1, 1) := by decide +kernel
theorem dX10_formatContracts_43 : decode cX10_formatContracts 43 = .ok (.aaload, 1) := by decide +kernel
theorem dX10_formatContracts_44 : decode cX10_formatContracts 44 = .ok (.invokevirtual 374, 3) := by decide +kernel
theorem dX10_formatContracts_47 : decode cX10_formatContracts 47 = .ok (.iinc 1 1, 3) := by decide +kernel
theorem dX10_formatContracts_50 : decode cX10_formatContracts 50 = .ok (.goto (-40), 3) := by decide +kernel
theorem dX10_formatContracts_53 : decode cX10_formatContracts 53 = .ok (.aload_n 0, 1) := by decide +kernel
theorem dX10_formatContracts_54 : decode cX10_formatContracts 54 = .ok (.getfield 18, 3) := by decide +kernel
theorem dX10_formatContracts_57 : decode cX10_formatContracts 57 = .ok (.getfield 111, 3) := by decide +kernel
theorem dX10_formatContracts_60 : decode cX10_formatContracts 60 = .ok (.ireturn, 1) := by decide +kernel
theorem dX10_outputByte_0 : decode cX10_outputByte 0 = .ok (.iload_n 1, 1) := by decide +kernel
theorem dX10_outputByte_1 : decode cX10_outputByte 1 = .ok (.ifCond .lt 14, 3) := by decide +kernel
theorem dX10_outputByte_4 : decode cX10_outputByte 4 = .ok (.iload_n 1, 1) := by decide +kernel
theorem dX10_outputByte_5 : decode cX10_outputByte 5 = .ok (.aload_n 0, 1) := by decide +kernel
theorem dX10_outputByte_6 : decode cX10_outputByte 6 = .ok (.getfield 18, 3) := by decide +kernel
theorem dX10_outputByte_9 : decode cX10_outputByte 9 = .ok (.getfield 111, 3) := by decide +kernel
theorem dX10_outputByte_12 : decode cX10_outputByte 12 = .ok (.if_icmp .lt 5, 3) := by decide +kernel
theorem dX10_outputByte_15 : decode cX10_outputByte 15 = .ok (.iconst (-1), 1) := by decide +kernel
theorem dX10_outputByte_16 : decode cX10_outputByte 16 = .ok (.ireturn, 1) := by decide +kernel
theorem dX10_outputByte_17 : decode cX10_outputByte 17 = .ok (.aload_n 0, 1) := by decide +kernel
theorem dX10_outputByte_18 : decode cX10_outputByte 18 = .ok (.getfield 18, 3) := by decide +kernel
theorem dX10_outputByte_21 : decode cX10_outputByte 21 = .ok (.getfield 378, 3) := by decide +kernel
theorem dX10_outputByte_24 : decode cX10_outputByte 24 = .ok (.iload_n 1, 1) := by decide +kernel
theorem dX10_outputByte_25 : decode cX10_outputByte 25 = .ok (.baload, 1) := by decide +kernel
theorem dX10_outputByte_26 : decode cX10_outputByte 26 = .ok (.ireturn, 1) := by decide +kernel
theorem dX10_requireEcho_0 : decode cX10_requireEcho 0 = .ok (.iload_n 1, 1) := by decide +kernel
theorem dX10_requireEcho_1 : decode cX10_requireEcho 1 = .ok (.ifCond .lt 14, 3) := by decide +kernel
theorem dX10_requireEcho_4 : decode cX10_requireEcho 4 = .ok (.iload_n 1, 1) := by decide +kernel
theorem dX10_requireEcho_5 : decode cX10_requireEcho 5 = .ok (.aload_n 0, 1) := by decide +kernel
theorem dX10_requireEcho_6 : decode cX10_requireEcho 6 = .ok (.getfield 31, 3) := by decide +kernel
theorem dX10_requireEcho_9 : decode cX10_requireEcho 9 = .ok (.getfield 133, 3) := by decide +kernel
theorem dX10_requireEcho_12 : decode cX10_requireEcho 12 = .ok (.if_icmp .lt 14, 3) := by decide +kernel
theorem dX10_requireEcho_15 : decode cX10_requireEcho 15 = .ok (.new 382, 3) := by decide +kernel
theorem dX10_requireEcho_18 : decode cX10_requireEcho 18 = .ok (.dup, 1) := by decide +kernel
theorem dX10_requireEcho_19 : decode cX10_requireEcho 19 = .ok (.ldc_w 384, 3) := by decide +kernel
theorem dX10_requireEcho_22 : decode cX10_requireEcho 22 = .ok (.invokespecial 386, 3) := by decide +kernel
theorem dX10_requireEcho_25 : decode cX10_requireEcho 25 = .ok (.athrow, 1) := by decide +kernel
theorem dX10_requireEcho_26 : decode cX10_requireEcho 26 = .ok (.return_, 1) := by decide +kernel
theorem dX10_requireValley_0 : decode cX10_requireValley 0 = .ok (.iload_n 1, 1) := by decide +kernel
theorem dX10_requireValley_1 : decode cX10_requireValley 1 = .ok (.ifCond .lt 14, 3) := by decide +kernel
theorem dX10_requireValley_4 : decode cX10_requireValley 4 = .ok (.iload_n 1, 1) := by decide +kernel
theorem dX10_requireValley_5 : decode cX10_requireValley 5 = .ok (.aload_n 0, 1) := by decide +kernel
theorem dX10_requireValley_6 : decode cX10_requireValley 6 = .ok (.getfield 31, 3) := by decide +kernel
theorem dX10_requireValley_9 : decode cX10_requireValley 9 = .ok (.getfield 155, 3) := by decide +kernel
theorem dX10_requireValley_12 : decode cX10_requireValley 12 = .ok (.if_icmp .lt 14, 3) := by decide +kernel
theorem dX10_requireValley_15 : decode cX10_requireValley 15 = .ok (.new 382, 3) := by decide +kernel
theorem dX10_requireValley_18 : decode cX10_requireValley 18 = .ok (.dup, 1) := by decide +kernel
theorem dX10_requireValley_19 : decode cX10_requireValley 19 = .ok (.ldc_w 387, 3) := by decide +kernel
theorem dX10_requireValley_22 : decode cX10_requireValley 22 = .ok (.invokespecial 386, 3) := by decide +kernel
theorem dX10_requireValley_25 : decode cX10_requireValley 25 = .ok (.athrow, 1) := by decide +kernel
theorem dX10_requireValley_26 : decode cX10_requireValley 26 = .ok (.return_, 1) := by decide +kernel
theorem dX10_requirePair_0 : decode cX10_requirePair 0 = .ok (.aload_n 0, 1) := by decide +kernel
theorem dX10_requirePair_1 : decode cX10_requirePair 1 = .ok (.iload_n 1, 1) := by decide +kernel
theorem dX10_requirePair_2 : decode cX10_requirePair 2 = .ok (.invokevirtual 260, 3) := by decide +kernel
theorem dX10_requirePair_5 : decode cX10_requirePair 5 = .ok (.aload_n 0, 1) := by decide +kernel
theorem dX10_requirePair_6 : decode cX10_requirePair 6 = .ok (.iload_n 2, 1) := by decide +kernel
theorem dX10_requirePair_7 : decode cX10_requirePair 7 = .ok (.invokevirtual 250, 3) := by decide +kernel
theorem dX10_requirePair_10 : decode cX10_requirePair 10 = .ok (.return_, 1) := by decide +kernel
theorem dX10_echoAt_0 : decode cX10_echoAt 0 = .ok (.aload_n 0, 1) := by decide +kernel
theorem dX10_echoAt_1 : decode cX10_echoAt 1 = .ok (.iload_n 1, 1) := by decide +kernel
theorem dX10_echoAt_2 : decode cX10_echoAt 2 = .ok (.invokevirtual 250, 3) := by decide +kernel
theorem dX10_echoAt_5 : decode cX10_echoAt 5 = .ok (.aload_n 0, 1) := by decide +kernel
theorem dX10_echoAt_6 : decode cX10_echoAt 6 = .ok (.getfield 31, 3) := by decide +kernel
theorem dX10_echoAt_9 : decode cX10_echoAt 9 = .ok (.getfield 276, 3) := by decide +kernel
theorem dX10_echoAt_12 : decode cX10_echoAt 12 = .ok (.iload_n 1, 1) := by decide +kernel
theorem dX10_echoAt_13 : decode cX10_echoAt 13 = .ok (.aaload, 1) := by decide +kernel
theorem dX10_echoAt_14 : decode cX10_echoAt 14 = .ok (.areturn, 1) := by decide +kernel
theorem dX10_valleyAt_0 : decode cX10_valleyAt 0 = .ok (.aload_n 0, 1) := by decide +kernel
theorem dX10_valleyAt_1 : decode cX10_valleyAt 1 = .ok (.iload_n 1, 1) := by decide +kernel
theorem dX10_valleyAt_2 : decode cX10_valleyAt 2 = .ok (.invokevirtual 260, 3) := by decide +kernel
theorem dX10_valleyAt_5 : decode cX10_valleyAt 5 = .ok (.aload_n 0, 1) := by decide +kernel
theorem dX10_valleyAt_6 : decode cX10_valleyAt 6 = .ok (.getfield 31, 3) := by decide +kernel
theorem dX10_valleyAt_9 : decode cX10_valleyAt 9 = .ok (.getfield 235, 3) := by decide +kernel
theorem dX10_valleyAt_12 : decode cX10_valleyAt 12 = .ok (.iload_n 1, 1) := by decide +kernel
theorem dX10_valleyAt_13 : decode cX10_valleyAt 13 = .ok (.aaload, 1) := by decide +kernel
theorem dX10_valleyAt_14 : decode cX10_valleyAt 14 = .ok (.areturn, 1) := by decide +kernel
theorem dX10_adoptDraft_0 : decode cX10_adoptDraft 0 = .ok (.aload_n 0, 1) := by decide +kernel
theorem dX10_adoptDraft_1 : decode cX10_adoptDraft 1 = .ok (.getfield 31, 3) := by decide +kernel
theorem dX10_adoptDraft_4 : decode cX10_adoptDraft 4 = .ok (.aload_n 0, 1) := by decide +kernel
theorem dX10_adoptDraft_5 : decode cX10_adoptDraft 5 = .ok (.getfield 35, 3) := by decide +kernel
theorem dX10_adoptDraft_8 : decode cX10_adoptDraft 8 = .ok (.invokevirtual 269, 3) := by decide +kernel
theorem dX10_adoptDraft_11 : decode cX10_adoptDraft 11 = .ok (.aload_n 0, 1) := by decide +kernel
theorem dX10_adoptDraft_12 : decode cX10_adoptDraft 12 = .ok (.getfield 24, 3) := by decide +kernel
theorem dX10_adoptDraft_15 : decode cX10_adoptDraft 15 = .ok (.aload_n 0, 1) := by decide +kernel
theorem dX10_adoptDraft_16 : decode cX10_adoptDraft 16 = .ok (.getfield 38, 3) := by decide +kernel
theorem dX10_adoptDraft_19 : decode cX10_adoptDraft 19 = .ok (.invokevirtual 389, 3) := by decide +kernel
theorem dX10_adoptDraft_22 : decode cX10_adoptDraft 22 = .ok (.aload_n 0, 1) := by decide +kernel
theorem dX10_adoptDraft_23 : decode cX10_adoptDraft 23 = .ok (.getfield 47, 3) := by decide +kernel
theorem dX10_adoptDraft_26 : decode cX10_adoptDraft 26 = .ok (.iconst 0, 1) := by decide +kernel
theorem dX10_adoptDraft_27 : decode cX10_adoptDraft 27 = .ok (.putfield 362, 3) := by decide +kernel
theorem dX10_adoptDraft_30 : decode cX10_adoptDraft 30 = .ok (.return_, 1) := by decide +kernel
theorem dX10_noteErrors_0 : decode cX10_noteErrors 0 = .ok (.aload_n 0, 1) := by decide +kernel
theorem dX10_noteErrors_1 : decode cX10_noteErrors 1 = .ok (.aload_n 0, 1) := by decide +kernel
theorem dX10_noteErrors_2 : decode cX10_noteErrors 2 = .ok (.getfield 63, 3) := by decide +kernel
theorem dX10_noteErrors_5 : decode cX10_noteErrors 5 = .ok (.getfield 392, 3) := by decide +kernel
theorem dX10_noteErrors_8 : decode cX10_noteErrors 8 = .ok (.putfield 152, 3) := by decide +kernel
theorem dX10_noteErrors_11 : decode cX10_noteErrors 11 = .ok (.aload_n 0, 1) := by decide +kernel
theorem dX10_noteErrors_12 : decode cX10_noteErrors 12 = .ok (.aload_n 0, 1) := by decide +kernel
theorem dX10_noteErrors_13 : decode cX10_noteErrors 13 = .ok (.getfield 63, 3) := by decide +kernel
theorem dX10_noteErrors_16 : decode cX10_noteErrors 16 = .ok (.getfield 395, 3) := by decide +kernel
theorem dX10_noteErrors_19 : decode cX10_noteErrors 19 = .ok (.putfield 85, 3) := by decide +kernel
theorem dX10_noteErrors_22 : decode cX10_noteErrors 22 = .ok (.return_, 1) := by decide +kernel
theorem dX10_simulate_0 : decode cX10_simulate 0 = .ok (.iload_n 1, 1) := by decide +kernel
theorem dX10_simulate_1 : decode cX10_simulate 1 = .ok (.ifCond .lt 9, 3) := by decide +kernel
theorem dX10_simulate_4 : decode cX10_simulate 4 = .ok (.iload_n 1, 1) := by decide +kernel
theorem dX10_simulate_5 : decode cX10_simulate 5 = .ok (.bipush 120, 2) := by decide +kernel
theorem dX10_simulate_7 : decode cX10_simulate 7 = .ok (.if_icmp .le 14, 3) := by decide +kernel
theorem dX10_simulate_10 : decode cX10_simulate 10 = .ok (.new 123, 3) := by decide +kernel
theorem dX10_simulate_13 : decode cX10_simulate 13 = .ok (.dup, 1) := by decide +kernel
theorem dX10_simulate_14 : decode cX10_simulate 14 = .ok (.ldc_w 335, 3) := by decide +kernel
theorem dX10_simulate_17 : decode cX10_simulate 17 = .ok (.invokespecial 127, 3) := by decide +kernel
theorem dX10_simulate_20 : decode cX10_simulate 20 = .ok (.athrow, 1) := by decide +kernel
theorem dX10_simulate_21 : decode cX10_simulate 21 = .ok (.aload_n 0, 1) := by decide +kernel
theorem dX10_simulate_22 : decode cX10_simulate 22 = .ok (.getfield 35, 3) := by decide +kernel
theorem dX10_simulate_25 : decode cX10_simulate 25 = .ok (.aload_n 0, 1) := by decide +kernel
theorem dX10_simulate_26 : decode cX10_simulate 26 = .ok (.getfield 31, 3) := by decide +kernel
theorem dX10_simulate_29 : decode cX10_simulate 29 = .ok (.invokevirtual 269, 3) := by decide +kernel
theorem dX10_simulate_32 : decode cX10_simulate 32 = .ok (.aload_n 0, 1) := by decide +kernel
theorem dX10_simulate_33 : decode cX10_simulate 33 = .ok (.aload_n 0, 1) := by decide +kernel
theorem dX10_simulate_34 : decode cX10_simulate 34 = .ok (.getfield 35, 3) := by decide +kernel
theorem dX10_simulate_37 : decode cX10_simulate 37 = .ok (.iload_n 1, 1) := by decide +kernel
theorem dX10_simulate_38 : decode cX10_simulate 38 = .ok (.invokevirtual 286, 3) := by decide +kernel
theorem dX10_simulate_41 : decode cX10_simulate 41 = .ok (.pop, 1) := by decide +kernel
theorem dX10_simulate_42 : decode cX10_simulate 42 = .ok (.return_, 1) := by decide +kernel
theorem dX10_letDaysPass_0 : decode cX10_letDaysPass 0 = .ok (.iconst 0, 1) := by decide +kernel
theorem dX10_letDaysPass_1 : decode cX10_letDaysPass 1 = .ok (.istore_n 3, 1) := by decide +kernel
theorem dX10_letDaysPass_2 : decode cX10_letDaysPass 2 = .ok (.iconst 0, 1) := by decide +kernel
theorem dX10_letDaysPass_3 : decode cX10_letDaysPass 3 = .ok (.istore 4, 2) := by decide +kernel
theorem dX10_letDaysPass_5 : decode cX10_letDaysPass 5 = .ok (.iload 4, 2) := by decide +kernel
theorem dX10_letDaysPass_7 : decode cX10_letDaysPass 7 = .ok (.iload_n 2, 1) := by decide +kernel
theorem dX10_letDaysPass_8 : decode cX10_letDaysPass 8 = .ok (.if_icmp .ge 68, 3) := by decide +kernel
theorem dX10_letDaysPass_11 : decode cX10_letDaysPass 11 = .ok (.aload_n 0, 1) := by decide +kernel
theorem dX10_letDaysPass_12 : decode cX10_letDaysPass 12 = .ok (.getfield 24, 3) := by decide +kernel
theorem dX10_letDaysPass_15 : decode cX10_letDaysPass 15 = .ok (.aload_n 1, 1) := by decide +kernel
theorem dX10_letDaysPass_16 : decode cX10_letDaysPass 16 = .ok (.getfield 158, 3) := by decide +kernel
theorem dX10_letDaysPass_19 : decode cX10_letDaysPass 19 = .ok (.invokevirtual 398, 3) := by decide +kernel
theorem dX10_letDaysPass_22 : decode cX10_letDaysPass 22 = .ok (.ifCond .eq 16, 3) := by decide +kernel
theorem dX10_letDaysPass_25 : decode cX10_letDaysPass 25 = .ok (.aload_n 1, 1) := by decide +kernel
theorem dX10_letDaysPass_26 : decode cX10_letDaysPass 26 = .ok (.invokevirtual 401, 3) := by decide +kernel
theorem dX10_letDaysPass_29 : decode cX10_letDaysPass 29 = .ok (.aload_n 0, 1) := by decide +kernel
theorem dX10_letDaysPass_30 : decode cX10_letDaysPass 30 = .ok (.getfield 54, 3) := by decide +kernel
theorem dX10_letDaysPass_33 : decode cX10_letDaysPass 33 = .ok (.aload_n 1, 1) := by decide +kernel
theorem dX10_letDaysPass_34 : decode cX10_letDaysPass 34 = .ok (.invokevirtual 272, 3) := by decide +kernel
theorem dX10_letDaysPass_37 : decode cX10_letDaysPass 37 = .ok (.pop, 1) := by decide +kernel
theorem dX10_letDaysPass_38 : decode cX10_letDaysPass 38 = .ok (.aload_n 1, 1) := by decide +kernel
theorem dX10_letDaysPass_39 : decode cX10_letDaysPass 39 = .ok (.invokevirtual 404, 3) := by decide +kernel
theorem dX10_letDaysPass_42 : decode cX10_letDaysPass 42 = .ok (.iload_n 3, 1) := by decide +kernel
theorem dX10_letDaysPass_43 : decode cX10_letDaysPass 43 = .ok (.aload_n 1, 1) := by decide +kernel
theorem dX10_letDaysPass_44 : decode cX10_letDaysPass 44 = .ok (.aload_n 0, 1) := by decide +kernel
theorem dX10_letDaysPass_45 : decode cX10_letDaysPass 45 = .ok (.getfield 24, 3) := by decide +kernel
theorem dX10_letDaysPass_48 : decode cX10_letDaysPass 48 = .ok (.aload_n 1, 1) := by decide +kernel
theorem dX10_letDaysPass_49 : decode cX10_letDaysPass 49 = .ok (.getfield 158, 3) := by decide +kernel
theorem dX10_letDaysPass_52 : decode cX10_letDaysPass 52 = .ok (.invokevirtual 164, 3) := by decide +kernel
theorem dX10_letDaysPass_55 : decode cX10_letDaysPass 55 = .ok (.invokevirtual 407, 3) := by decide +kernel
theorem dX10_letDaysPass_58 : decode cX10_letDaysPass 58 = .ok (.iadd, 1) := by decide +kernel
theorem dX10_letDaysPass_59 : decode cX10_letDaysPass 59 = .ok (.istore_n 3, 1) := by decide +kernel
theorem dX10_letDaysPass_60 : decode cX10_letDaysPass 60 = .ok (.aload_n 1, 1) := by decide +kernel
theorem dX10_letDaysPass_61 : decode cX10_letDaysPass 61 = .ok (.dup, 1) := by decide +kernel
theorem dX10_letDaysPass_62 : decode cX10_letDaysPass 62 = .ok (.getfield 158, 3) := by decide +kernel
theorem dX10_letDaysPass_65 : decode cX10_letDaysPass 65 = .ok (.iconst 1, 1) := by decide +kernel
theorem dX10_letDaysPass_66 : decode cX10_letDaysPass 66 = .ok (.iadd, 1) := by decide +kernel
theorem dX10_letDaysPass_67 : decode cX10_letDaysPass 67 = .ok (.putfield 158, 3) := by decide +kernel
theorem dX10_letDaysPass_70 : decode cX10_letDaysPass 70 = .ok (.iinc 4 1, 3) := by decide +kernel
theorem dX10_letDaysPass_73 : decode cX10_letDaysPass 73 = .ok (.goto (-68), 3) := by decide +kernel
theorem dX10_letDaysPass_76 : decode cX10_letDaysPass 76 = .ok (.iload_n 3, 1) := by decide +kernel
theorem dX10_letDaysPass_77 : decode cX10_letDaysPass 77 = .ok (.ireturn, 1) := by decide +kernel
theorem dX10_perform_0 : decode cX10_perform 0 = .ok (.aload_n 0, 1) := by decide +kernel
theorem dX10_perform_1 : decode cX10_perform 1 = .ok (.getfield 81, 3) := by decide +kernel
theorem dX10_perform_4 : decode cX10_perform 4 = .ok (.getfield 410, 3) := by decide +kernel
theorem dX10_perform_7 : decode cX10_perform 7 = .ok (.iload_n 1, 1) := by decide +kernel
theorem dX10_perform_8 : decode cX10_perform 8 = .ok (.iaload, 1) := by decide +kernel
theorem dX10_perform_9 : decode cX10_perform 9 = .ok (.istore_n 2, 1) := by decide +kernel
theorem dX10_perform_10 : decode cX10_perform 10 = .ok (.aload_n 0, 1) := by decide +kernel
theorem dX10_perform_11 : decode cX10_perform 11 = .ok (.getfield 81, 3) := by decide +kernel
theorem dX10_perform_14 : decode cX10_perform 14 = .ok (.getfield 413, 3) := by decide +kernel
theorem dX10_perform_17 : decode cX10_perform 17 = .ok (.iload_n 1, 1) := by decide +kernel
theorem dX10_perform_18 : decode cX10_perform 18 = .ok (.iaload, 1) := by decide +kernel
theorem dX10_perform_19 : decode cX10_perform 19 = .ok (.istore_n 3, 1) := by decide +kernel
theorem dX10_perform_20 : decode cX10_perform 20 = .ok (.aload_n 0, 1) := by decide +kernel
theorem dX10_perform_21 : decode cX10_perform 21 = .ok (.getfield 81, 3) := by decide +kernel
theorem dX10_perform_24 : decode cX10_perform 24 = .ok (.getfield 416, 3) := by decide +kernel
theorem dX10_perform_27 : decode cX10_perform 27 = .ok (.iload_n 1, 1) := by decide +kernel
theorem dX10_perform_28 : decode cX10_perform 28 = .ok (.iaload, 1) := by decide +kernel
theorem dX10_perform_29 : decode cX10_perform 29 = .ok (.tableswitch 179 0 6 #[43, 55, 69, 98, 126, 141, 152], 43) := by decide +kernel
theorem dX10_perform_72 : decode cX10_perform 72 = .ok (.aload_n 0, 1) := by decide +kernel
theorem dX10_perform_73 : decode cX10_perform 73 = .ok (.aload_n 0, 1) := by decide +kernel
theorem dX10_perform_74 : decode cX10_perform 74 = .ok (.getfield 31, 3) := by decide +kernel
theorem dX10_perform_77 : decode cX10_perform 77 = .ok (.iload_n 2, 1) := by decide +kernel
theorem dX10_perform_78 : decode cX10_perform 78 = .ok (.invokevirtual 286, 3) := by decide +kernel
theorem dX10_perform_81 : decode cX10_perform 81 = .ok (.pop, 1) := by decide +kernel
theorem dX10_perform_82 : decode cX10_perform 82 = .ok (.iconst 1, 1) := by decide +kernel
theorem dX10_perform_83 : decode cX10_perform 83 = .ok (.ireturn, 1) := by decide +kernel
theorem dX10_perform_84 : decode cX10_perform 84 = .ok (.aload_n 0, 1) := by decide +kernel
theorem dX10_perform_85 : decode cX10_perform 85 = .ok (.getfield 54, 3) := by decide +kernel
theorem dX10_perform_88 : decode cX10_perform 88 = .ok (.aload_n 0, 1) := by decide +kernel
theorem dX10_perform_89 : decode cX10_perform 89 = .ok (.getfield 31, 3) := by decide +kernel
theorem dX10_perform_92 : decode cX10_perform 92 = .ok (.invokevirtual 272, 3) := by decide +kernel
theorem dX10_perform_95 : decode cX10_perform 95 = .ok (.pop, 1) := by decide +kernel
theorem dX10_perform_96 : decode cX10_perform 96 = .ok (.iconst 1, 1) := by decide +kernel
theorem dX10_perform_97 : decode cX10_perform 97 = .ok (.ireturn, 1) := by decide +kernel
theorem dX10_perform_98 : decode cX10_perform 98 = .ok (.aload_n 0, 1) := by decide +kernel
theorem dX10_perform_99 : decode cX10_perform 99 = .ok (.getfield 31, 3) := by decide +kernel
theorem dX10_perform_102 : decode cX10_perform 102 = .ok (.iload_n 2, 1) := by decide +kernel
theorem dX10_perform_103 : decode cX10_perform 103 = .ok (.iload_n 3, 1) := by decide +kernel
theorem dX10_perform_104 : decode cX10_perform 104 = .ok (.invokevirtual 293, 3) := by decide +kernel
theorem dX10_perform_107 : decode cX10_perform 107 = .ok (.ifCond .ne 5, 3) := by decide +kernel
theorem dX10_perform_110 : decode cX10_perform 110 = .ok (.iconst 0, 1) := by decide +kernel
theorem dX10_perform_111 : decode cX10_perform 111 = .ok (.ireturn, 1) := by decide +kernel
theorem dX10_perform_112 : decode cX10_perform 112 = .ok (.aload_n 0, 1) := by decide +kernel
theorem dX10_perform_113 : decode cX10_perform 113 = .ok (.getfield 31, 3) := by decide +kernel
theorem dX10_perform_116 : decode cX10_perform 116 = .ok (.getfield 235, 3) := by decide +kernel
theorem dX10_perform_119 : decode cX10_perform 119 = .ok (.iload_n 2, 1) := by decide +kernel
theorem dX10_perform_120 : decode cX10_perform 120 = .ok (.aaload, 1) := by decide +kernel
theorem dX10_perform_121 : decode cX10_perform 121 = .ok (.iload_n 3, 1) := by decide +kernel
theorem dX10_perform_122 : decode cX10_perform 122 = .ok (.invokevirtual 339, 3) := by decide +kernel
theorem dX10_perform_125 : decode cX10_perform 125 = .ok (.iconst 1, 1) := by decide +kernel
theorem dX10_perform_126 : decode cX10_perform 126 = .ok (.ireturn, 1) := by decide +kernel
theorem dX10_perform_127 : decode cX10_perform 127 = .ok (.aload_n 0, 1) := by decide +kernel
theorem dX10_perform_128 : decode cX10_perform 128 = .ok (.getfield 31, 3) := by decide +kernel
theorem dX10_perform_131 : decode cX10_perform 131 = .ok (.getfield 276, 3) := by decide +kernel
theorem dX10_perform_134 : decode cX10_perform 134 = .ok (.iload_n 2, 1) := by decide +kernel
theorem dX10_perform_135 : decode cX10_perform 135 = .ok (.aaload, 1) := by decide +kernel
theorem dX10_perform_136 : decode cX10_perform 136 = .ok (.getfield 203, 3) := by decide +kernel
theorem dX10_perform_139 : decode cX10_perform 139 = .ok (.iconst (-1), 1) := by decide +kernel
theorem dX10_perform_140 : decode cX10_perform 140 = .ok (.if_icmp .ne 5, 3) := by decide +kernel
theorem dX10_perform_143 : decode cX10_perform 143 = .ok (.iconst 0, 1) := by decide +kernel
theorem dX10_perform_144 : decode cX10_perform 144 = .ok (.ireturn, 1) := by decide +kernel
theorem dX10_perform_145 : decode cX10_perform 145 = .ok (.aload_n 0, 1) := by decide +kernel
theorem dX10_perform_146 : decode cX10_perform 146 = .ok (.getfield 31, 3) := by decide +kernel
theorem dX10_perform_149 : decode cX10_perform 149 = .ok (.iload_n 2, 1) := by decide +kernel
theorem dX10_perform_150 : decode cX10_perform 150 = .ok (.invokevirtual 344, 3) := by decide +kernel
theorem dX10_perform_153 : decode cX10_perform 153 = .ok (.iconst 1, 1) := by decide +kernel
theorem dX10_perform_154 : decode cX10_perform 154 = .ok (.ireturn, 1) := by decide +kernel
theorem dX10_perform_155 : decode cX10_perform 155 = .ok (.aload_n 0, 1) := by decide +kernel
theorem dX10_perform_156 : decode cX10_perform 156 = .ok (.getfield 31, 3) := by decide +kernel
theorem dX10_perform_159 : decode cX10_perform 159 = .ok (.getfield 235, 3) := by decide +kernel
theorem dX10_perform_162 : decode cX10_perform 162 = .ok (.iload_n 2, 1) := by decide +kernel
theorem dX10_perform_163 : decode cX10_perform 163 = .ok (.aaload, 1) := by decide +kernel
theorem dX10_perform_164 : decode cX10_perform 164 = .ok (.iload_n 3, 1) := by decide +kernel
theorem dX10_perform_165 : decode cX10_perform 165 = .ok (.putfield 218, 3) := by decide +kernel
theorem dX10_perform_168 : decode cX10_perform 168 = .ok (.iconst 1, 1) := by decide +kernel
theorem dX10_perform_169 : decode cX10_perform 169 = .ok (.ireturn, 1) := by decide +kernel
theorem dX10_perform_170 : decode cX10_perform 170 = .ok (.aload_n 0, 1) := by decide +kernel
theorem dX10_perform_171 : decode cX10_perform 171 = .ok (.getfield 31, 3) := by decide +kernel
theorem dX10_perform_174 : decode cX10_perform 174 = .ok (.iload_n 2, 1) := by decide +kernel
theorem dX10_perform_175 : decode cX10_perform 175 = .ok (.iload_n 3, 1) := by decide +kernel
theorem dX10_perform_176 : decode cX10_perform 176 = .ok (.invokevirtual 351, 3) := by decide +kernel
theorem dX10_perform_179 : decode cX10_perform 179 = .ok (.iconst 1, 1) := by decide +kernel
theorem dX10_perform_180 : decode cX10_perform 180 = .ok (.ireturn, 1) := by decide +kernel
theorem dX10_perform_181 : decode cX10_perform 181 = .ok (.aload_n 0, 1) := by decide +kernel
theorem dX10_perform_182 : decode cX10_perform 182 = .ok (.getfield 31, 3) := by decide +kernel
theorem dX10_perform_185 : decode cX10_perform 185 = .ok (.getfield 276, 3) := by decide +kernel
theorem dX10_perform_188 : decode cX10_perform 188 = .ok (.iload_n 2, 1) := by decide +kernel
theorem dX10_perform_189 : decode cX10_perform 189 = .ok (.aaload, 1) := by decide +kernel
theorem dX10_perform_190 : decode cX10_perform 190 = .ok (.invokevirtual 354, 3) := by decide +kernel
theorem dX10_perform_193 : decode cX10_perform 193 = .ok (.ifCond .ne 5, 3) := by decide +kernel
theorem dX10_perform_196 : decode cX10_perform 196 = .ok (.iconst 0, 1) := by decide +kernel
theorem dX10_perform_197 : decode cX10_perform 197 = .ok (.ireturn, 1) := by decide +kernel
theorem dX10_perform_198 : decode cX10_perform 198 = .ok (.aload_n 0, 1) := by decide +kernel
theorem dX10_perform_199 : decode cX10_perform 199 = .ok (.getfield 31, 3) := by decide +kernel
theorem dX10_perform_202 : decode cX10_perform 202 = .ok (.iload_n 2, 1) := by decide +kernel
theorem dX10_perform_203 : decode cX10_perform 203 = .ok (.invokevirtual 359, 3) := by decide +kernel
theorem dX10_perform_206 : decode cX10_perform 206 = .ok (.iconst 1, 1) := by decide +kernel
theorem dX10_perform_207 : decode cX10_perform 207 = .ok (.ireturn, 1) := by decide +kernel
theorem dX10_perform_208 : decode cX10_perform 208 = .ok (.iconst 0, 1) := by decide +kernel
theorem dX10_perform_209 : decode cX10_perform 209 = .ok (.ireturn, 1) := by decide +kernel
theorem dX10_writeContracts_0 : decode cX10_writeContracts 0 = .ok (.aload_n 0, 1) := by decide +kernel
theorem dX10_writeContracts_1 : decode cX10_writeContracts 1 = .ok (.getfield 18, 3) := by decide +kernel
theorem dX10_writeContracts_4 : decode cX10_writeContracts 4 = .ok (.aload_n 1, 1) := by decide +kernel
theorem dX10_writeContracts_5 : decode cX10_writeContracts 5 = .ok (.getfield 419, 3) := by decide +kernel
theorem dX10_writeContracts_8 : decode cX10_writeContracts 8 = .ok (.invokevirtual 423, 3) := by decide +kernel
theorem dX10_writeContracts_11 : decode cX10_writeContracts 11 = .ok (.aload_n 0, 1) := by decide +kernel
theorem dX10_writeContracts_12 : decode cX10_writeContracts 12 = .ok (.getfield 18, 3) := by decide +kernel
theorem dX10_writeContracts_15 : decode cX10_writeContracts 15 = .ok (.bipush 61, 2) := by decide +kernel
theorem dX10_writeContracts_17 : decode cX10_writeContracts 17 = .ok (.invokevirtual 101, 3) := by decide +kernel
theorem dX10_writeContracts_20 : decode cX10_writeContracts 20 = .ok (.iconst 0, 1) := by decide +kernel
theorem dX10_writeContracts_21 : decode cX10_writeContracts 21 = .ok (.istore_n 2, 1) := by decide +kernel
theorem dX10_writeContracts_22 : decode cX10_writeContracts 22 = .ok (.iload_n 2, 1) := by decide +kernel
theorem dX10_writeContracts_23 : decode cX10_writeContracts 23 = .ok (.aload_n 1, 1) := by decide +kernel
theorem dX10_writeContracts_24 : decode cX10_writeContracts 24 = .ok (.getfield 224, 3) := by decide +kernel
theorem dX10_writeContracts_27 : decode cX10_writeContracts 27 = .ok (.if_icmp .ge 46, 3) := by decide +kernel
theorem dX10_writeContracts_30 : decode cX10_writeContracts 30 = .ok (.iload_n 2, 1) := by decide +kernel
theorem dX10_writeContracts_31 : decode cX10_writeContracts 31 = .ok (.ifCond .le 12, 3) := by decide +kernel
theorem dX10_writeContracts_34 : decode cX10_writeContracts 34 = .ok (.aload_n 0, 1) := by decide +kernel
theorem dX10_writeContracts_35 : decode cX10_writeContracts 35 = .ok (.getfield 18, 3) := by decide +kernel
theorem dX10_writeContracts_38 : decode cX10_writeContracts 38 = .ok (.bipush 43, 2) := by decide +kernel
theorem dX10_writeContracts_40 : decode cX10_writeContracts 40 = .ok (.invokevirtual 101, 3) := by decide +kernel
theorem dX10_writeContracts_43 : decode cX10_writeContracts 43 = .ok (.aload_n 0, 1) := by decide +kernel
theorem dX10_writeContracts_44 : decode cX10_writeContracts 44 = .ok (.getfield 18, 3) := by decide +kernel
theorem dX10_writeContracts_47 : decode cX10_writeContracts 47 = .ok (.aload_n 0, 1) := by decide +kernel
theorem dX10_writeContracts_48 : decode cX10_writeContracts 48 = .ok (.getfield 31, 3) := by decide +kernel
theorem dX10_writeContracts_51 : decode cX10_writeContracts 51 = .ok (.getfield 276, 3) := by decide +kernel
theorem dX10_writeContracts_54 : decode cX10_writeContracts 54 = .ok (.aload_n 1, 1) := by decide +kernel
theorem dX10_writeContracts_55 : decode cX10_writeContracts 55 = .ok (.getfield 227, 3) := by decide +kernel
theorem dX10_writeContracts_58 : decode cX10_writeContracts 58 = .ok (.iload_n 2, 1) := by decide +kernel
theorem dX10_writeContracts_59 : decode cX10_writeContracts 59 = .ok (.iaload, 1) := by decide +kernel
theorem dX10_writeContracts_60 : decode cX10_writeContracts 60 = .ok (.aaload, 1) := by decide +kernel
theorem dX10_writeContracts_61 : decode cX10_writeContracts 61 = .ok (.getfield 427, 3) := by decide +kernel
theorem dX10_writeContracts_64 : decode cX10_writeContracts 64 = .ok (.invokevirtual 423, 3) := by decide +kernel
theorem dX10_writeContracts_67 : decode cX10_writeContracts 67 = .ok (.iinc 2 1, 3) := by decide +kernel
theorem dX10_writeContracts_70 : decode cX10_writeContracts 70 = .ok (.goto (-48), 3) := by decide +kernel
theorem dX10_writeContracts_73 : decode cX10_writeContracts 73 = .ok (.return_, 1) := by decide +kernel
theorem dX11_init_0 : decode cX11_init 0 = .ok (.aload_n 0, 1) := by decide +kernel
theorem dX11_init_1 : decode cX11_init 1 = .ok (.invokespecial 1, 3) := by decide +kernel
theorem dX11_init_4 : decode cX11_init 4 = .ok (.aload_n 0, 1) := by decide +kernel
theorem dX11_init_5 : decode cX11_init 5 = .ok (.sipush 627, 3) := by decide +kernel
theorem dX11_init_8 : decode cX11_init 8 = .ok (.newarray .int, 2) := by decide +kernel
theorem dX11_init_10 : decode cX11_init 10 = .ok (.putfield 7, 3) := by decide +kernel
theorem dX11_init_13 : decode cX11_init 13 = .ok (.aload_n 0, 1) := by decide +kernel
theorem dX11_init_14 : decode cX11_init 14 = .ok (.sipush 627, 3) := by decide +kernel
theorem dX11_init_17 : decode cX11_init 17 = .ok (.newarray .int, 2) := by decide +kernel
theorem dX11_init_19 : decode cX11_init 19 = .ok (.putfield 13, 3) := by decide +kernel
theorem dX11_init_22 : decode cX11_init 22 = .ok (.aload_n 0, 1) := by decide +kernel
theorem dX11_init_23 : decode cX11_init 23 = .ok (.sipush 627, 3) := by decide +kernel
theorem dX11_init_26 : decode cX11_init 26 = .ok (.newarray .int, 2) := by decide +kernel
theorem dX11_init_28 : decode cX11_init 28 = .ok (.putfield 16, 3) := by decide +kernel
theorem dX11_init_31 : decode cX11_init 31 = .ok (.aload_n 0, 1) := by decide +kernel
theorem dX11_init_32 : decode cX11_init 32 = .ok (.sipush 627, 3) := by decide +kernel
theorem dX11_init_35 : decode cX11_init 35 = .ok (.newarray .int, 2) := by decide +kernel
theorem dX11_init_37 : decode cX11_init 37 = .ok (.putfield 19, 3) := by decide +kernel
theorem dX11_init_40 : decode cX11_init 40 = .ok (.aload_n 0, 1) := by decide +kernel
theorem dX11_init_41 : decode cX11_init 41 = .ok (.sipush 5016, 3) := by decide +kernel
theorem dX11_init_44 : decode cX11_init 44 = .ok (.newarray .int, 2) := by decide +kernel
theorem dX11_init_46 : decode cX11_init 46 = .ok (.putfield 22, 3) := by decide +kernel
theorem dX11_init_49 : decode cX11_init 49 = .ok (.aload_n 0, 1) := by decide +kernel
theorem dX11_init_50 : decode cX11_init 50 = .ok (.bipush 16, 2) := by decide +kernel
theorem dX11_init_52 : decode cX11_init 52 = .ok (.newarray .int, 2) := by decide +kernel
theorem dX11_init_54 : decode cX11_init 54 = .ok (.putfield 25, 3) := by decide +kernel
theorem dX11_init_57 : decode cX11_init 57 = .ok (.aload_n 0, 1) := by decide +kernel
theorem dX11_init_58 : decode cX11_init 58 = .ok (.bipush 24, 2) := by decide +kernel
theorem dX11_init_60 : decode cX11_init 60 = .ok (.newarray .int, 2) := by decide +kernel
theorem dX11_init_62 : decode cX11_init 62 = .ok (.putfield 28, 3) := by decide +kernel
theorem dX11_init_65 : decode cX11_init 65 = .ok (.aload_n 0, 1) := by decide +kernel
theorem dX11_init_66 : decode cX11_init 66 = .ok (.bipush 8, 2) := by decide +kernel
theorem dX11_init_68 : decode cX11_init 68 = .ok (.newarray .int, 2) := by decide +kernel
theorem dX11_init_70 : decode cX11_init 70 = .ok (.putfield 31, 3) := by decide +kernel
theorem dX11_init_73 : decode cX11_init 73 = .ok (.aload_n 0, 1) := by decide +kernel
theorem dX11_init_74 : decode cX11_init 74 = .ok (.bipush 96, 2) := by decide +kernel
theorem dX11_init_76 : decode cX11_init 76 = .ok (.newarray .boolean, 2) := by decide +kernel
theorem dX11_init_78 : decode cX11_init 78 = .ok (.putfield 34, 3) := by decide +kernel
theorem dX11_init_81 : decode cX11_init 81 = .ok (.aload_n 0, 1) := by decide +kernel
theorem dX11_init_82 : decode cX11_init 82 = .ok (.sipush 900, 3) := by decide +kernel
theorem dX11_init_85 : decode cX11_init 85 = .ok (.newarray .int, 2) := by decide +kernel
theorem dX11_init_87 : decode cX11_init 87 = .ok (.putfield 38, 3) := by decide +kernel
theorem dX11_init_90 : decode cX11_init 90 = .ok (.aload_n 0, 1) := by decide +kernel
theorem dX11_init_91 : decode cX11_init 91 = .ok (.iconst (-1), 1) := by decide +kernel
theorem dX11_init_92 : decode cX11_init 92 = .ok (.putfield 41, 3) := by decide +kernel
theorem dX11_init_95 : decode cX11_init 95 = .ok (.aload_n 0, 1) := by decide +kernel
theorem dX11_init_96 : decode cX11_init 96 = .ok (.bipush 90, 2) := by decide +kernel
theorem dX11_init_98 : decode cX11_init 98 = .ok (.newarray .int, 2) := by decide +kernel
theorem dX11_init_100 : decode cX11_init 100 = .ok (.putfield 45, 3) := by decide +kernel
theorem dX11_init_103 : decode cX11_init 103 = .ok (.aload_n 0, 1) := by decide +kernel
theorem dX11_init_104 : decode cX11_init 104 = .ok (.sipush 256, 3) := by decide +kernel
theorem dX11_init_107 : decode cX11_init 107 = .ok (.newarray .int, 2) := by decide +kernel
theorem dX11_init_109 : decode cX11_init 109 = .ok (.putfield 48, 3) := by decide +kernel
theorem dX11_init_112 : decode cX11_init 112 = .ok (.ldc 51, 2) := by decide +kernel
theorem dX11_init_114 : decode cX11_init 114 = .ok (.astore_n 1, 1) := by decide +kernel
theorem dX11_init_115 : decode cX11_init 115 = .ok (.iconst 0, 1) := by decide +kernel
theorem dX11_init_116 : decode cX11_init 116 = .ok (.istore_n 2, 1) := by decide +kernel
theorem dX11_init_117 : decode cX11_init 117 = .ok (.iload_n 2, 1) := by decide +kernel
theorem dX11_init_118 : decode cX11_init 118 = .ok (.aload_n 1, 1) := by decide +kernel
theorem dX11_init_119 : decode cX11_init 119 = .ok (.invokevirtual 53, 3) := by decide +kernel
theorem dX11_init_122 : decode cX11_init 122 = .ok (.if_icmp .ge 20, 3) := by decide +kernel
theorem dX11_init_125 : decode cX11_init 125 = .ok (.aload_n 0, 1) := by decide +kernel
theorem dX11_init_126 : decode cX11_init 126 = .ok (.getfield 38, 3) := by decide +kernel
theorem dX11_init_129 : decode cX11_init 129 = .ok (.iload_n 2, 1) := by decide +kernel
theorem dX11_init_130 : decode cX11_init 130 = .ok (.aload_n 1, 1) := by decide +kernel
theorem dX11_init_131 : decode cX11_init 131 = .ok (.iload_n 2, 1) := by decide +kernel
theorem dX11_init_132 : decode cX11_init 132 = .ok (.invokevirtual 59, 3) := by decide +kernel
theorem dX11_init_135 : decode cX11_init 135 = .ok (.iastore, 1) := by decide +kernel
theorem dX11_init_136 : decode cX11_init 136 = .ok (.iinc 2 1, 3) := by decide +kernel
theorem dX11_init_139 : decode cX11_init 139 = .ok (.goto (-22), 3) := by decide +kernel
theorem dX11_init_142 : decode cX11_init 142 = .ok (.aload_n 0, 1) := by decide +kernel
theorem dX11_init_143 : decode cX11_init 143 = .ok (.aload_n 1, 1) := by decide +kernel
theorem dX11_init_144 : decode cX11_init 144 = .ok (.invokevirtual 53, 3) := by decide +kernel
theorem dX11_init_147 : decode cX11_init 147 = .ok (.putfield 63, 3) := by decide +kernel
theorem dX11_init_150 : decode cX11_init 150 = .ok (.aload_n 0, 1) := by decide +kernel
theorem dX11_init_151 : decode cX11_init 151 = .ok (.invokevirtual 65, 3) := by decide +kernel
theorem dX11_init_154 : decode cX11_init 154 = .ok (.istore_n 2, 1) := by decide +kernel
theorem dX11_init_155 : decode cX11_init 155 = .ok (.return_, 1) := by decide +kernel
theorem dX11_in_0 : decode cX11_in 0 = .ok (.lload_n 0, 1) := by decide +kernel
theorem dX11_in_1 : decode cX11_in 1 = .ok (.lload_n 2, 1) := by decide +kernel
theorem dX11_in_2 : decode cX11_in 2 = .ok (.lcmp, 1) := by decide +kernel
theorem dX11_in_3 : decode cX11_in 3 = .ok (.ifCond .lt 14, 3) := by decide +kernel
theorem dX11_in_6 : decode cX11_in 6 = .ok (.lload_n 0, 1) := by decide +kernel
theorem dX11_in_7 : decode cX11_in 7 = .ok (.lload 4, 2) := by decide +kernel
theorem dX11_in_9 : decode cX11_in 9 = .ok (.lcmp, 1) := by decide +kernel
theorem dX11_in_10 : decode cX11_in 10 = .ok (.ifCond .gt 7, 3) := by decide +kernel
theorem dX11_in_13 : decode cX11_in 13 = .ok (.iconst 1, 1) := by decide +kernel
theorem dX11_in_14 : decode cX11_in 14 = .ok (.goto 4, 3) := by decide +kernel
theorem dX11_in_17 : decode cX11_in 17 = .ok (.iconst 0, 1) := by decide +kernel
theorem dX11_in_18 : decode cX11_in 18 = .ok (.ireturn, 1) := by decide +kernel
theorem dX11_truth_0 : decode cX11_truth 0 = .ok (.iload_n 0, 1) := by decide +kernel
theorem dX11_truth_1 : decode cX11_truth 1 = .ok (.ifCond .eq 7, 3) := by decide +kernel
theorem dX11_truth_4 : decode cX11_truth 4 = .ok (.iconst 1, 1) := by decide +kernel
theorem dX11_truth_5 : decode cX11_truth 5 = .ok (.goto 4, 3) := by decide +kernel
theorem dX11_truth_8 : decode cX11_truth 8 = .ok (.iconst 0, 1) := by decide +kernel
theorem dX11_truth_9 : decode cX11_truth 9 = .ok (.ireturn, 1) := by decide +kernel
theorem dX11_passes_0 : decode cX11_passes 0 = .ok (.aload_n 0, 1) := by decide +kernel
theorem dX11_passes_1 : decode cX11_passes 1 = .ok (.iload_n 1, 1) := by decide +kernel
theorem dX11_passes_2 : decode cX11_passes 2 = .ok (.ifCond .eq 7, 3) := by decide +kernel
theorem dX11_passes_5 : decode cX11_passes 5 = .ok (.iconst 0, 1) := by decide +kernel
theorem dX11_passes_6 : decode cX11_passes 6 = .ok (.goto 4, 3) := by decide +kernel
theorem dX11_passes_9 : decode cX11_passes 9 = .ok (.iconst 1, 1) := by decide +kernel
theorem dX11_passes_10 : decode cX11_passes 10 = .ok (.putfield 68, 3) := by decide +kernel
theorem dX11_passes_13 : decode cX11_passes 13 = .ok (.iload_n 1, 1) := by decide +kernel
theorem dX11_passes_14 : decode cX11_passes 14 = .ok (.ireturn, 1) := by decide +kernel
theorem dX11_passesBoth_0 : decode cX11_passesBoth 0 = .ok (.aload_n 0, 1) := by decide +kernel
theorem dX11_passesBoth_1 : decode cX11_passesBoth 1 = .ok (.iload_n 1, 1) := by decide +kernel
theorem dX11_passesBoth_2 : decode cX11_passesBoth 2 = .ok (.ifCond .ne 7, 3) := by decide +kernel
theorem dX11_passesBoth_5 : decode cX11_passesBoth 5 = .ok (.iconst 1, 1) := by decide +kernel
theorem dX11_passesBoth_6 : decode cX11_passesBoth 6 = .ok (.goto 12, 3) := by decide +kernel
theorem dX11_passesBoth_9 : decode cX11_passesBoth 9 = .ok (.iload_n 2, 1) := by decide +kernel
theorem dX11_passesBoth_10 : decode cX11_passesBoth 10 = .ok (.ifCond .ne 7, 3) := by decide +kernel
theorem dX11_passesBoth_13 : decode cX11_passesBoth 13 = .ok (.iconst 2, 1) := by decide +kernel
theorem dX11_passesBoth_14 : decode cX11_passesBoth 14 = .ok (.goto 4, 3) := by decide +kernel
theorem dX11_passesBoth_17 : decode cX11_passesBoth 17 = .ok (.iconst 0, 1) := by decide +kernel
theorem dX11_passesBoth_18 : decode cX11_passesBoth 18 = .ok (.putfield 68, 3) := by decide +kernel
theorem dX11_passesBoth_21 : decode cX11_passesBoth 21 = .ok (.aload_n 0, 1) := by decide +kernel
theorem dX11_passesBoth_22 : decode cX11_passesBoth 22 = .ok (.getfield 68, 3) := by decide +kernel
theorem dX11_passesBoth_25 : decode cX11_passesBoth 25 = .ok (.ifCond .ne 7, 3) := by decide +kernel
theorem dX11_passesBoth_28 : decode cX11_passesBoth 28 = .ok (.iconst 1, 1) := by decide +kernel
theorem dX11_passesBoth_29 : decode cX11_passesBoth 29 = .ok (.goto 4, 3) := by decide +kernel
theorem dX11_passesBoth_32 : decode cX11_passesBoth 32 = .ok (.iconst 0, 1) := by decide +kernel
theorem dX11_passesBoth_33 : decode cX11_passesBoth 33 = .ok (.ireturn, 1) := by decide +kernel
theorem dX11_copies_0 : decode cX11_copies 0 = .ok (.iconst 0, 1) := by decide +kernel
theorem dX11_copies_1 : decode cX11_copies 1 = .ok (.istore 4, 2) := by decide +kernel
theorem dX11_copies_3 : decode cX11_copies 3 = .ok (.iload 4, 2) := by decide +kernel
theorem dX11_copies_5 : decode cX11_copies 5 = .ok (.sipush 627, 3) := by decide +kernel
theorem dX11_copies_8 : decode cX11_copies 8 = .ok (.if_icmp .ge 21, 3) := by decide +kernel
theorem dX11_copies_11 : decode cX11_copies 11 = .ok (.aload_n 2, 1) := by decide +kernel
theorem dX11_copies_12 : decode cX11_copies 12 = .ok (.iload_n 3, 1) := by decide +kernel
theorem dX11_copies_13 : decode cX11_copies 13 = .ok (.iload 4, 2) := by decide +kernel
theorem dX11_copies_15 : decode cX11_copies 15 = .ok (.iadd, 1) := by decide +kernel
theorem dX11_copies_16 : decode cX11_copies 16 = .ok (.aload_n 0, 1) := by decide +kernel
theorem dX11_copies_17 : decode cX11_copies 17 = .ok (.iload_n 1, 1) := by decide +kernel
theorem dX11_copies_18 : decode cX11_copies 18 = .ok (.iload 4, 2) := by decide +kernel
theorem dX11_copies_20 : decode cX11_copies 20 = .ok (.iadd, 1) := by decide +kernel
theorem dX11_copies_21 : decode cX11_copies 21 = .ok (.iaload, 1) := by decide +kernel
theorem dX11_copies_22 : decode cX11_copies 22 = .ok (.iastore, 1) := by decide +kernel
theorem dX11_copies_23 : decode cX11_copies 23 = .ok (.iinc 4 1, 3) := by decide +kernel
theorem dX11_copies_26 : decode cX11_copies 26 = .ok (.goto (-23), 3) := by decide +kernel
theorem dX11_copies_29 : decode cX11_copies 29 = .ok (.return_, 1) := by decide +kernel
theorem dX11_tries_0 : decode cX11_tries 0 = .ok (.aload_n 0, 1) := by decide +kernel
theorem dX11_tries_1 : decode cX11_tries 1 = .ok (.getfield 7, 3) := by decide +kernel
theorem dX11_tries_4 : decode cX11_tries 4 = .ok (.iconst 0, 1) := by decide +kernel
theorem dX11_tries_5 : decode cX11_tries 5 = .ok (.aload_n 0, 1) := by decide +kernel
theorem dX11_tries_6 : decode cX11_tries 6 = .ok (.getfield 19, 3) := by decide +kernel
theorem dX11_tries_9 : decode cX11_tries 9 = .ok (.iconst 0, 1) := by decide +kernel
theorem dX11_tries_10 : decode cX11_tries 10 = .ok (.invokestatic 71, 3) := by decide +kernel
theorem dX11_tries_13 : decode cX11_tries 13 = .ok (.return_, 1) := by decide +kernel
theorem dX11_laidBack_0 : decode cX11_laidBack 0 = .ok (.aload_n 0, 1) := by decide +kernel
theorem dX11_laidBack_1 : decode cX11_laidBack 1 = .ok (.getfield 19, 3) := by decide +kernel
theorem dX11_laidBack_4 : decode cX11_laidBack 4 = .ok (.iconst 0, 1) := by decide +kernel
theorem dX11_laidBack_5 : decode cX11_laidBack 5 = .ok (.aload_n 0, 1) := by decide +kernel
theorem dX11_laidBack_6 : decode cX11_laidBack 6 = .ok (.getfield 7, 3) := by decide +kernel
theorem dX11_laidBack_9 : decode cX11_laidBack 9 = .ok (.iconst 0, 1) := by decide +kernel
theorem dX11_laidBack_10 : decode cX11_laidBack 10 = .ok (.invokestatic 71, 3) := by decide +kernel
theorem dX11_laidBack_13 : decode cX11_laidBack 13 = .ok (.iload_n 1, 1) := by decide +kernel
theorem dX11_laidBack_14 : decode cX11_laidBack 14 = .ok (.ireturn, 1) := by decide +kernel
theorem dX11_of_0 : decode cX11_of 0 = .ok (.aload_n 0, 1) := by decide +kernel
theorem dX11_of_1 : decode cX11_of 1 = .ok (.getfield 7, 3) := by decide +kernel
theorem dX11_of_4 : decode cX11_of 4 = .ok (.bipush 23, 2) := by decide +kernel
theorem dX11_of_6 : decode cX11_of 6 = .ok (.bipush 15, 2) := by decide +kernel
theorem dX11_of_8 : decode cX11_of 8 = .ok (.iload_n 1, 1) := by decide +kernel
theorem dX11_of_9 : decode cX11_of 9 = .ok (.imul, 1) := by decide +kernel
theorem dX11_of_10 : decode cX11_of 10 = .ok (.iadd, 1) := by decide +kernel
theorem dX11_of_11 : decode cX11_of 11 = .ok (.iload_n 2, 1) := by decide +kernel
theorem dX11_of_12 : decode cX11_of 12 = .ok (.iadd, 1) := by decide +kernel
theorem dX11_of_13 : decode cX11_of 13 = .ok (.iaload, 1) := by decide +kernel
theorem dX11_of_14 : decode cX11_of 14 = .ok (.ireturn, 1) := by decide +kernel
theorem dX11_puts_0 : decode cX11_puts 0 = .ok (.aload_n 0, 1) := by decide +kernel
theorem dX11_puts_1 : decode cX11_puts 1 = .ok (.getfield 7, 3) := by decide +kernel
theorem dX11_puts_4 : decode cX11_puts 4 = .ok (.bipush 23, 2) := by decide +kernel
theorem dX11_puts_6 : decode cX11_puts 6 = .ok (.bipush 15, 2) := by decide +kernel
theorem dX11_puts_8 : decode cX11_puts 8 = .ok (.iload_n 1, 1) := by decide +kernel
theorem dX11_puts_9 : decode cX11_puts 9 = .ok (.imul, 1) := by decide +kernel
theorem dX11_puts_10 : decode cX11_puts 10 = .ok (.iadd, 1) := by decide +kernel
theorem dX11_puts_11 : decode cX11_puts 11 = .ok (.iload_n 2, 1) := by decide +kernel
theorem dX11_puts_12 : decode cX11_puts 12 = .ok (.iadd, 1) := by decide +kernel
theorem dX11_puts_13 : decode cX11_puts 13 = .ok (.iload_n 3, 1) := by decide +kernel
theorem dX11_puts_14 : decode cX11_puts 14 = .ok (.iastore, 1) := by decide +kernel
theorem dX11_puts_15 : decode cX11_puts 15 = .ok (.return_, 1) := by decide +kernel
theorem dX11_ofValley_0 : decode cX11_ofValley 0 = .ok (.aload_n 0, 1) := by decide +kernel
theorem dX11_ofValley_1 : decode cX11_ofValley 1 = .ok (.getfield 7, 3) := by decide +kernel
theorem dX11_ofValley_4 : decode cX11_ofValley 4 = .ok (.sipush 203, 3) := by decide +kernel
theorem dX11_ofValley_7 : decode cX11_ofValley 7 = .ok (.bipush 17, 2) := by decide +kernel
theorem dX11_ofValley_9 : decode cX11_ofValley 9 = .ok (.iload_n 1, 1) := by decide +kernel
theorem dX11_ofValley_10 : decode cX11_ofValley 10 = .ok (.imul, 1) := by decide +kernel
theorem dX11_ofValley_11 : decode cX11_ofValley 11 = .ok (.iadd, 1) := by decide +kernel
theorem dX11_ofValley_12 : decode cX11_ofValley 12 = .ok (.iload_n 2, 1) := by decide +kernel
theorem dX11_ofValley_13 : decode cX11_ofValley 13 = .ok (.iadd, 1) := by decide +kernel
theorem dX11_ofValley_14 : decode cX11_ofValley 14 = .ok (.iaload, 1) := by decide +kernel
theorem dX11_ofValley_15 : decode cX11_ofValley 15 = .ok (.ireturn, 1) := by decide +kernel
theorem dX11_putsValley_0 : decode cX11_putsValley 0 = .ok (.aload_n 0, 1) := by decide +kernel
theorem dX11_putsValley_1 : decode cX11_putsValley 1 = .ok (.getfield 7, 3) := by decide +kernel
theorem dX11_putsValley_4 : decode cX11_putsValley 4 = .ok (.sipush 203, 3) := by decide +kernel
theorem dX11_putsValley_7 : decode cX11_putsValley 7 = .ok (.bipush 17, 2) := by decide +kernel
theorem dX11_putsValley_9 : decode cX11_putsValley 9 = .ok (.iload_n 1, 1) := by decide +kernel
theorem dX11_putsValley_10 : decode cX11_putsValley 10 = .ok (.imul, 1) := by decide +kernel
theorem dX11_putsValley_11 : decode cX11_putsValley 11 = .ok (.iadd, 1) := by decide +kernel
theorem dX11_putsValley_12 : decode cX11_putsValley 12 = .ok (.iload_n 2, 1) := by decide +kernel
theorem dX11_putsValley_13 : decode cX11_putsValley 13 = .ok (.iadd, 1) := by decide +kernel
theorem dX11_putsValley_14 : decode cX11_putsValley 14 = .ok (.iload_n 3, 1) := by decide +kernel
theorem dX11_putsValley_15 : decode cX11_putsValley 15 = .ok (.iastore, 1) := by decide +kernel
theorem dX11_putsValley_16 : decode cX11_putsValley 16 = .ok (.return_, 1) := by decide +kernel
theorem dX11_pair_0 : decode cX11_pair 0 = .ok (.sipush 339, 3) := by decide +kernel
theorem dX11_pair_3 : decode cX11_pair 3 = .ok (.iconst 3, 1) := by decide +kernel
theorem dX11_pair_4 : decode cX11_pair 4 = .ok (.bipush 12, 2) := by decide +kernel
theorem dX11_pair_6 : decode cX11_pair 6 = .ok (.iload_n 0, 1) := by decide +kernel
theorem dX11_pair_7 : decode cX11_pair 7 = .ok (.imul, 1) := by decide +kernel
theorem dX11_pair_8 : decode cX11_pair 8 = .ok (.iload_n 1, 1) := by decide +kernel
theorem dX11_pair_9 : decode cX11_pair 9 = .ok (.iadd, 1) := by decide +kernel
theorem dX11_pair_10 : decode cX11_pair 10 = .ok (.imul, 1) := by decide +kernel
theorem dX11_pair_11 : decode cX11_pair 11 = .ok (.iadd, 1) := by decide +kernel
theorem dX11_pair_12 : decode cX11_pair 12 = .ok (.iload_n 2, 1) := by decide +kernel
theorem dX11_pair_13 : decode cX11_pair 13 = .ok (.iadd, 1) := by decide +kernel
theorem dX11_pair_14 : decode cX11_pair 14 = .ok (.ireturn, 1) := by decide +kernel
theorem dX11_isEcho_0 : decode cX11_isEcho 0 = .ok (.iload_n 1, 1) := by decide +kernel
theorem dX11_isEcho_1 : decode cX11_isEcho 1 = .ok (.i2l, 1) := by decide +kernel
theorem dX11_isEcho_2 : decode cX11_isEcho 2 = .ok (.lconst 0, 1) := by decide +kernel
theorem dX11_isEcho_3 : decode cX11_isEcho 3 = .ok (.aload_n 0, 1) := by decide +kernel
theorem dX11_isEcho_4 : decode cX11_isEcho 4 = .ok (.getfield 7, 3) := by decide +kernel
theorem dX11_isEcho_7 : decode cX11_isEcho 7 = .ok (.iconst 0, 1) := by decide +kernel
theorem dX11_isEcho_8 : decode cX11_isEcho 8 = .ok (.iaload, 1) := by decide +kernel
theorem dX11_isEcho_9 : decode cX11_isEcho 9 = .ok (.iconst 1, 1) := by decide +kernel
theorem dX11_isEcho_10 : decode cX11_isEcho 10 = .ok (.isub, 1) := by decide +kernel
theorem dX11_isEcho_11 : decode cX11_isEcho 11 = .ok (.i2l, 1) := by decide +kernel
theorem dX11_isEcho_12 : decode cX11_isEcho 12 = .ok (.invokestatic 75, 3) := by decide +kernel
theorem dX11_isEcho_15 : decode cX11_isEcho 15 = .ok (.ireturn, 1) := by decide +kernel
theorem dX11_isValley_0 : decode cX11_isValley 0 = .ok (.iload_n 1, 1) := by decide +kernel
theorem dX11_isValley_1 : decode cX11_isValley 1 = .ok (.i2l, 1) := by decide +kernel
theorem dX11_isValley_2 : decode cX11_isValley 2 = .ok (.lconst 0, 1) := by decide +kernel
theorem dX11_isValley_3 : decode cX11_isValley 3 = .ok (.aload_n 0, 1) := by decide +kernel
theorem dX11_isValley_4 : decode cX11_isValley 4 = .ok (.getfield 7, 3) := by decide +kernel
theorem dX11_isValley_7 : decode cX11_isValley 7 = .ok (.iconst 1, 1) := by decide +kernel
theorem dX11_isValley_8 : decode cX11_isValley 8 = .ok (.iaload, 1) := by decide +kernel
theorem dX11_isValley_9 : decode cX11_isValley 9 = .ok (.iconst 1, 1) := by decide +kernel
theorem dX11_isValley_10 : decode cX11_isValley 10 = .ok (.isub, 1) := by decide +kernel
theorem dX11_isValley_11 : decode cX11_isValley 11 = .ok (.i2l, 1) := by decide +kernel
theorem dX11_isValley_12 : decode cX11_isValley 12 = .ok (.invokestatic 75, 3) := by decide +kernel
theorem dX11_isValley_15 : decode cX11_isValley 15 = .ok (.ireturn, 1) := by decide +kernel
theorem dX11_areBoth_0 : decode cX11_areBoth 0 = .ok (.aload_n 0, 1) := by decide +kernel
theorem dX11_areBoth_1 : decode cX11_areBoth 1 = .ok (.iload_n 1, 1) := by decide +kernel
theorem dX11_areBoth_2 : decode cX11_areBoth 2 = .ok (.invokevirtual 79, 3) := by decide +kernel
theorem dX11_areBoth_5 : decode cX11_areBoth 5 = .ok (.ifCond .eq 15, 3) := by decide +kernel
theorem dX11_areBoth_8 : decode cX11_areBoth 8 = .ok (.aload_n 0, 1) := by decide +kernel
theorem dX11_areBoth_9 : decode cX11_areBoth 9 = .ok (.iload_n 2, 1) := by decide +kernel
theorem dX11_areBoth_10 : decode cX11_areBoth 10 = .ok (.invokevirtual 83, 3) := by decide +kernel
theorem dX11_areBoth_13 : decode cX11_areBoth 13 = .ok (.ifCond .eq 7, 3) := by decide +kernel
theorem dX11_areBoth_16 : decode cX11_areBoth 16 = .ok (.iconst 1, 1) := by decide +kernel
theorem dX11_areBoth_17 : decode cX11_areBoth 17 = .ok (.goto 4, 3) := by decide +kernel
theorem dX11_areBoth_20 : decode cX11_areBoth 20 = .ok (.iconst 0, 1) := by decide +kernel
theorem dX11_areBoth_21 : decode cX11_areBoth 21 = .ok (.ireturn, 1) := by decide +kernel
theorem dX11_employer_0 : decode cX11_employer 0 = .ok (.aload_n 0, 1) := by decide +kernel
theorem dX11_employer_1 : decode cX11_employer 1 = .ok (.iload_n 1, 1) := by decide +kernel
theorem dX11_employer_2 : decode cX11_employer 2 = .ok (.bipush 13, 2) := by decide +kernel
theorem dX11_employer_4 : decode cX11_employer 4 = .ok (.invokevirtual 86, 3) := by decide +kernel
theorem dX11_employer_7 : decode cX11_employer 7 = .ok (.iconst 1, 1) := by decide +kernel
theorem dX11_employer_8 : decode cX11_employer 8 = .ok (.isub, 1) := by decide +kernel
theorem dX11_employer_9 : decode cX11_employer 9 = .ok (.ireturn, 1) := by decide +kernel
theorem dX11_hasContract_0 : decode cX11_hasContract 0 = .ok (.aload_n 0, 1) := by decide +kernel
theorem dX11_hasContract_1 : decode cX11_hasContract 1 = .ok (.iload_n 1, 1) := by decide +kernel
theorem dX11_hasContract_2 : decode cX11_hasContract 2 = .ok (.bipush 13, 2) := by decide +kernel
theorem dX11_hasContract_4 : decode cX11_hasContract 4 = .ok (.invokevirtual 86, 3) := by decide +kernel
theorem dX11_hasContract_7 : decode cX11_hasContract 7 = .ok (.ifCond .le 7, 3) := by decide +kernel
theorem dX11_hasContract_10 : decode cX11_hasContract 10 = .ok (.iconst 1, 1) := by decide +kernel
theorem dX11_hasContract_11 : decode cX11_hasContract 11 = .ok (.goto 4, 3) := by decide +kernel
theorem dX11_hasContract_14 : decode cX11_hasContract 14 = .ok (.iconst 0, 1) := by decide +kernel
theorem dX11_hasContract_15 : decode cX11_hasContract 15 = .ok (.ireturn, 1) := by decide +kernel
theorem dX11_freePosts_0 : decode cX11_freePosts 0 = .ok (.aload_n 0, 1) := by decide +kernel
theorem dX11_freePosts_1 : decode cX11_freePosts 1 = .ok (.iload_n 1, 1) := by decide +kernel
theorem dX11_freePosts_2 : decode cX11_freePosts 2 = .ok (.bipush 8, 2) := by decide +kernel
theorem dX11_freePosts_4 : decode cX11_freePosts 4 = .ok (.invokevirtual 90, 3) := by decide +kernel
theorem dX11_freePosts_7 : decode cX11_freePosts 7 = .ok (.aload_n 0, 1) := by decide +kernel
theorem dX11_freePosts_8 : decode cX11_freePosts 8 = .ok (.iload_n 1, 1) := by decide +kernel
theorem dX11_freePosts_9 : decode cX11_freePosts 9 = .ok (.bipush 13, 2) := by decide +kernel
theorem dX11_freePosts_11 : decode cX11_freePosts 11 = .ok (.invokevirtual 90, 3) := by decide +kernel
theorem dX11_freePosts_14 : decode cX11_freePosts 14 = .ok (.isub, 1) := by decide +kernel
theorem dX11_freePosts_15 : decode cX11_freePosts 15 = .ok (.ireturn, 1) := by decide +kernel
theorem dX11_fogNow_0 : decode cX11_fogNow 0 = .ok (.aload_n 0, 1) := by decide +kernel
theorem dX11_fogNow_1 : decode cX11_fogNow 1 = .ok (.getfield 7, 3) := by decide +kernel
theorem dX11_fogNow_4 : decode cX11_fogNow 4 = .ok (.bipush 11, 2) := by decide +kernel
theorem dX11_fogNow_6 : decode cX11_fogNow 6 = .ok (.iload_n 1, 1) := by decide +kernel
theorem dX11_fogNow_7 : decode cX11_fogNow 7 = .ok (.aload_n 0, 1) := by decide +kernel
theorem dX11_fogNow_8 : decode cX11_fogNow 8 = .ok (.getfield 7, 3) := by decide +kernel
theorem dX11_fogNow_11 : decode cX11_fogNow 11 = .ok (.iconst 4, 1) := by decide +kernel
theorem dX11_fogNow_12 : decode cX11_fogNow 12 = .ok (.iaload, 1) := by decide +kernel
theorem dX11_fogNow_13 : decode cX11_fogNow 13 = .ok (.irem, 1) := by decide +kernel
theorem dX11_fogNow_14 : decode cX11_fogNow 14 = .ok (.iadd, 1) := by decide +kernel
theorem dX11_fogNow_15 : decode cX11_fogNow 15 = .ok (.iaload, 1) := by decide +kernel
theorem dX11_fogNow_16 : decode cX11_fogNow 16 = .ok (.ireturn, 1) := by decide +kernel
theorem dX11_trueScore_0 : decode cX11_trueScore 0 = .ok (.bipush 10, 2) := by decide +kernel
theorem dX11_trueScore_2 : decode cX11_trueScore 2 = .ok (.aload_n 0, 1) := by decide +kernel
theorem dX11_trueScore_3 : decode cX11_trueScore 3 = .ok (.iload_n 2, 1) := by decide +kernel
theorem dX11_trueScore_4 : decode cX11_trueScore 4 = .ok (.bipush 8, 2) := by decide +kernel
theorem dX11_trueScore_6 : decode cX11_trueScore 6 = .ok (.invokevirtual 86, 3) := by decide +kernel
theorem dX11_trueScore_9 : decode cX11_trueScore 9 = .ok (.imul, 1) := by decide +kernel
theorem dX11_trueScore_10 : decode cX11_trueScore 10 = .ok (.iconst 4, 1) := by decide +kernel
theorem dX11_trueScore_11 : decode cX11_trueScore 11 = .ok (.aload_n 0, 1) := by decide +kernel
theorem dX11_trueScore_12 : decode cX11_trueScore 12 = .ok (.iload_n 2, 1) := by decide +kernel
theorem dX11_trueScore_13 : decode cX11_trueScore 13 = .ok (.bipush 7, 2) := by decide +kernel
theorem dX11_trueScore_15 : decode cX11_trueScore 15 = .ok (.invokevirtual 86, 3) := by decide +kernel
theorem dX11_trueScore_18 : decode cX11_trueScore 18 = .ok (.aload_n 0, 1) := by decide +kernel
theorem dX11_trueScore_19 : decode cX11_trueScore 19 = .ok (.iload_n 1, 1) := by decide +kernel
theorem dX11_trueScore_20 : decode cX11_trueScore 20 = .ok (.bipush 7, 2) := by decide +kernel
theorem dX11_trueScore_22 : decode cX11_trueScore 22 = .ok (.invokevirtual 90, 3) := by decide +kernel
theorem dX11_trueScore_25 : decode cX11_trueScore 25 = .ok (.isub, 1) := by decide +kernel
theorem dX11_trueScore_26 : decode cX11_trueScore 26 = .ok (.invokestatic 93, 3) := by decide +kernel
theorem dX11_trueScore_29 : decode cX11_trueScore 29 = .ok (.imul, 1) := by decide +kernel
theorem dX11_trueScore_30 : decode cX11_trueScore 30 = .ok (.isub, 1) := by decide +kernel
theorem dX11_trueScore_31 : decode cX11_trueScore 31 = .ok (.ireturn, 1) := by decide +kernel
theorem dX11_seen_0 : decode cX11_seen 0 = .ok (.aload_n 0, 1) := by decide +kernel
theorem dX11_seen_1 : decode cX11_seen 1 = .ok (.getfield 7, 3) := by decide +kernel
theorem dX11_seen_4 : decode cX11_seen 4 = .ok (.iload_n 1, 1) := by decide +kernel
theorem dX11_seen_5 : decode cX11_seen 5 = .ok (.iload_n 2, 1) := by decide +kernel
theorem dX11_seen_6 : decode cX11_seen 6 = .ok (.iconst 0, 1) := by decide +kernel
theorem dX11_seen_7 : decode cX11_seen 7 = .ok (.invokestatic 99, 3) := by decide +kernel
theorem dX11_seen_10 : decode cX11_seen 10 = .ok (.iaload, 1) := by decide +kernel
theorem dX11_seen_11 : decode cX11_seen 11 = .ok (.iconst 1, 1) := by decide +kernel
theorem dX11_seen_12 : decode cX11_seen 12 = .ok (.if_icmp .ne 12, 3) := by decide +kernel
theorem dX11_seen_15 : decode cX11_seen 15 = .ok (.aload_n 0, 1) := by decide +kernel
theorem dX11_seen_16 : decode cX11_seen 16 = .ok (.iload_n 1, 1) := by decide +kernel
theorem dX11_seen_17 : decode cX11_seen 17 = .ok (.iload_n 2, 1) := by decide +kernel
theorem dX11_seen_18 : decode cX11_seen 18 = .ok (.invokevirtual 103, 3) := by decide +kernel
theorem dX11_seen_21 : decode cX11_seen 21 = .ok (.goto 5, 3) := by decide +kernel
theorem dX11_seen_24 : decode cX11_seen 24 = .ok (.bipush 30, 2) := by decide +kernel
theorem dX11_seen_26 : decode cX11_seen 26 = .ok (.ireturn, 1) := by decide +kernel
theorem dX11_reasonOf_0 : decode cX11_reasonOf 0 = .ok (.aload_n 0, 1) := by decide +kernel
theorem dX11_reasonOf_1 : decode cX11_reasonOf 1 = .ok (.iload_n 1, 1) := by decide +kernel
theorem dX11_reasonOf_2 : decode cX11_reasonOf 2 = .ok (.bipush 9, 2) := by decide +kernel
theorem dX11_reasonOf_4 : decode cX11_reasonOf 4 = .ok (.invokevirtual 90, 3) := by decide +kernel
theorem dX11_reasonOf_7 : decode cX11_reasonOf 7 = .ok (.aload_n 0, 1) := by decide +kernel
theorem dX11_reasonOf_8 : decode cX11_reasonOf 8 = .ok (.iload_n 2, 1) := by decide +kernel
theorem dX11_reasonOf_9 : decode cX11_reasonOf 9 = .ok (.bipush 9, 2) := by decide +kernel
theorem dX11_reasonOf_11 : decode cX11_reasonOf 11 = .ok (.invokevirtual 86, 3) := by decide +kernel
theorem dX11_reasonOf_14 : decode cX11_reasonOf 14 = .ok (.if_icmp .ge 5, 3) := by decide +kernel
theorem dX11_reasonOf_17 : decode cX11_reasonOf 17 = .ok (.iconst 1, 1) := by decide +kernel
theorem dX11_reasonOf_18 : decode cX11_reasonOf 18 = .ok (.ireturn, 1) := by decide +kernel
theorem dX11_reasonOf_19 : decode cX11_reasonOf 19 = .ok (.aload_n 0, 1) := by decide +kernel
theorem dX11_reasonOf_20 : decode cX11_reasonOf 20 = .ok (.iload_n 1, 1) := by decide +kernel
theorem dX11_reasonOf_21 : decode cX11_reasonOf 21 = .ok (.iload_n 2, 1) := by decide +kernel
theorem dX11_reasonOf_22 : decode cX11_reasonOf 22 = .ok (.invokevirtual 106, 3) := by decide +kernel
theorem dX11_reasonOf_25 : decode cX11_reasonOf 25 = .ok (.iconst 1, 1) := by decide +kernel
theorem dX11_reasonOf_26 : decode cX11_reasonOf 26 = .ok (.if_icmp .ge 5, 3) := by decide +kernel
theorem dX11_reasonOf_29 : decode cX11_reasonOf 29 = .ok (.iconst 2, 1) := by decide +kernel
theorem dX11_reasonOf_30 : decode cX11_reasonOf 30 = .ok (.ireturn, 1) := by decide +kernel
theorem dX11_reasonOf_31 : decode cX11_reasonOf 31 = .ok (.aload_n 0, 1) := by decide +kernel
theorem dX11_reasonOf_32 : decode cX11_reasonOf 32 = .ok (.getfield 7, 3) := by decide +kernel
theorem dX11_reasonOf_35 : decode cX11_reasonOf 35 = .ok (.iload_n 1, 1) := by decide +kernel
theorem dX11_reasonOf_36 : decode cX11_reasonOf 36 = .ok (.iload_n 2, 1) := by decide +kernel
theorem dX11_reasonOf_37 : decode cX11_reasonOf 37 = .ok (.iconst 1, 1) := by decide +kernel
theorem dX11_reasonOf_38 : decode cX11_reasonOf 38 = .ok (.invokestatic 99, 3) := by decide +kernel
theorem dX11_reasonOf_41 : decode cX11_reasonOf 41 = .ok (.iaload, 1) := by decide +kernel
theorem dX11_reasonOf_42 : decode cX11_reasonOf 42 = .ok (.iconst 1, 1) := by decide +kernel
theorem dX11_reasonOf_43 : decode cX11_reasonOf 43 = .ok (.if_icmp .ne 7, 3) := by decide +kernel
theorem dX11_reasonOf_46 : decode cX11_reasonOf 46 = .ok (.iconst 3, 1) := by decide +kernel
theorem dX11_reasonOf_47 : decode cX11_reasonOf 47 = .ok (.goto 4, 3) := by decide +kernel
theorem dX11_reasonOf_50 : decode cX11_reasonOf 50 = .ok (.iconst 0, 1) := by decide +kernel
theorem dX11_reasonOf_51 : decode cX11_reasonOf 51 = .ok (.ireturn, 1) := by decide +kernel
theorem dX11_isAcceptable_0 : decode cX11_isAcceptable 0 = .ok (.aload_n 0, 1) := by decide +kernel
theorem dX11_isAcceptable_1 : decode cX11_isAcceptable 1 = .ok (.iload_n 1, 1) := by decide +kernel
theorem dX11_isAcceptable_2 : decode cX11_isAcceptable 2 = .ok (.iload_n 2, 1) := by decide +kernel
theorem dX11_isAcceptable_3 : decode cX11_isAcceptable 3 = .ok (.invokevirtual 109, 3) := by decide +kernel
theorem dX11_isAcceptable_6 : decode cX11_isAcceptable 6 = .ok (.ifCond .ne 7, 3) := by decide +kernel
theorem dX11_isAcceptable_9 : decode cX11_isAcceptable 9 = .ok (.iconst 1, 1) := by decide +kernel
theorem dX11_isAcceptable_10 : decode cX11_isAcceptable 10 = .ok (.goto 4, 3) := by decide +kernel
theorem dX11_isAcceptable_13 : decode cX11_isAcceptable 13 = .ok (.iconst 0, 1) := by decide +kernel
theorem dX11_isAcceptable_14 : decode cX11_isAcceptable 14 = .ok (.ireturn, 1) := by decide +kernel
theorem dX11_isBetterValley_0 : decode cX11_isBetterValley 0 = .ok (.aload_n 0, 1) := by decide +kernel
theorem dX11_isBetterValley_1 : decode cX11_isBetterValley 1 = .ok (.iload_n 1, 1) := by decide +kernel
theorem dX11_isBetterValley_2 : decode cX11_isBetterValley 2 = .ok (.bipush 9, 2) := by decide +kernel
theorem dX11_isBetterValley_4 : decode cX11_isBetterValley 4 = .ok (.invokevirtual 90, 3) := by decide +kernel
theorem dX11_isBetterValley_7 : decode cX11_isBetterValley 7 = .ok (.aload_n 0, 1) := by decide +kernel
theorem dX11_isBetterValley_8 : decode cX11_isBetterValley 8 = .ok (.iload_n 2, 1) := by decide +kernel
theorem dX11_isBetterValley_9 : decode cX11_isBetterValley 9 = .ok (.bipush 9, 2) := by decide +kernel
theorem dX11_isBetterValley_11 : decode cX11_isBetterValley 11 = .ok (.invokevirtual 90, 3) := by decide +kernel
theorem dX11_isBetterValley_14 : decode cX11_isBetterValley 14 = .ok (.isub, 1) := by decide +kernel
theorem dX11_isBetterValley_15 : decode cX11_isBetterValley 15 = .ok (.istore_n 3, 1) := by decide +kernel
theorem dX11_isBetterValley_16 : decode cX11_isBetterValley 16 = .ok (.iload_n 3, 1) := by decide +kernel
theorem dX11_isBetterValley_17 : decode cX11_isBetterValley 17 = .ok (.ifCond .gt 12, 3) := by decide +kernel
theorem dX11_isBetterValley_20 : decode cX11_isBetterValley 20 = .ok (.iload_n 3, 1) := by decide +kernel
theorem dX11_isBetterValley_21 : decode cX11_isBetterValley 21 = .ok (.ifCond .ne 12, 3) := by decide +kernel
theorem dX11_isBetterValley_24 : decode cX11_isBetterValley 24 = .ok (.iload_n 1, 1) := by decide +kernel
theorem dX11_isBetterValley_25 : decode cX11_isBetterValley 25 = .ok (.iload_n 2, 1) := by decide +kernel
theorem dX11_isBetterValley_26 : decode cX11_isBetterValley 26 = .ok (.if_icmp .ge 7, 3) := by decide +kernel
theorem dX11_isBetterValley_29 : decode cX11_isBetterValley 29 = .ok (.iconst 1, 1) := by decide +kernel
theorem dX11_isBetterValley_30 : decode cX11_isBetterValley 30 = .ok (.goto 4, 3) := by decide +kernel
theorem dX11_isBetterValley_33 : decode cX11_isBetterValley 33 = .ok (.iconst 0, 1) := by decide +kernel
theorem dX11_isBetterValley_34 : decode cX11_isBetterValley 34 = .ok (.ireturn, 1) := by decide +kernel
theorem dX11_isBetterEcho_0 : decode cX11_isBetterEcho 0 = .ok (.aload_n 0, 1) := by decide +kernel
theorem dX11_isBetterEcho_1 : decode cX11_isBetterEcho 1 = .ok (.iload_n 1, 1) := by decide +kernel
theorem dX11_isBetterEcho_2 : decode cX11_isBetterEcho 2 = .ok (.iload_n 2, 1) := by decide +kernel
theorem dX11_isBetterEcho_3 : decode cX11_isBetterEcho 3 = .ok (.invokevirtual 106, 3) := by decide +kernel
theorem dX11_isBetterEcho_6 : decode cX11_isBetterEcho 6 = .ok (.aload_n 0, 1) := by decide +kernel
theorem dX11_isBetterEcho_7 : decode cX11_isBetterEcho 7 = .ok (.iload_n 1, 1) := by decide +kernel
theorem dX11_isBetterEcho_8 : decode cX11_isBetterEcho 8 = .ok (.iload_n 3, 1) := by decide +kernel
theorem dX11_isBetterEcho_9 : decode cX11_isBetterEcho 9 = .ok (.invokevirtual 106, 3) := by decide +kernel
theorem dX11_isBetterEcho_12 : decode cX11_isBetterEcho 12 = .ok (.isub, 1) := by decide +kernel
theorem dX11_isBetterEcho_13 : decode cX11_isBetterEcho 13 = .ok (.istore 4, 2) := by decide +kernel
theorem dX11_isBetterEcho_15 : decode cX11_isBetterEcho 15 = .ok (.iload 4, 2) := by decide +kernel
theorem dX11_isBetterEcho_17 : decode cX11_isBetterEcho 17 = .ok (.ifCond .gt 13, 3) := by decide +kernel
theorem dX11_isBetterEcho_20 : decode cX11_isBetterEcho 20 = .ok (.iload 4, 2) := by decide +kernel
theorem dX11_isBetterEcho_22 : decode cX11_isBetterEcho 22 = .ok (.ifCond .ne 12, 3) := by decide +kernel
theorem dX11_isBetterEcho_25 : decode cX11_isBetterEcho 25 = .ok (.iload_n 2, 1) := by decide +kernel
theorem dX11_isBetterEcho_26 : decode cX11_isBetterEcho 26 = .ok (.iload_n 3, 1) := by decide +kernel
theorem dX11_isBetterEcho_27 : decode cX11_isBetterEcho 27 = .ok (.if_icmp .ge 7, 3) := by decide +kernel
theorem dX11_isBetterEcho_30 : decode cX11_isBetterEcho 30 = .ok (.iconst 1, 1) := by decide +kernel
theorem dX11_isBetterEcho_31 : decode cX11_isBetterEcho 31 = .ok (.goto 4, 3) := by decide +kernel
theorem dX11_isBetterEcho_34 : decode cX11_isBetterEcho 34 = .ok (.iconst 0, 1) := by decide +kernel
theorem dX11_isBetterEcho_35 : decode cX11_isBetterEcho 35 = .ok (.ireturn, 1) := by decide +kernel
theorem dX11_contractComes_0 : decode cX11_contractComes 0 = .ok (.aload_n 0, 1) := by decide +kernel
theorem dX11_contractComes_1 : decode cX11_contractComes 1 = .ok (.iload_n 1, 1) := by decide +kernel
theorem dX11_contractComes_2 : decode cX11_contractComes 2 = .ok (.bipush 13, 2) := by decide +kernel
theorem dX11_contractComes_4 : decode cX11_contractComes 4 = .ok (.invokevirtual 90, 3) := by decide +kernel
theorem dX11_contractComes_7 : decode cX11_contractComes 7 = .ok (.istore_n 3, 1) := by decide +kernel
theorem dX11_contractComes_8 : decode cX11_contractComes 8 = .ok (.aload_n 0, 1) := by decide +kernel
theorem dX11_contractComes_9 : decode cX11_contractComes 9 = .ok (.iload_n 1, 1) := by decide +kernel
theorem dX11_contractComes_10 : decode cX11_contractComes 10 = .ok (.bipush 14, 2) := by decide +kernel
theorem dX11_contractComes_12 : decode cX11_contractComes 12 = .ok (.iload_n 3, 1) := by decide +kernel
theorem dX11_contractComes_13 : decode cX11_contractComes 13 = .ok (.iadd, 1) := by decide +kernel
theorem dX11_contractComes_14 : decode cX11_contractComes 14 = .ok (.iload_n 2, 1) := by decide +kernel
theorem dX11_contractComes_15 : decode cX11_contractComes 15 = .ok (.invokevirtual 112, 3) := by decide +kernel
theorem dX11_contractComes_18 : decode cX11_contractComes 18 = .ok (.aload_n 0, 1) := by decide +kernel
theorem dX11_contractComes_19 : decode cX11_contractComes 19 = .ok (.iload_n 1, 1) := by decide +kernel
theorem dX11_contractComes_20 : decode cX11_contractComes 20 = .ok (.bipush 13, 2) := by decide +kernel
theorem dX11_contractComes_22 : decode cX11_contractComes 22 = .ok (.iload_n 3, 1) := by decide +kernel
theorem dX11_contractComes_23 : decode cX11_contractComes 23 = .ok (.iconst 1, 1) := by decide +kernel
theorem dX11_contractComes_24 : decode cX11_contractComes 24 = .ok (.iadd, 1) := by decide +kernel
theorem dX11_contractComes_25 : decode cX11_contractComes 25 = .ok (.invokevirtual 112, 3) := by decide +kernel
theorem dX11_contractComes_28 : decode cX11_contractComes 28 = .ok (.aload_n 0, 1) := by decide +kernel
theorem dX11_contractComes_29 : decode cX11_contractComes 29 = .ok (.iload_n 2, 1) := by decide +kernel
theorem dX11_contractComes_30 : decode cX11_contractComes 30 = .ok (.bipush 13, 2) := by decide +kernel
theorem dX11_contractComes_32 : decode cX11_contractComes 32 = .ok (.iload_n 1, 1) := by decide +kernel
theorem dX11_contractComes_33 : decode cX11_contractComes 33 = .ok (.iconst 1, 1) := by decide +kernel
theorem dX11_contractComes_34 : decode cX11_contractComes 34 = .ok (.iadd, 1) := by decide +kernel
theorem dX11_contractComes_35 : decode cX11_contractComes 35 = .ok (.invokevirtual 116, 3) := by decide +kernel
theorem dX11_contractComes_38 : decode cX11_contractComes 38 = .ok (.aload_n 0, 1) := by decide +kernel
theorem dX11_contractComes_39 : decode cX11_contractComes 39 = .ok (.getfield 7, 3) := by decide +kernel
theorem dX11_contractComes_42 : decode cX11_contractComes 42 = .ok (.iconst 5, 1) := by decide +kernel
theorem dX11_contractComes_43 : decode cX11_contractComes 43 = .ok (.dup2, 1) := by decide +kernel
theorem dX11_contractComes_44 : decode cX11_contractComes 44 = .ok (.iaload, 1) := by decide +kernel
theorem dX11_contractComes_45 : decode cX11_contractComes 45 = .ok (.iconst 1, 1) := by decide +kernel
theorem dX11_contractComes_46 : decode cX11_contractComes 46 = .ok (.iadd, 1) := by decide +kernel
theorem dX11_contractComes_47 : decode cX11_contractComes 47 = .ok (.iastore, 1) := by decide +kernel
theorem dX11_contractComes_48 : decode cX11_contractComes 48 = .ok (.return_, 1) := by decide +kernel
theorem dX11_contractEnds_0 : decode cX11_contractEnds 0 = .ok (.aload_n 0, 1) := by decide +kernel
theorem dX11_contractEnds_1 : decode cX11_contractEnds 1 = .ok (.iload_n 1, 1) := by decide +kernel
theorem dX11_contractEnds_2 : decode cX11_contractEnds 2 = .ok (.invokevirtual 119, 3) := by decide +kernel
theorem dX11_contractEnds_5 : decode cX11_contractEnds 5 = .ok (.istore_n 2, 1) := by decide +kernel
theorem dX11_contractEnds_6 : decode cX11_contractEnds 6 = .ok (.aload_n 0, 1) := by decide +kernel
theorem dX11_contractEnds_7 : decode cX11_contractEnds 7 = .ok (.iload_n 2, 1) := by decide +kernel
theorem dX11_contractEnds_8 : decode cX11_contractEnds 8 = .ok (.bipush 13, 2) := by decide +kernel
theorem dX11_contractEnds_10 : decode cX11_contractEnds 10 = .ok (.invokevirtual 90, 3) := by decide +kernel
theorem dX11_contractEnds_13 : decode cX11_contractEnds 13 = .ok (.istore_n 3, 1) := by decide +kernel
theorem dX11_contractEnds_14 : decode cX11_contractEnds 14 = .ok (.iconst 0, 1) := by decide +kernel
theorem dX11_contractEnds_15 : decode cX11_contractEnds 15 = .ok (.istore 4, 2) := by decide +kernel
theorem dX11_contractEnds_17 : decode cX11_contractEnds 17 = .ok (.aload_n 0, 1) := by decide +kernel
theorem dX11_contractEnds_18 : decode cX11_contractEnds 18 = .ok (.iload_n 2, 1) := by decide +kernel
theorem dX11_contractEnds_19 : decode cX11_contractEnds 19 = .ok (.bipush 14, 2) := by decide +kernel
theorem dX11_contractEnds_21 : decode cX11_contractEnds 21 = .ok (.iload 4, 2) := by decide +kernel
theorem dX11_contractEnds_23 : decode cX11_contractEnds 23 = .ok (.iadd, 1) := by decide +kernel
theorem dX11_contractEnds_24 : decode cX11_contractEnds 24 = .ok (.invokevirtual 90, 3) := by decide +kernel
theorem dX11_contractEnds_27 : decode cX11_contractEnds 27 = .ok (.iload_n 1, 1) := by decide +kernel
theorem dX11_contractEnds_28 : decode cX11_contractEnds 28 = .ok (.if_icmp .eq 9, 3) := by decide +kernel
theorem dX11_contractEnds_31 : decode cX11_contractEnds 31 = .ok (.iinc 4 1, 3) := by decide +kernel
theorem dX11_contractEnds_34 : decode cX11_contractEnds 34 = .ok (.goto (-17), 3) := by decide +kernel
theorem dX11_contractEnds_37 : decode cX11_contractEnds 37 = .ok (.iload 4, 2) := by decide +kernel
theorem dX11_contractEnds_39 : decode cX11_contractEnds 39 = .ok (.istore 5, 2) := by decide +kernel
theorem dX11_contractEnds_41 : decode cX11_contractEnds 41 = .ok (.iload 5, 2) := by decide +kernel
theorem dX11_contractEnds_43 : decode cX11_contractEnds 43 = .ok (.iconst 1, 1) := by decide +kernel
theorem dX11_contractEnds_44 : decode cX11_contractEnds 44 = .ok (.iadd, 1) := by decide +kernel
theorem dX11_contractEnds_45 : decode cX11_contractEnds 45 = .ok (.iload_n 3, 1) := by decide +kernel
theorem dX11_contractEnds_46 : decode cX11_contractEnds 46 = .ok (.if_icmp .ge 31, 3) := by decide +kernel
theorem dX11_contractEnds_49 : decode cX11_contractEnds 49 = .ok (.aload_n 0, 1) := by decide +kernel
theorem dX11_contractEnds_50 : decode cX11_contractEnds 50 = .ok (.iload_n 2, 1) := by decide +kernel
theorem dX11_contractEnds_51 : decode cX11_contractEnds 51 = .ok (.bipush 14, 2) := by decide +kernel
theorem dX11_contractEnds_53 : decode cX11_contractEnds 53 = .ok (.iload 5, 2) := by decide +kernel
theorem dX11_contractEnds_55 : decode cX11_contractEnds 55 = .ok (.iadd, 1) := by decide +kernel
theorem dX11_contractEnds_56 : decode cX11_contractEnds 56 = .ok (.aload_n 0, 1) := by decide +kernel
theorem dX11_contractEnds_57 : decode cX11_contractEnds 57 = .ok (.iload_n 2, 1) := by decide +kernel
theorem dX11_contractEnds_58 : decode cX11_contractEnds 58 = .ok (.bipush 14, 2) := by decide +kernel
theorem dX11_contractEnds_60 : decode cX11_contractEnds 60 = .ok (.iload 5, 2) := by decide +kernel
theorem dX11_contractEnds_62 : decode cX11_contractEnds 62 = .ok (.iadd, 1) := by decide +kernel
theorem dX11_contractEnds_63 : decode cX11_contractEnds 63 = .ok (.iconst 1, 1) := by decide +kernel
theorem dX11_contractEnds_64 : decode cX11_contractEnds 64 = .ok (.iadd, 1) := by decide +kernel
theorem dX11_contractEnds_65 : decode cX11_contractEnds 65 = .ok (.invokevirtual 90, 3) := by decide +kernel
theorem dX11_contractEnds_68 : decode cX11_contractEnds 68 = .ok (.invokevirtual 112, 3) := by decide +kernel
theorem dX11_contractEnds_71 : decode cX11_contractEnds 71 = .ok (.iinc 5 1, 3) := by decide +kernel
theorem dX11_contractEnds_74 : decode cX11_contractEnds 74 = .ok (.goto (-33), 3) := by decide +kernel
theorem dX11_contractEnds_77 : decode cX11_contractEnds 77 = .ok (.aload_n 0, 1) := by decide +kernel
theorem dX11_contractEnds_78 : decode cX11_contractEnds 78 = .ok (.iload_n 2, 1) := by decide +kernel
theorem dX11_contractEnds_79 : decode cX11_contractEnds 79 = .ok (.bipush 13, 2) := by decide +kernel
theorem dX11_contractEnds_81 : decode cX11_contractEnds 81 = .ok (.iload_n 3, 1) := by decide +kernel
theorem dX11_contractEnds_82 : decode cX11_contractEnds 82 = .ok (.iconst 1, 1) := by decide +kernel
theorem dX11_contractEnds_83 : decode cX11_contractEnds 83 = .ok (.isub, 1) := by decide +kernel
theorem dX11_contractEnds_84 : decode cX11_contractEnds 84 = .ok (.invokevirtual 112, 3) := by decide +kernel
theorem dX11_contractEnds_87 : decode cX11_contractEnds 87 = .ok (.aload_n 0, 1) := by decide +kernel
theorem dX11_contractEnds_88 : decode cX11_contractEnds 88 = .ok (.iload_n 1, 1) := by decide +kernel
theorem dX11_contractEnds_89 : decode cX11_contractEnds 89 = .ok (.bipush 13, 2) := by decide +kernel
theorem dX11_contractEnds_91 : decode cX11_contractEnds 91 = .ok (.iconst 0, 1) := by decide +kernel
theorem dX11_contractEnds_92 : decode cX11_contractEnds 92 = .ok (.invokevirtual 116, 3) := by decide +kernel
theorem dX11_contractEnds_95 : decode cX11_contractEnds 95 = .ok (.aload_n 0, 1) := by decide +kernel
theorem dX11_contractEnds_96 : decode cX11_contractEnds 96 = .ok (.iload_n 1, 1) := by decide +kernel
theorem dX11_contractEnds_97 : decode cX11_contractEnds 97 = .ok (.bipush 12, 2) := by decide +kernel
theorem dX11_contractEnds_99 : decode cX11_contractEnds 99 = .ok (.iconst 0, 1) := by decide +kernel
theorem dX11_contractEnds_100 : decode cX11_contractEnds 100 = .ok (.invokevirtual 116, 3) := by decide +kernel
theorem dX11_contractEnds_103 : decode cX11_contractEnds 103 = .ok (.aload_n 0, 1) := by decide +kernel
theorem dX11_contractEnds_104 : decode cX11_contractEnds 104 = .ok (.getfield 7, 3) := by decide +kernel
theorem dX11_contractEnds_107 : decode cX11_contractEnds 107 = .ok (.bipush 6, 2) := by decide +kernel
theorem dX11_contractEnds_109 : decode cX11_contractEnds 109 = .ok (.dup2, 1) := by decide +kernel
theorem dX11_contractEnds_110 : decode cX11_contractEnds 110 = .ok (.iaload, 1) := by decide +kernel
theorem dX11_contractEnds_111 : decode cX11_contractEnds 111 = .ok (.iconst 1, 1) := by decide +kernel
theorem dX11_contractEnds_112 : decode cX11_contractEnds 112 = .ok (.iadd, 1) := by decide +kernel
theorem dX11_contractEnds_113 : decode cX11_contractEnds 113 = .ok (.iastore, 1) := by decide +kernel
theorem dX11_contractEnds_114 : decode cX11_contractEnds 114 = .ok (.return_, 1) := by decide +kernel
theorem dX11_enqueues_0 : decode cX11_enqueues 0 = .ok (.aload_n 0, 1) := by decide +kernel
theorem dX11_enqueues_1 : decode cX11_enqueues 1 = .ok (.getfield 25, 3) := by decide +kernel
theorem dX11_enqueues_4 : decode cX11_enqueues 4 = .ok (.aload_n 0, 1) := by decide +kernel
theorem dX11_enqueues_5 : decode cX11_enqueues 5 = .ok (.getfield 122, 3) := by decide +kernel
theorem dX11_enqueues_8 : decode cX11_enqueues 8 = .ok (.aload_n 0, 1) := by decide +kernel
theorem dX11_enqueues_9 : decode cX11_enqueues 9 = .ok (.getfield 125, 3) := by decide +kernel
theorem dX11_enqueues_12 : decode cX11_enqueues 12 = .ok (.iadd, 1) := by decide +kernel
theorem dX11_enqueues_13 : decode cX11_enqueues 13 = .ok (.bipush 16, 2) := by decide +kernel
theorem dX11_enqueues_15 : decode cX11_enqueues 15 = .ok (.irem, 1) := by decide +kernel
theorem dX11_enqueues_16 : decode cX11_enqueues 16 = .ok (.iload_n 1, 1) := by decide +kernel
theorem dX11_enqueues_17 : decode cX11_enqueues 17 = .ok (.iastore, 1) := by decide +kernel
theorem dX11_enqueues_18 : decode cX11_enqueues 18 = .ok (.aload_n 0, 1) := by decide +kernel
theorem dX11_enqueues_19 : decode cX11_enqueues 19 = .ok (.dup, 1) := by decide +kernel
theorem dX11_enqueues_20 : decode cX11_enqueues 20 = .ok (.getfield 125, 3) := by decide +kernel
theorem dX11_enqueues_23 : decode cX11_enqueues 23 = .ok (.iconst 1, 1) := by decide +kernel
theorem dX11_enqueues_24 : decode cX11_enqueues 24 = .ok (.iadd, 1) := by decide +kernel
theorem dX11_enqueues_25 : decode cX11_enqueues 25 = .ok (.putfield 125, 3) := by decide +kernel
theorem dX11_enqueues_28 : decode cX11_enqueues 28 = .ok (.return_, 1) := by decide +kernel
theorem dX11_dequeues_0 : decode cX11_dequeues 0 = .ok (.aload_n 0, 1) := by decide +kernel
theorem dX11_dequeues_1 : decode cX11_dequeues 1 = .ok (.getfield 25, 3) := by decide +kernel
theorem dX11_dequeues_4 : decode cX11_dequeues 4 = .ok (.aload_n 0, 1) := by decide +kernel
theorem dX11_dequeues_5 : decode cX11_dequeues 5 = .ok (.getfield 122, 3) := by decide +kernel
theorem dX11_dequeues_8 : decode cX11_dequeues 8 = .ok (.iaload, 1) := by decide +kernel
theorem dX11_dequeues_9 : decode cX11_dequeues 9 = .ok (.istore_n 1, 1) := by decide +kernel
theorem dX11_dequeues_10 : decode cX11_dequeues 10 = .ok (.aload_n 0, 1) := by decide +kernel
theorem dX11_dequeues_11 : decode cX11_dequeues 11 = .ok (.aload_n 0, 1) := by decide +kernel
theorem dX11_dequeues_12 : decode cX11_dequeues 12 = .ok (.getfield 122, 3) := by decide +kernel
theorem dX11_dequeues_15 : decode cX11_dequeues 15 = .ok (.iconst 1, 1) := by decide +kernel
theorem dX11_dequeues_16 : decode cX11_dequeues 16 = .ok (.iadd, 1) := by decide +kernel
theorem dX11_dequeues_17 : decode cX11_dequeues 17 = .ok (.bipush 16, 2) := by decide +kernel
theorem dX11_dequeues_19 : decode cX11_dequeues 19 = .ok (.irem, 1) := by decide +kernel
theorem dX11_dequeues_20 : decode cX11_dequeues 20 = .ok (.putfield 122, 3) := by decide +kernel
theorem dX11_dequeues_23 : decode cX11_dequeues 23 = .ok (.aload_n 0, 1) := by decide +kernel
theorem dX11_dequeues_24 : decode cX11_dequeues 24 = .ok (.dup, 1) := by decide +kernel
theorem dX11_dequeues_25 : decode cX11_dequeues 25 = .ok (.getfield 125, 3) := by decide +kernel
theorem dX11_dequeues_28 : decode cX11_dequeues 28 = .ok (.iconst 1, 1) := by decide +kernel
theorem dX11_dequeues_29 : decode cX11_dequeues 29 = .ok (.isub, 1) := by decide +kernel
theorem dX11_dequeues_30 : decode cX11_dequeues 30 = .ok (.putfield 125, 3) := by decide +kernel
theorem dX11_dequeues_33 : decode cX11_dequeues 33 = .ok (.iload_n 1, 1) := by decide +kernel
theorem dX11_dequeues_34 : decode cX11_dequeues 34 = .ok (.ireturn, 1) := by decide +kernel
theorem dX11_nextValley_0 : decode cX11_nextValley 0 = .ok (.iconst (-1), 1) := by decide +kernel
theorem dX11_nextValley_1 : decode cX11_nextValley 1 = .ok (.istore_n 2, 1) := by decide +kernel
theorem dX11_nextValley_2 : decode cX11_nextValley 2 = .ok (.iconst 0, 1) := by decide +kernel
theorem dX11_nextValley_3 : decode cX11_nextValley 3 = .ok (.istore_n 3, 1) := by decide +kernel
theorem dX11_nextValley_4 : decode cX11_nextValley 4 = .ok (.iload_n 3, 1) := by decide +kernel
theorem dX11_nextValley_5 : decode cX11_nextValley 5 = .ok (.aload_n 0, 1) := by decide +kernel
theorem dX11_nextValley_6 : decode cX11_nextValley 6 = .ok (.getfield 7, 3) := by decide +kernel
theorem dX11_nextValley_9 : decode cX11_nextValley 9 = .ok (.iconst 1, 1) := by decide +kernel
theorem dX11_nextValley_10 : decode cX11_nextValley 10 = .ok (.iaload, 1) := by decide +kernel
theorem dX11_nextValley_11 : decode cX11_nextValley 11 = .ok (.if_icmp .ge 48, 3) := by decide +kernel
theorem dX11_nextValley_14 : decode cX11_nextValley 14 = .ok (.aload_n 0, 1) := by decide +kernel
theorem dX11_nextValley_15 : decode cX11_nextValley 15 = .ok (.getfield 34, 3) := by decide +kernel
theorem dX11_nextValley_18 : decode cX11_nextValley 18 = .ok (.bipush 12, 2) := by decide +kernel
theorem dX11_nextValley_20 : decode cX11_nextValley 20 = .ok (.iload_n 3, 1) := by decide +kernel
theorem dX11_nextValley_21 : decode cX11_nextValley 21 = .ok (.imul, 1) := by decide +kernel
theorem dX11_nextValley_22 : decode cX11_nextValley 22 = .ok (.iload_n 1, 1) := by decide +kernel
theorem dX11_nextValley_23 : decode cX11_nextValley 23 = .ok (.iadd, 1) := by decide +kernel
theorem dX11_nextValley_24 : decode cX11_nextValley 24 = .ok (.baload, 1) := by decide +kernel
theorem dX11_nextValley_25 : decode cX11_nextValley 25 = .ok (.ifCond .ne 28, 3) := by decide +kernel
theorem dX11_nextValley_28 : decode cX11_nextValley 28 = .ok (.aload_n 0, 1) := by decide +kernel
theorem dX11_nextValley_29 : decode cX11_nextValley 29 = .ok (.iload_n 3, 1) := by decide +kernel
theorem dX11_nextValley_30 : decode cX11_nextValley 30 = .ok (.iload_n 1, 1) := by decide +kernel
theorem dX11_nextValley_31 : decode cX11_nextValley 31 = .ok (.invokevirtual 128, 3) := by decide +kernel
theorem dX11_nextValley_34 : decode cX11_nextValley 34 = .ok (.ifCond .eq 19, 3) := by decide +kernel
theorem dX11_nextValley_37 : decode cX11_nextValley 37 = .ok (.iload_n 2, 1) := by decide +kernel
theorem dX11_nextValley_38 : decode cX11_nextValley 38 = .ok (.iconst (-1), 1) := by decide +kernel
theorem dX11_nextValley_39 : decode cX11_nextValley 39 = .ok (.if_icmp .eq 12, 3) := by decide +kernel
theorem dX11_nextValley_42 : decode cX11_nextValley 42 = .ok (.aload_n 0, 1) := by decide +kernel
theorem dX11_nextValley_43 : decode cX11_nextValley 43 = .ok (.iload_n 3, 1) := by decide +kernel
theorem dX11_nextValley_44 : decode cX11_nextValley 44 = .ok (.iload_n 2, 1) := by decide +kernel
theorem dX11_nextValley_45 : decode cX11_nextValley 45 = .ok (.invokevirtual 132, 3) := by decide +kernel
theorem dX11_nextValley_48 : decode cX11_nextValley 48 = .ok (.ifCond .eq 5, 3) := by decide +kernel
theorem dX11_nextValley_51 : decode cX11_nextValley 51 = .ok (.iload_n 3, 1) := by decide +kernel
theorem dX11_nextValley_52 : decode cX11_nextValley 52 = .ok (.istore_n 2, 1) := by decide +kernel
theorem dX11_nextValley_53 : decode cX11_nextValley 53 = .ok (.iinc 3 1, 3) := by decide +kernel
theorem dX11_nextValley_56 : decode cX11_nextValley 56 = .ok (.goto (-52), 3) := by decide +kernel
theorem dX11_nextValley_59 : decode cX11_nextValley 59 = .ok (.iload_n 2, 1) := by decide +kernel
theorem dX11_nextValley_60 : decode cX11_nextValley 60 = .ok (.ireturn, 1) := by decide +kernel
theorem dX11_leastKept_0 : decode cX11_leastKept 0 = .ok (.iconst 0, 1) := by decide +kernel
theorem dX11_leastKept_1 : decode cX11_leastKept 1 = .ok (.istore_n 2, 1) := by decide +kernel
theorem dX11_leastKept_2 : decode cX11_leastKept 2 = .ok (.iconst 1, 1) := by decide +kernel
theorem dX11_leastKept_3 : decode cX11_leastKept 3 = .ok (.istore_n 3, 1) := by decide +kernel
theorem dX11_leastKept_4 : decode cX11_leastKept 4 = .ok (.iload_n 3, 1) := by decide +kernel
theorem dX11_leastKept_5 : decode cX11_leastKept 5 = .ok (.aload_n 0, 1) := by decide +kernel
theorem dX11_leastKept_6 : decode cX11_leastKept 6 = .ok (.getfield 31, 3) := by decide +kernel
theorem dX11_leastKept_9 : decode cX11_leastKept 9 = .ok (.iload_n 1, 1) := by decide +kernel
theorem dX11_leastKept_10 : decode cX11_leastKept 10 = .ok (.iaload, 1) := by decide +kernel
theorem dX11_leastKept_11 : decode cX11_leastKept 11 = .ok (.if_icmp .ge 39, 3) := by decide +kernel
theorem dX11_leastKept_14 : decode cX11_leastKept 14 = .ok (.aload_n 0, 1) := by decide +kernel
theorem dX11_leastKept_15 : decode cX11_leastKept 15 = .ok (.iload_n 1, 1) := by decide +kernel
theorem dX11_leastKept_16 : decode cX11_leastKept 16 = .ok (.aload_n 0, 1) := by decide +kernel
theorem dX11_leastKept_17 : decode cX11_leastKept 17 = .ok (.getfield 28, 3) := by decide +kernel
theorem dX11_leastKept_20 : decode cX11_leastKept 20 = .ok (.iconst 3, 1) := by decide +kernel
theorem dX11_leastKept_21 : decode cX11_leastKept 21 = .ok (.iload_n 1, 1) := by decide +kernel
theorem dX11_leastKept_22 : decode cX11_leastKept 22 = .ok (.imul, 1) := by decide +kernel
theorem dX11_leastKept_23 : decode cX11_leastKept 23 = .ok (.iload_n 2, 1) := by decide +kernel
theorem dX11_leastKept_24 : decode cX11_leastKept 24 = .ok (.iadd, 1) := by decide +kernel
theorem dX11_leastKept_25 : decode cX11_leastKept 25 = .ok (.iaload, 1) := by decide +kernel
theorem dX11_leastKept_26 : decode cX11_leastKept 26 = .ok (.aload_n 0, 1) := by decide +kernel
theorem dX11_leastKept_27 : decode cX11_leastKept 27 = .ok (.getfield 28, 3) := by decide +kernel
theorem dX11_leastKept_30 : decode cX11_leastKept 30 = .ok (.iconst 3, 1) := by decide +kernel
theorem dX11_leastKept_31 : decode cX11_leastKept 31 = .ok (.iload_n 1, 1) := by decide +kernel
theorem dX11_leastKept_32 : decode cX11_leastKept 32 = .ok (.imul, 1) := by decide +kernel
theorem dX11_leastKept_33 : decode cX11_leastKept 33 = .ok (.iload_n 3, 1) := by decide +kernel
theorem dX11_leastKept_34 : decode cX11_leastKept 34 = .ok (.iadd, 1) := by decide +kernel
theorem dX11_leastKept_35 : decode cX11_leastKept 35 = .ok (.iaload, 1) := by decide +kernel
theorem dX11_leastKept_36 : decode cX11_leastKept 36 = .ok (.invokevirtual 135, 3) := by decide +kernel
theorem dX11_leastKept_39 : decode cX11_leastKept 39 = .ok (.ifCond .eq 5, 3) := by decide +kernel
theorem dX11_leastKept_42 : decode cX11_leastKept 42 = .ok (.iload_n 3, 1) := by decide +kernel
theorem dX11_leastKept_43 : decode cX11_leastKept 43 = .ok (.istore_n 2, 1) := by decide +kernel
theorem dX11_leastKept_44 : decode cX11_leastKept 44 = .ok (.iinc 3 1, 3) := by decide +kernel
theorem dX11_leastKept_47 : decode cX11_leastKept 47 = .ok (.goto (-43), 3) := by decide +kernel
theorem dX11_leastKept_50 : decode cX11_leastKept 50 = .ok (.iload_n 2, 1) := by decide +kernel
theorem dX11_leastKept_51 : decode cX11_leastKept 51 = .ok (.ireturn, 1) := by decide +kernel
theorem dX11_applies_0 : decode cX11_applies 0 = .ok (.aload_n 0, 1) := by decide +kernel
theorem dX11_applies_1 : decode cX11_applies 1 = .ok (.getfield 34, 3) := by decide +kernel
theorem dX11_applies_4 : decode cX11_applies 4 = .ok (.bipush 12, 2) := by decide +kernel
theorem dX11_applies_6 : decode cX11_applies 6 = .ok (.iload_n 2, 1) := by decide +kernel
theorem dX11_applies_7 : decode cX11_applies 7 = .ok (.imul, 1) := by decide +kernel
theorem dX11_applies_8 : decode cX11_applies 8 = .ok (.iload_n 1, 1) := by decide +kernel
theorem dX11_applies_9 : decode cX11_applies 9 = .ok (.iadd, 1) := by decide +kernel
theorem dX11_applies_10 : decode cX11_applies 10 = .ok (.iconst 1, 1) := by decide +kernel
theorem dX11_applies_11 : decode cX11_applies 11 = .ok (.bastore, 1) := by decide +kernel
theorem dX11_applies_12 : decode cX11_applies 12 = .ok (.aload_n 0, 1) := by decide +kernel
theorem dX11_applies_13 : decode cX11_applies 13 = .ok (.getfield 31, 3) := by decide +kernel
theorem dX11_applies_16 : decode cX11_applies 16 = .ok (.iload_n 2, 1) := by decide +kernel
theorem dX11_applies_17 : decode cX11_applies 17 = .ok (.iaload, 1) := by decide +kernel
theorem dX11_applies_18 : decode cX11_applies 18 = .ok (.aload_n 0, 1) := by decide +kernel
theorem dX11_applies_19 : decode cX11_applies 19 = .ok (.iload_n 2, 1) := by decide +kernel
theorem dX11_applies_20 : decode cX11_applies 20 = .ok (.invokevirtual 139, 3) := by decide +kernel
theorem dX11_applies_23 : decode cX11_applies 23 = .ok (.if_icmp .ge 30, 3) := by decide +kernel
theorem dX11_applies_26 : decode cX11_applies 26 = .ok (.aload_n 0, 1) := by decide +kernel
theorem dX11_applies_27 : decode cX11_applies 27 = .ok (.getfield 28, 3) := by decide +kernel
theorem dX11_applies_30 : decode cX11_applies 30 = .ok (.iconst 3, 1) := by decide +kernel
theorem dX11_applies_31 : decode cX11_applies 31 = .ok (.iload_n 2, 1) := by decide +kernel
theorem dX11_applies_32 : decode cX11_applies 32 = .ok (.imul, 1) := by decide +kernel
theorem dX11_applies_33 : decode cX11_applies 33 = .ok (.aload_n 0, 1) := by decide +kernel
theorem dX11_applies_34 : decode cX11_applies 34 = .ok (.getfield 31, 3) := by decide +kernel
theorem dX11_applies_37 : decode cX11_applies 37 = .ok (.iload_n 2, 1) := by decide +kernel
theorem dX11_applies_38 : decode cX11_applies 38 = .ok (.iaload, 1) := by decide +kernel
theorem dX11_applies_39 : decode cX11_applies 39 = .ok (.iadd, 1) := by decide +kernel
theorem dX11_applies_40 : decode cX11_applies 40 = .ok (.iload_n 1, 1) := by decide +kernel
theorem dX11_applies_41 : decode cX11_applies 41 = .ok (.iastore, 1) := by decide +kernel
theorem dX11_applies_42 : decode cX11_applies 42 = .ok (.aload_n 0, 1) := by decide +kernel
theorem dX11_applies_43 : decode cX11_applies 43 = .ok (.getfield 31, 3) := by decide +kernel
theorem dX11_applies_46 : decode cX11_applies 46 = .ok (.iload_n 2, 1) := by decide +kernel
theorem dX11_applies_47 : decode cX11_applies 47 = .ok (.dup2, 1) := by decide +kernel
theorem dX11_applies_48 : decode cX11_applies 48 = .ok (.iaload, 1) := by decide +kernel
theorem dX11_applies_49 : decode cX11_applies 49 = .ok (.iconst 1, 1) := by decide +kernel
theorem dX11_applies_50 : decode cX11_applies 50 = .ok (.iadd, 1) := by decide +kernel
theorem dX11_applies_51 : decode cX11_applies 51 = .ok (.iastore, 1) := by decide +kernel
theorem dX11_applies_52 : decode cX11_applies 52 = .ok (.return_, 1) := by decide +kernel
theorem dX11_applies_53 : decode cX11_applies 53 = .ok (.aload_n 0, 1) := by decide +kernel
theorem dX11_applies_54 : decode cX11_applies 54 = .ok (.getfield 31, 3) := by decide +kernel
theorem dX11_applies_57 : decode cX11_applies 57 = .ok (.iload_n 2, 1) := by decide +kernel
theorem dX11_applies_58 : decode cX11_applies 58 = .ok (.iaload, 1) := by decide +kernel
theorem dX11_applies_59 : decode cX11_applies 59 = .ok (.ifCond .ne 9, 3) := by decide +kernel
theorem dX11_applies_62 : decode cX11_applies 62 = .ok (.aload_n 0, 1) := by decide +kernel
theorem dX11_applies_63 : decode cX11_applies 63 = .ok (.iload_n 1, 1) := by decide +kernel
theorem dX11_applies_64 : decode cX11_applies 64 = .ok (.invokevirtual 142, 3) := by decide +kernel
theorem dX11_applies_67 : decode cX11_applies 67 = .ok (.return_, 1) := by decide +kernel
theorem dX11_applies_68 : decode cX11_applies 68 = .ok (.iconst 3, 1) := by decide +kernel
theorem dX11_applies_69 : decode cX11_applies 69 = .ok (.iload_n 2, 1) := by decide +kernel
theorem dX11_applies_70 : decode cX11_applies 70 = .ok (.imul, 1) := by decide +kernel
theorem dX11_applies_71 : decode cX11_applies 71 = .ok (.aload_n 0, 1) := by decide +kernel
theorem dX11_applies_72 : decode cX11_applies 72 = .ok (.iload_n 2, 1) := by decide +kernel
theorem dX11_applies_73 : decode cX11_applies 73 = .ok (.invokevirtual 146, 3) := by decide +kernel
theorem dX11_applies_76 : decode cX11_applies 76 = .ok (.iadd, 1) := by decide +kernel
theorem dX11_applies_77 : decode cX11_applies 77 = .ok (.istore_n 3, 1) := by decide +kernel
theorem dX11_applies_78 : decode cX11_applies 78 = .ok (.aload_n 0, 1) := by decide +kernel
theorem dX11_applies_79 : decode cX11_applies 79 = .ok (.getfield 28, 3) := by decide +kernel
theorem dX11_applies_82 : decode cX11_applies 82 = .ok (.iload_n 3, 1) := by decide +kernel
theorem dX11_applies_83 : decode cX11_applies 83 = .ok (.iaload, 1) := by decide +kernel
theorem dX11_applies_84 : decode cX11_applies 84 = .ok (.istore 4, 2) := by decide +kernel
theorem dX11_applies_86 : decode cX11_applies 86 = .ok (.aload_n 0, 1) := by decide +kernel
theorem dX11_applies_87 : decode cX11_applies 87 = .ok (.iload_n 2, 1) := by decide +kernel
theorem dX11_applies_88 : decode cX11_applies 88 = .ok (.iload_n 1, 1) := by decide +kernel
theorem dX11_applies_89 : decode cX11_applies 89 = .ok (.iload 4, 2) := by decide +kernel
theorem dX11_applies_91 : decode cX11_applies 91 = .ok (.invokevirtual 135, 3) := by decide +kernel
theorem dX11_applies_94 : decode cX11_applies 94 = .ok (.ifCond .eq 19, 3) := by decide +kernel
theorem dX11_applies_97 : decode cX11_applies 97 = .ok (.aload_n 0, 1) := by decide +kernel
theorem dX11_applies_98 : decode cX11_applies 98 = .ok (.getfield 28, 3) := by decide +kernel
theorem dX11_applies_101 : decode cX11_applies 101 = .ok (.iload_n 3, 1) := by decide +kernel
theorem dX11_applies_102 : decode cX11_applies 102 = .ok (.iload_n 1, 1) := by decide +kernel
theorem dX11_applies_103 : decode cX11_applies 103 = .ok (.iastore, 1) := by decide +kernel
theorem dX11_applies_104 : decode cX11_applies 104 = .ok (.aload_n 0, 1) := by decide +kernel
theorem dX11_applies_105 : decode cX11_applies 105 = .ok (.iload 4, 2) := by decide +kernel
theorem dX11_applies_107 : decode cX11_applies 107 = .ok (.invokevirtual 142, 3) := by decide +kernel
theorem dX11_applies_110 : decode cX11_applies 110 = .ok (.goto 8, 3) := by decide +kernel
theorem dX11_applies_113 : decode cX11_applies 113 = .ok (.aload_n 0, 1) := by decide +kernel
theorem dX11_applies_114 : decode cX11_applies 114 = .ok (.iload_n 1, 1) := by decide +kernel
theorem dX11_applies_115 : decode cX11_applies 115 = .ok (.invokevirtual 142, 3) := by decide +kernel
theorem dX11_applies_118 : decode cX11_applies 118 = .ok (.return_, 1) := by decide +kernel
theorem dX11_startsFair_0 : decode cX11_startsFair 0 = .ok (.aload_n 0, 1) := by decide +kernel
theorem dX11_startsFair_1 : decode cX11_startsFair 1 = .ok (.iconst 0, 1) := by decide +kernel
theorem dX11_startsFair_2 : decode cX11_startsFair 2 = .ok (.putfield 122, 3) := by decide +kernel
theorem dX11_startsFair_5 : decode cX11_startsFair 5 = .ok (.aload_n 0, 1) := by decide +kernel
theorem dX11_startsFair_6 : decode cX11_startsFair 6 = .ok (.iconst 0, 1) := by decide +kernel
theorem dX11_startsFair_7 : decode cX11_startsFair 7 = .ok (.putfield 125, 3) := by decide +kernel
theorem dX11_startsFair_10 : decode cX11_startsFair 10 = .ok (.iconst 0, 1) := by decide +kernel
theorem dX11_startsFair_11 : decode cX11_startsFair 11 = .ok (.istore_n 1, 1) := by decide +kernel
theorem dX11_startsFair_12 : decode cX11_startsFair 12 = .ok (.iload_n 1, 1) := by decide +kernel
theorem dX11_startsFair_13 : decode cX11_startsFair 13 = .ok (.bipush 96, 2) := by decide +kernel
theorem dX11_startsFair_15 : decode cX11_startsFair 15 = .ok (.if_icmp .ge 16, 3) := by decide +kernel
theorem dX11_startsFair_18 : decode cX11_startsFair 18 = .ok (.aload_n 0, 1) := by decide +kernel
theorem dX11_startsFair_19 : decode cX11_startsFair 19 = .ok (.getfield 34, 3) := by decide +kernel
theorem dX11_startsFair_22 : decode cX11_startsFair 22 = .ok (.iload_n 1, 1) := by decide +kernel
theorem dX11_startsFair_23 : decode cX11_startsFair 23 = .ok (.iconst 0, 1) := by decide +kernel
theorem dX11_startsFair_24 : decode cX11_startsFair 24 = .ok (.bastore, 1) := by decide +kernel
theorem dX11_startsFair_25 : decode cX11_startsFair 25 = .ok (.iinc 1 1, 3) := by decide +kernel
theorem dX11_startsFair_28 : decode cX11_startsFair 28 = .ok (.goto (-16), 3) := by decide +kernel
theorem dX11_startsFair_31 : decode cX11_startsFair 31 = .ok (.iconst 0, 1) := by decide +kernel
theorem dX11_startsFair_32 : decode cX11_startsFair 32 = .ok (.istore_n 1, 1) := by decide +kernel
theorem dX11_startsFair_33 : decode cX11_startsFair 33 = .ok (.iload_n 1, 1) := by decide +kernel
theorem dX11_startsFair_34 : decode cX11_startsFair 34 = .ok (.bipush 8, 2) := by decide +kernel
theorem dX11_startsFair_36 : decode cX11_startsFair 36 = .ok (.if_icmp .ge 16, 3) := by decide +kernel
theorem dX11_startsFair_39 : decode cX11_startsFair 39 = .ok (.aload_n 0, 1) := by decide +kernel
theorem dX11_startsFair_40 : decode cX11_startsFair 40 = .ok (.getfield 31, 3) := by decide +kernel
theorem dX11_startsFair_43 : decode cX11_startsFair 43 = .ok (.iload_n 1, 1) := by decide +kernel
theorem dX11_startsFair_44 : decode cX11_startsFair 44 = .ok (.iconst 0, 1) := by decide +kernel
theorem dX11_startsFair_45 : decode cX11_startsFair 45 = .ok (.iastore, 1) := by decide +kernel
theorem dX11_startsFair_46 : decode cX11_startsFair 46 = .ok (.iinc 1 1, 3) := by decide +kernel
theorem dX11_startsFair_49 : decode cX11_startsFair 49 = .ok (.goto (-16), 3) := by decide +kernel
theorem dX11_startsFair_52 : decode cX11_startsFair 52 = .ok (.iconst 0, 1) := by decide +kernel
theorem dX11_startsFair_53 : decode cX11_startsFair 53 = .ok (.istore_n 1, 1) := by decide +kernel
theorem dX11_startsFair_54 : decode cX11_startsFair 54 = .ok (.iload_n 1, 1) := by decide +kernel
theorem dX11_startsFair_55 : decode cX11_startsFair 55 = .ok (.aload_n 0, 1) := by decide +kernel
theorem dX11_startsFair_56 : decode cX11_startsFair 56 = .ok (.getfield 7, 3) := by decide +kernel
theorem dX11_startsFair_59 : decode cX11_startsFair 59 = .ok (.iconst 0, 1) := by decide +kernel
theorem dX11_startsFair_60 : decode cX11_startsFair 60 = .ok (.iaload, 1) := by decide +kernel
theorem dX11_startsFair_61 : decode cX11_startsFair 61 = .ok (.if_icmp .ge 22, 3) := by decide +kernel
theorem dX11_startsFair_64 : decode cX11_startsFair 64 = .ok (.aload_n 0, 1) := by decide +kernel
theorem dX11_startsFair_65 : decode cX11_startsFair 65 = .ok (.iload_n 1, 1) := by decide +kernel
theorem dX11_startsFair_66 : decode cX11_startsFair 66 = .ok (.invokevirtual 149, 3) := by decide +kernel
theorem dX11_startsFair_69 : decode cX11_startsFair 69 = .ok (.ifCond .ne 8, 3) := by decide +kernel
theorem dX11_startsFair_72 : decode cX11_startsFair 72 = .ok (.aload_n 0, 1) := by decide +kernel
theorem dX11_startsFair_73 : decode cX11_startsFair 73 = .ok (.iload_n 1, 1) := by decide +kernel
theorem dX11_startsFair_74 : decode cX11_startsFair 74 = .ok (.invokevirtual 142, 3) := by decide +kernel
theorem dX11_startsFair_77 : decode cX11_startsFair 77 = .ok (.iinc 1 1, 3) := by decide +kernel
theorem dX11_startsFair_80 : decode cX11_startsFair 80 = .ok (.goto (-26), 3) := by decide +kernel
theorem dX11_startsFair_83 : decode cX11_startsFair 83 = .ok (.return_, 1) := by decide +kernel
theorem dX11_isKept_0 : decode cX11_isKept 0 = .ok (.iconst 0, 1) := by decide +kernel
theorem dX11_isKept_1 : decode cX11_isKept 1 = .ok (.istore_n 3, 1) := by decide +kernel
theorem dX11_isKept_2 : decode cX11_isKept 2 = .ok (.iload_n 3, 1) := by decide +kernel
theorem dX11_isKept_3 : decode cX11_isKept 3 = .ok (.aload_n 0, 1) := by decide +kernel
theorem dX11_isKept_4 : decode cX11_isKept 4 = .ok (.getfield 31, 3) := by decide +kernel
theorem dX11_isKept_7 : decode cX11_isKept 7 = .ok (.iload_n 1, 1) := by decide +kernel
theorem dX11_isKept_8 : decode cX11_isKept 8 = .ok (.iaload, 1) := by decide +kernel
theorem dX11_isKept_9 : decode cX11_isKept 9 = .ok (.if_icmp .ge 25, 3) := by decide +kernel
theorem dX11_isKept_12 : decode cX11_isKept 12 = .ok (.aload_n 0, 1) := by decide +kernel
theorem dX11_isKept_13 : decode cX11_isKept 13 = .ok (.getfield 28, 3) := by decide +kernel
theorem dX11_isKept_16 : decode cX11_isKept 16 = .ok (.iconst 3, 1) := by decide +kernel
theorem dX11_isKept_17 : decode cX11_isKept 17 = .ok (.iload_n 1, 1) := by decide +kernel
theorem dX11_isKept_18 : decode cX11_isKept 18 = .ok (.imul, 1) := by decide +kernel
theorem dX11_isKept_19 : decode cX11_isKept 19 = .ok (.iload_n 3, 1) := by decide +kernel
theorem dX11_isKept_20 : decode cX11_isKept 20 = .ok (.iadd, 1) := by decide +kernel
theorem dX11_isKept_21 : decode cX11_isKept 21 = .ok (.iaload, 1) := by decide +kernel
theorem dX11_isKept_22 : decode cX11_isKept 22 = .ok (.iload_n 2, 1) := by decide +kernel
theorem dX11_isKept_23 : decode cX11_isKept 23 = .ok (.if_icmp .ne 5, 3) := by decide +kernel
theorem dX11_isKept_26 : decode cX11_isKept 26 = .ok (.iconst 1, 1) := by decide +kernel
theorem dX11_isKept_27 : decode cX11_isKept 27 = .ok (.ireturn, 1) := by decide +kernel
theorem dX11_isKept_28 : decode cX11_isKept 28 = .ok (.iinc 3 1, 3) := by decide +kernel
theorem dX11_isKept_31 : decode cX11_isKept 31 = .ok (.goto (-29), 3) := by decide +kernel
theorem dX11_isKept_34 : decode cX11_isKept 34 = .ok (.iconst 0, 1) := by decide +kernel
theorem dX11_isKept_35 : decode cX11_isKept 35 = .ok (.ireturn, 1) := by decide +kernel
theorem dX11_fairNow_0 : decode cX11_fairNow 0 = .ok (.aload_n 0, 1) := by decide +kernel
theorem dX11_fairNow_1 : decode cX11_fairNow 1 = .ok (.invokevirtual 152, 3) := by decide +kernel
theorem dX11_fairNow_4 : decode cX11_fairNow 4 = .ok (.aload_n 0, 1) := by decide +kernel
theorem dX11_fairNow_5 : decode cX11_fairNow 5 = .ok (.getfield 125, 3) := by decide +kernel
theorem dX11_fairNow_8 : decode cX11_fairNow 8 = .ok (.ifCond .le 28, 3) := by decide +kernel
theorem dX11_fairNow_11 : decode cX11_fairNow 11 = .ok (.aload_n 0, 1) := by decide +kernel
theorem dX11_fairNow_12 : decode cX11_fairNow 12 = .ok (.invokevirtual 155, 3) := by decide +kernel
theorem dX11_fairNow_15 : decode cX11_fairNow 15 = .ok (.istore_n 1, 1) := by decide +kernel
theorem dX11_fairNow_16 : decode cX11_fairNow 16 = .ok (.aload_n 0, 1) := by decide +kernel
theorem dX11_fairNow_17 : decode cX11_fairNow 17 = .ok (.iload_n 1, 1) := by decide +kernel
theorem dX11_fairNow_18 : decode cX11_fairNow 18 = .ok (.invokevirtual 158, 3) := by decide +kernel
theorem dX11_fairNow_21 : decode cX11_fairNow 21 = .ok (.istore_n 2, 1) := by decide +kernel
theorem dX11_fairNow_22 : decode cX11_fairNow 22 = .ok (.iload_n 2, 1) := by decide +kernel
theorem dX11_fairNow_23 : decode cX11_fairNow 23 = .ok (.iconst (-1), 1) := by decide +kernel
theorem dX11_fairNow_24 : decode cX11_fairNow 24 = .ok (.if_icmp .eq 9, 3) := by decide +kernel
theorem dX11_fairNow_27 : decode cX11_fairNow 27 = .ok (.aload_n 0, 1) := by decide +kernel
theorem dX11_fairNow_28 : decode cX11_fairNow 28 = .ok (.iload_n 1, 1) := by decide +kernel
theorem dX11_fairNow_29 : decode cX11_fairNow 29 = .ok (.iload_n 2, 1) := by decide +kernel
theorem dX11_fairNow_30 : decode cX11_fairNow 30 = .ok (.invokevirtual 161, 3) := by decide +kernel
theorem dX11_fairNow_33 : decode cX11_fairNow 33 = .ok (.goto (-29), 3) := by decide +kernel
theorem dX11_fairNow_36 : decode cX11_fairNow 36 = .ok (.iconst 0, 1) := by decide +kernel
theorem dX11_fairNow_37 : decode cX11_fairNow 37 = .ok (.istore_n 1, 1) := by decide +kernel
theorem dX11_fairNow_38 : decode cX11_fairNow 38 = .ok (.iload_n 1, 1) := by decide +kernel
theorem dX11_fairNow_39 : decode cX11_fairNow 39 = .ok (.aload_n 0, 1) := by decide +kernel
theorem dX11_fairNow_40 : decode cX11_fairNow 40 = .ok (.getfield 7, 3) := by decide +kernel
theorem dX11_fairNow_43 : decode cX11_fairNow 43 = .ok (.iconst 1, 1) := by decide +kernel
theorem dX11_fairNow_44 : decode cX11_fairNow 44 = .ok (.iaload, 1) := by decide +kernel
theorem dX11_fairNow_45 : decode cX11_fairNow 45 = .ok (.if_icmp .ge 42, 3) := by decide +kernel
theorem dX11_fairNow_48 : decode cX11_fairNow 48 = .ok (.iconst 0, 1) := by decide +kernel
theorem dX11_fairNow_49 : decode cX11_fairNow 49 = .ok (.istore_n 2, 1) := by decide +kernel
theorem dX11_fairNow_50 : decode cX11_fairNow 50 = .ok (.iload_n 2, 1) := by decide +kernel
theorem dX11_fairNow_51 : decode cX11_fairNow 51 = .ok (.aload_n 0, 1) := by decide +kernel
theorem dX11_fairNow_52 : decode cX11_fairNow 52 = .ok (.getfield 7, 3) := by decide +kernel
theorem dX11_fairNow_55 : decode cX11_fairNow 55 = .ok (.iconst 0, 1) := by decide +kernel
theorem dX11_fairNow_56 : decode cX11_fairNow 56 = .ok (.iaload, 1) := by decide +kernel
theorem dX11_fairNow_57 : decode cX11_fairNow 57 = .ok (.if_icmp .ge 24, 3) := by decide +kernel
theorem dX11_fairNow_60 : decode cX11_fairNow 60 = .ok (.aload_n 0, 1) := by decide +kernel
theorem dX11_fairNow_61 : decode cX11_fairNow 61 = .ok (.iload_n 1, 1) := by decide +kernel
theorem dX11_fairNow_62 : decode cX11_fairNow 62 = .ok (.iload_n 2, 1) := by decide +kernel
theorem dX11_fairNow_63 : decode cX11_fairNow 63 = .ok (.invokevirtual 165, 3) := by decide +kernel
theorem dX11_fairNow_66 : decode cX11_fairNow 66 = .ok (.ifCond .eq 9, 3) := by decide +kernel
theorem dX11_fairNow_69 : decode cX11_fairNow 69 = .ok (.aload_n 0, 1) := by decide +kernel
theorem dX11_fairNow_70 : decode cX11_fairNow 70 = .ok (.iload_n 1, 1) := by decide +kernel
theorem dX11_fairNow_71 : decode cX11_fairNow 71 = .ok (.iload_n 2, 1) := by decide +kernel
theorem dX11_fairNow_72 : decode cX11_fairNow 72 = .ok (.invokevirtual 168, 3) := by decide +kernel
theorem dX11_fairNow_75 : decode cX11_fairNow 75 = .ok (.iinc 2 1, 3) := by decide +kernel
theorem dX11_fairNow_78 : decode cX11_fairNow 78 = .ok (.goto (-28), 3) := by decide +kernel
theorem dX11_fairNow_81 : decode cX11_fairNow 81 = .ok (.iinc 1 1, 3) := by decide +kernel
theorem dX11_fairNow_84 : decode cX11_fairNow 84 = .ok (.goto (-46), 3) := by decide +kernel
theorem dX11_fairNow_87 : decode cX11_fairNow 87 = .ok (.return_, 1) := by decide +kernel
theorem dX11_beginsSeason_0 : decode cX11_beginsSeason 0 = .ok (.iconst 0, 1) := by decide +kernel
theorem dX11_beginsSeason_1 : decode cX11_beginsSeason 1 = .ok (.istore_n 1, 1) := by decide +kernel
theorem dX11_beginsSeason_2 : decode cX11_beginsSeason 2 = .ok (.iload_n 1, 1) := by decide +kernel
theorem dX11_beginsSeason_3 : decode cX11_beginsSeason 3 = .ok (.aload_n 0, 1) := by decide +kernel
theorem dX11_beginsSeason_4 : decode cX11_beginsSeason 4 = .ok (.getfield 7, 3) := by decide +kernel
theorem dX11_beginsSeason_7 : decode cX11_beginsSeason 7 = .ok (.iconst 0, 1) := by decide +kernel
theorem dX11_beginsSeason_8 : decode cX11_beginsSeason 8 = .ok (.iaload, 1) := by decide +kernel
theorem dX11_beginsSeason_9 : decode cX11_beginsSeason 9 = .ok (.if_icmp .ge 22, 3) := by decide +kernel
theorem dX11_beginsSeason_12 : decode cX11_beginsSeason 12 = .ok (.aload_n 0, 1) := by decide +kernel
theorem dX11_beginsSeason_13 : decode cX11_beginsSeason 13 = .ok (.iload_n 1, 1) := by decide +kernel
theorem dX11_beginsSeason_14 : decode cX11_beginsSeason 14 = .ok (.invokevirtual 149, 3) := by decide +kernel
theorem dX11_beginsSeason_17 : decode cX11_beginsSeason 17 = .ok (.ifCond .eq 8, 3) := by decide +kernel
theorem dX11_beginsSeason_20 : decode cX11_beginsSeason 20 = .ok (.aload_n 0, 1) := by decide +kernel
theorem dX11_beginsSeason_21 : decode cX11_beginsSeason 21 = .ok (.iload_n 1, 1) := by decide +kernel
theorem dX11_beginsSeason_22 : decode cX11_beginsSeason 22 = .ok (.invokevirtual 171, 3) := by decide +kernel
theorem dX11_beginsSeason_25 : decode cX11_beginsSeason 25 = .ok (.iinc 1 1, 3) := by decide +kernel
theorem dX11_beginsSeason_28 : decode cX11_beginsSeason 28 = .ok (.goto (-26), 3) := by decide +kernel
theorem dX11_beginsSeason_31 : decode cX11_beginsSeason 31 = .ok (.iconst 0, 1) := by decide +kernel
theorem dX11_beginsSeason_32 : decode cX11_beginsSeason 32 = .ok (.istore_n 1, 1) := by decide +kernel
theorem dX11_beginsSeason_33 : decode cX11_beginsSeason 33 = .ok (.iload_n 1, 1) := by decide +kernel
theorem dX11_beginsSeason_34 : decode cX11_beginsSeason 34 = .ok (.aload_n 0, 1) := by decide +kernel
theorem dX11_beginsSeason_35 : decode cX11_beginsSeason 35 = .ok (.getfield 7, 3) := by decide +kernel
theorem dX11_beginsSeason_38 : decode cX11_beginsSeason 38 = .ok (.iconst 1, 1) := by decide +kernel
theorem dX11_beginsSeason_39 : decode cX11_beginsSeason 39 = .ok (.iaload, 1) := by decide +kernel
theorem dX11_beginsSeason_40 : decode cX11_beginsSeason 40 = .ok (.if_icmp .ge 39, 3) := by decide +kernel
theorem dX11_beginsSeason_43 : decode cX11_beginsSeason 43 = .ok (.iconst 0, 1) := by decide +kernel
theorem dX11_beginsSeason_44 : decode cX11_beginsSeason 44 = .ok (.istore_n 2, 1) := by decide +kernel
theorem dX11_beginsSeason_45 : decode cX11_beginsSeason 45 = .ok (.iload_n 2, 1) := by decide +kernel
theorem dX11_beginsSeason_46 : decode cX11_beginsSeason 46 = .ok (.aload_n 0, 1) := by decide +kernel
theorem dX11_beginsSeason_47 : decode cX11_beginsSeason 47 = .ok (.getfield 7, 3) := by decide +kernel
theorem dX11_beginsSeason_50 : decode cX11_beginsSeason 50 = .ok (.iconst 0, 1) := by decide +kernel
theorem dX11_beginsSeason_51 : decode cX11_beginsSeason 51 = .ok (.iaload, 1) := by decide +kernel
theorem dX11_beginsSeason_52 : decode cX11_beginsSeason 52 = .ok (.if_icmp .ge 21, 3) := by decide +kernel
theorem dX11_beginsSeason_55 : decode cX11_beginsSeason 55 = .ok (.aload_n 0, 1) := by decide +kernel
theorem dX11_beginsSeason_56 : decode cX11_beginsSeason 56 = .ok (.getfield 7, 3) := by decide +kernel
theorem dX11_beginsSeason_59 : decode cX11_beginsSeason 59 = .ok (.iload_n 1, 1) := by decide +kernel
theorem dX11_beginsSeason_60 : decode cX11_beginsSeason 60 = .ok (.iload_n 2, 1) := by decide +kernel
theorem dX11_beginsSeason_61 : decode cX11_beginsSeason 61 = .ok (.iconst 1, 1) := by decide +kernel
theorem dX11_beginsSeason_62 : decode cX11_beginsSeason 62 = .ok (.invokestatic 99, 3) := by decide +kernel
theorem dX11_beginsSeason_65 : decode cX11_beginsSeason 65 = .ok (.iconst 0, 1) := by decide +kernel
theorem dX11_beginsSeason_66 : decode cX11_beginsSeason 66 = .ok (.iastore, 1) := by decide +kernel
theorem dX11_beginsSeason_67 : decode cX11_beginsSeason 67 = .ok (.iinc 2 1, 3) := by decide +kernel
theorem dX11_beginsSeason_70 : decode cX11_beginsSeason 70 = .ok (.goto (-25), 3) := by decide +kernel
theorem dX11_beginsSeason_73 : decode cX11_beginsSeason 73 = .ok (.iinc 1 1, 3) := by decide +kernel
theorem dX11_beginsSeason_76 : decode cX11_beginsSeason 76 = .ok (.goto (-43), 3) := by decide +kernel
theorem dX11_beginsSeason_79 : decode cX11_beginsSeason 79 = .ok (.aload_n 0, 1) := by decide +kernel
theorem dX11_beginsSeason_80 : decode cX11_beginsSeason 80 = .ok (.invokevirtual 174, 3) := by decide +kernel
theorem dX11_beginsSeason_83 : decode cX11_beginsSeason 83 = .ok (.return_, 1) := by decide +kernel
theorem dX11_earns_0 : decode cX11_earns 0 = .ok (.iconst 0, 1) := by decide +kernel
theorem dX11_earns_1 : decode cX11_earns 1 = .ok (.istore_n 2, 1) := by decide +kernel
theorem dX11_earns_2 : decode cX11_earns 2 = .ok (.iconst 0, 1) := by decide +kernel
theorem dX11_earns_3 : decode cX11_earns 3 = .ok (.istore_n 3, 1) := by decide +kernel
theorem dX11_earns_4 : decode cX11_earns 4 = .ok (.iload_n 3, 1) := by decide +kernel
theorem dX11_earns_5 : decode cX11_earns 5 = .ok (.aload_n 0, 1) := by decide +kernel
theorem dX11_earns_6 : decode cX11_earns 6 = .ok (.iload_n 1, 1) := by decide +kernel
theorem dX11_earns_7 : decode cX11_earns 7 = .ok (.bipush 13, 2) := by decide +kernel
theorem dX11_earns_9 : decode cX11_earns 9 = .ok (.invokevirtual 90, 3) := by decide +kernel
theorem dX11_earns_12 : decode cX11_earns 12 = .ok (.if_icmp .ge 47, 3) := by decide +kernel
theorem dX11_earns_15 : decode cX11_earns 15 = .ok (.aload_n 0, 1) := by decide +kernel
theorem dX11_earns_16 : decode cX11_earns 16 = .ok (.iload_n 1, 1) := by decide +kernel
theorem dX11_earns_17 : decode cX11_earns 17 = .ok (.bipush 14, 2) := by decide +kernel
theorem dX11_earns_19 : decode cX11_earns 19 = .ok (.iload_n 3, 1) := by decide +kernel
theorem dX11_earns_20 : decode cX11_earns 20 = .ok (.iadd, 1) := by decide +kernel
theorem dX11_earns_21 : decode cX11_earns 21 = .ok (.invokevirtual 90, 3) := by decide +kernel
theorem dX11_earns_24 : decode cX11_earns 24 = .ok (.istore 4, 2) := by decide +kernel
theorem dX11_earns_26 : decode cX11_earns 26 = .ok (.iload_n 2, 1) := by decide +kernel
theorem dX11_earns_27 : decode cX11_earns 27 = .ok (.aload_n 0, 1) := by decide +kernel
theorem dX11_earns_28 : decode cX11_earns 28 = .ok (.iload 4, 2) := by decide +kernel
theorem dX11_earns_30 : decode cX11_earns 30 = .ok (.bipush 8, 2) := by decide +kernel
theorem dX11_earns_32 : decode cX11_earns 32 = .ok (.invokevirtual 86, 3) := by decide +kernel
theorem dX11_earns_35 : decode cX11_earns 35 = .ok (.iadd, 1) := by decide +kernel
theorem dX11_earns_36 : decode cX11_earns 36 = .ok (.istore_n 2, 1) := by decide +kernel
theorem dX11_earns_37 : decode cX11_earns 37 = .ok (.aload_n 0, 1) := by decide +kernel
theorem dX11_earns_38 : decode cX11_earns 38 = .ok (.getfield 7, 3) := by decide +kernel
theorem dX11_earns_41 : decode cX11_earns 41 = .ok (.iload_n 1, 1) := by decide +kernel
theorem dX11_earns_42 : decode cX11_earns 42 = .ok (.iload 4, 2) := by decide +kernel
theorem dX11_earns_44 : decode cX11_earns 44 = .ok (.iconst 2, 1) := by decide +kernel
theorem dX11_earns_45 : decode cX11_earns 45 = .ok (.invokestatic 99, 3) := by decide +kernel
theorem dX11_earns_48 : decode cX11_earns 48 = .ok (.dup2, 1) := by decide +kernel
theorem dX11_earns_49 : decode cX11_earns 49 = .ok (.iaload, 1) := by decide +kernel
theorem dX11_earns_50 : decode cX11_earns 50 = .ok (.iconst 1, 1) := by decide +kernel
theorem dX11_earns_51 : decode cX11_earns 51 = .ok (.iadd, 1) := by decide +kernel
theorem dX11_earns_52 : decode cX11_earns 52 = .ok (.iastore, 1) := by decide +kernel
theorem dX11_earns_53 : decode cX11_earns 53 = .ok (.iinc 3 1, 3) := by decide +kernel
theorem dX11_earns_56 : decode cX11_earns 56 = .ok (.goto (-52), 3) := by decide +kernel
theorem dX11_earns_59 : decode cX11_earns 59 = .ok (.aload_n 0, 1) := by decide +kernel
theorem dX11_earns_60 : decode cX11_earns 60 = .ok (.iload_n 1, 1) := by decide +kernel
theorem dX11_earns_61 : decode cX11_earns 61 = .ok (.bipush 7, 2) := by decide +kernel
theorem dX11_earns_63 : decode cX11_earns 63 = .ok (.invokevirtual 90, 3) := by decide +kernel
theorem dX11_earns_66 : decode cX11_earns 66 = .ok (.iload_n 2, 1) := by decide +kernel
theorem dX11_earns_67 : decode cX11_earns 67 = .ok (.imul, 1) := by decide +kernel
theorem dX11_earns_68 : decode cX11_earns 68 = .ok (.istore_n 3, 1) := by decide +kernel
theorem dX11_earns_69 : decode cX11_earns 69 = .ok (.aload_n 0, 1) := by decide +kernel
theorem dX11_earns_70 : decode cX11_earns 70 = .ok (.iload_n 1, 1) := by decide +kernel
theorem dX11_earns_71 : decode cX11_earns 71 = .ok (.bipush 11, 2) := by decide +kernel
theorem dX11_earns_73 : decode cX11_earns 73 = .ok (.aload_n 0, 1) := by decide +kernel
theorem dX11_earns_74 : decode cX11_earns 74 = .ok (.iload_n 1, 1) := by decide +kernel
theorem dX11_earns_75 : decode cX11_earns 75 = .ok (.bipush 11, 2) := by decide +kernel
theorem dX11_earns_77 : decode cX11_earns 77 = .ok (.invokevirtual 90, 3) := by decide +kernel
theorem dX11_earns_80 : decode cX11_earns 80 = .ok (.iload_n 2, 1) := by decide +kernel
theorem dX11_earns_81 : decode cX11_earns 81 = .ok (.iadd, 1) := by decide +kernel
theorem dX11_earns_82 : decode cX11_earns 82 = .ok (.invokevirtual 112, 3) := by decide +kernel
theorem dX11_earns_85 : decode cX11_earns 85 = .ok (.aload_n 0, 1) := by decide +kernel
theorem dX11_earns_86 : decode cX11_earns 86 = .ok (.iload_n 1, 1) := by decide +kernel
theorem dX11_earns_87 : decode cX11_earns 87 = .ok (.bipush 10, 2) := by decide +kernel
theorem dX11_earns_89 : decode cX11_earns 89 = .ok (.aload_n 0, 1) := by decide +kernel
theorem dX11_earns_90 : decode cX11_earns 90 = .ok (.iload_n 1, 1) := by decide +kernel
theorem dX11_earns_91 : decode cX11_earns 91 = .ok (.bipush 10, 2) := by decide +kernel
theorem dX11_earns_93 : decode cX11_earns 93 = .ok (.invokevirtual 90, 3) := by decide +kernel
theorem dX11_earns_96 : decode cX11_earns 96 = .ok (.iload_n 3, 1) := by decide +kernel
theorem dX11_earns_97 : decode cX11_earns 97 = .ok (.iadd, 1) := by decide +kernel
theorem dX11_earns_98 : decode cX11_earns 98 = .ok (.invokevirtual 112, 3) := by decide +kernel
theorem dX11_earns_101 : decode cX11_earns 101 = .ok (.aload_n 0, 1) := by decide +kernel
theorem dX11_earns_102 : decode cX11_earns 102 = .ok (.getfield 7, 3) := by decide +kernel
theorem dX11_earns_105 : decode cX11_earns 105 = .ok (.bipush 8, 2) := by decide +kernel
theorem dX11_earns_107 : decode cX11_earns 107 = .ok (.dup2, 1) := by decide +kernel
theorem dX11_earns_108 : decode cX11_earns 108 = .ok (.iaload, 1) := by decide +kernel
theorem dX11_earns_109 : decode cX11_earns 109 = .ok (.iload_n 3, 1) := by decide +kernel
theorem dX11_earns_110 : decode cX11_earns 110 = .ok (.iadd, 1) := by decide +kernel
theorem dX11_earns_111 : decode cX11_earns 111 = .ok (.iastore, 1) := by decide +kernel
theorem dX11_earns_112 : decode cX11_earns 112 = .ok (.return_, 1) := by decide +kernel
theorem dX11_pays_0 : decode cX11_pays 0 = .ok (.aload_n 0, 1) := by decide +kernel
theorem dX11_pays_1 : decode cX11_pays 1 = .ok (.iload_n 1, 1) := by decide +kernel
theorem dX11_pays_2 : decode cX11_pays 2 = .ok (.bipush 9, 2) := by decide +kernel
theorem dX11_pays_4 : decode cX11_pays 4 = .ok (.invokevirtual 90, 3) := by decide +kernel
theorem dX11_pays_7 : decode cX11_pays 7 = .ok (.aload_n 0, 1) := by decide +kernel
theorem dX11_pays_8 : decode cX11_pays 8 = .ok (.iload_n 2, 1) := by decide +kernel
theorem dX11_pays_9 : decode cX11_pays 9 = .ok (.bipush 8, 2) := by decide +kernel
theorem dX11_pays_11 : decode cX11_pays 11 = .ok (.invokevirtual 86, 3) := by decide +kernel
theorem dX11_pays_14 : decode cX11_pays 14 = .ok (.imul, 1) := by decide +kernel
theorem dX11_pays_15 : decode cX11_pays 15 = .ok (.istore_n 3, 1) := by decide +kernel
theorem dX11_pays_16 : decode cX11_pays 16 = .ok (.aload_n 0, 1) := by decide +kernel
theorem dX11_pays_17 : decode cX11_pays 17 = .ok (.iload_n 1, 1) := by decide +kernel
theorem dX11_pays_18 : decode cX11_pays 18 = .ok (.bipush 10, 2) := by decide +kernel
theorem dX11_pays_20 : decode cX11_pays 20 = .ok (.invokevirtual 90, 3) := by decide +kernel
theorem dX11_pays_23 : decode cX11_pays 23 = .ok (.iload_n 3, 1) := by decide +kernel
theorem dX11_pays_24 : decode cX11_pays 24 = .ok (.if_icmp .ge 20, 3) := by decide +kernel
theorem dX11_pays_27 : decode cX11_pays 27 = .ok (.aload_n 0, 1) := by decide +kernel
theorem dX11_pays_28 : decode cX11_pays 28 = .ok (.iload_n 2, 1) := by decide +kernel
theorem dX11_pays_29 : decode cX11_pays 29 = .ok (.bipush 12, 2) := by decide +kernel
theorem dX11_pays_31 : decode cX11_pays 31 = .ok (.aload_n 0, 1) := by decide +kernel
theorem dX11_pays_32 : decode cX11_pays 32 = .ok (.iload_n 2, 1) := by decide +kernel
theorem dX11_pays_33 : decode cX11_pays 33 = .ok (.bipush 12, 2) := by decide +kernel
theorem dX11_pays_35 : decode cX11_pays 35 = .ok (.invokevirtual 86, 3) := by decide +kernel
theorem dX11_pays_38 : decode cX11_pays 38 = .ok (.iconst 1, 1) := by decide +kernel
theorem dX11_pays_39 : decode cX11_pays 39 = .ok (.iadd, 1) := by decide +kernel
theorem dX11_pays_40 : decode cX11_pays 40 = .ok (.invokevirtual 116, 3) := by decide +kernel
theorem dX11_pays_43 : decode cX11_pays 43 = .ok (.return_, 1) := by decide +kernel
theorem dX11_pays_44 : decode cX11_pays 44 = .ok (.aload_n 0, 1) := by decide +kernel
theorem dX11_pays_45 : decode cX11_pays 45 = .ok (.iload_n 1, 1) := by decide +kernel
theorem dX11_pays_46 : decode cX11_pays 46 = .ok (.bipush 10, 2) := by decide +kernel
theorem dX11_pays_48 : decode cX11_pays 48 = .ok (.aload_n 0, 1) := by decide +kernel
theorem dX11_pays_49 : decode cX11_pays 49 = .ok (.iload_n 1, 1) := by decide +kernel
theorem dX11_pays_50 : decode cX11_pays 50 = .ok (.bipush 10, 2) := by decide +kernel
theorem dX11_pays_52 : decode cX11_pays 52 = .ok (.invokevirtual 90, 3) := by decide +kernel
theorem dX11_pays_55 : decode cX11_pays 55 = .ok (.iload_n 3, 1) := by decide +kernel
theorem dX11_pays_56 : decode cX11_pays 56 = .ok (.isub, 1) := by decide +kernel
theorem dX11_pays_57 : decode cX11_pays 57 = .ok (.invokevirtual 112, 3) := by decide +kernel
theorem dX11_pays_60 : decode cX11_pays 60 = .ok (.aload_n 0, 1) := by decide +kernel
theorem dX11_pays_61 : decode cX11_pays 61 = .ok (.iload_n 1, 1) := by decide +kernel
theorem dX11_pays_62 : decode cX11_pays 62 = .ok (.bipush 12, 2) := by decide +kernel
theorem dX11_pays_64 : decode cX11_pays 64 = .ok (.aload_n 0, 1) := by decide +kernel
theorem dX11_pays_65 : decode cX11_pays 65 = .ok (.iload_n 1, 1) := by decide +kernel
theorem dX11_pays_66 : decode cX11_pays 66 = .ok (.bipush 12, 2) := by decide +kernel
theorem dX11_pays_68 : decode cX11_pays 68 = .ok (.invokevirtual 90, 3) := by decide +kernel
theorem dX11_pays_71 : decode cX11_pays 71 = .ok (.iload_n 3, 1) := by decide +kernel
theorem dX11_pays_72 : decode cX11_pays 72 = .ok (.iadd, 1) := by decide +kernel
theorem dX11_pays_73 : decode cX11_pays 73 = .ok (.invokevirtual 112, 3) := by decide +kernel
theorem dX11_pays_76 : decode cX11_pays 76 = .ok (.aload_n 0, 1) := by decide +kernel
theorem dX11_pays_77 : decode cX11_pays 77 = .ok (.iload_n 2, 1) := by decide +kernel
theorem dX11_pays_78 : decode cX11_pays 78 = .ok (.bipush 11, 2) := by decide +kernel
theorem dX11_pays_80 : decode cX11_pays 80 = .ok (.aload_n 0, 1) := by decide +kernel
theorem dX11_pays_81 : decode cX11_pays 81 = .ok (.iload_n 2, 1) := by decide +kernel
theorem dX11_pays_82 : decode cX11_pays 82 = .ok (.bipush 11, 2) := by decide +kernel
theorem dX11_pays_84 : decode cX11_pays 84 = .ok (.invokevirtual 86, 3) := by decide +kernel
theorem dX11_pays_87 : decode cX11_pays 87 = .ok (.iload_n 3, 1) := by decide +kernel
theorem dX11_pays_88 : decode cX11_pays 88 = .ok (.iadd, 1) := by decide +kernel
theorem dX11_pays_89 : decode cX11_pays 89 = .ok (.invokevirtual 116, 3) := by decide +kernel
theorem dX11_pays_92 : decode cX11_pays 92 = .ok (.aload_n 0, 1) := by decide +kernel
theorem dX11_pays_93 : decode cX11_pays 93 = .ok (.iload_n 2, 1) := by decide +kernel
theorem dX11_pays_94 : decode cX11_pays 94 = .ok (.bipush 12, 2) := by decide +kernel
theorem dX11_pays_96 : decode cX11_pays 96 = .ok (.iconst 0, 1) := by decide +kernel
theorem dX11_pays_97 : decode cX11_pays 97 = .ok (.invokevirtual 116, 3) := by decide +kernel
theorem dX11_pays_100 : decode cX11_pays 100 = .ok (.return_, 1) := by decide +kernel
theorem dX11_mayDesert_0 : decode cX11_mayDesert 0 = .ok (.aload_n 0, 1) := by decide +kernel
theorem dX11_mayDesert_1 : decode cX11_mayDesert 1 = .ok (.iload_n 1, 1) := by decide +kernel
theorem dX11_mayDesert_2 : decode cX11_mayDesert 2 = .ok (.invokevirtual 149, 3) := by decide +kernel
theorem dX11_mayDesert_5 : decode cX11_mayDesert 5 = .ok (.ifCond .ne 4, 3) := by decide +kernel
theorem dX11_mayDesert_8 : decode cX11_mayDesert 8 = .ok (.return_, 1) := by decide +kernel
theorem dX11_mayDesert_9 : decode cX11_mayDesert 9 = .ok (.aload_n 0, 1) := by decide +kernel
theorem dX11_mayDesert_10 : decode cX11_mayDesert 10 = .ok (.iload_n 1, 1) := by decide +kernel
theorem dX11_mayDesert_11 : decode cX11_mayDesert 11 = .ok (.bipush 12, 2) := by decide +kernel
theorem dX11_mayDesert_13 : decode cX11_mayDesert 13 = .ok (.invokevirtual 86, 3) := by decide +kernel
theorem dX11_mayDesert_16 : decode cX11_mayDesert 16 = .ok (.istore_n 2, 1) := by decide +kernel
theorem dX11_mayDesert_17 : decode cX11_mayDesert 17 = .ok (.iload_n 2, 1) := by decide +kernel
theorem dX11_mayDesert_18 : decode cX11_mayDesert 18 = .ok (.iconst 2, 1) := by decide +kernel
theorem dX11_mayDesert_19 : decode cX11_mayDesert 19 = .ok (.if_icmp .ge 28, 3) := by decide +kernel
theorem dX11_mayDesert_22 : decode cX11_mayDesert 22 = .ok (.iload_n 2, 1) := by decide +kernel
theorem dX11_mayDesert_23 : decode cX11_mayDesert 23 = .ok (.ifCond .eq 23, 3) := by decide +kernel
theorem dX11_mayDesert_26 : decode cX11_mayDesert 26 = .ok (.aload_n 0, 1) := by decide +kernel
theorem dX11_mayDesert_27 : decode cX11_mayDesert 27 = .ok (.aload_n 0, 1) := by decide +kernel
theorem dX11_mayDesert_28 : decode cX11_mayDesert 28 = .ok (.getfield 7, 3) := by decide +kernel
theorem dX11_mayDesert_31 : decode cX11_mayDesert 31 = .ok (.iconst 2, 1) := by decide +kernel
theorem dX11_mayDesert_32 : decode cX11_mayDesert 32 = .ok (.iaload, 1) := by decide +kernel
theorem dX11_mayDesert_33 : decode cX11_mayDesert 33 = .ok (.invokevirtual 177, 3) := by decide +kernel
theorem dX11_mayDesert_36 : decode cX11_mayDesert 36 = .ok (.aload_n 0, 1) := by decide +kernel
theorem dX11_mayDesert_37 : decode cX11_mayDesert 37 = .ok (.iload_n 1, 1) := by decide +kernel
theorem dX11_mayDesert_38 : decode cX11_mayDesert 38 = .ok (.bipush 10, 2) := by decide +kernel
theorem dX11_mayDesert_40 : decode cX11_mayDesert 40 = .ok (.invokevirtual 86, 3) := by decide +kernel
theorem dX11_mayDesert_43 : decode cX11_mayDesert 43 = .ok (.if_icmp .gt 4, 3) := by decide +kernel
theorem dX11_mayDesert_46 : decode cX11_mayDesert 46 = .ok (.return_, 1) := by decide +kernel
theorem dX11_mayDesert_47 : decode cX11_mayDesert 47 = .ok (.aload_n 0, 1) := by decide +kernel
theorem dX11_mayDesert_48 : decode cX11_mayDesert 48 = .ok (.getfield 7, 3) := by decide +kernel
theorem dX11_mayDesert_51 : decode cX11_mayDesert 51 = .ok (.aload_n 0, 1) := by decide +kernel
theorem dX11_mayDesert_52 : decode cX11_mayDesert 52 = .ok (.iload_n 1, 1) := by decide +kernel
theorem dX11_mayDesert_53 : decode cX11_mayDesert 53 = .ok (.invokevirtual 119, 3) := by decide +kernel
theorem dX11_mayDesert_56 : decode cX11_mayDesert 56 = .ok (.iload_n 1, 1) := by decide +kernel
theorem dX11_mayDesert_57 : decode cX11_mayDesert 57 = .ok (.iconst 1, 1) := by decide +kernel
theorem dX11_mayDesert_58 : decode cX11_mayDesert 58 = .ok (.invokestatic 99, 3) := by decide +kernel
theorem dX11_mayDesert_61 : decode cX11_mayDesert 61 = .ok (.iconst 1, 1) := by decide +kernel
theorem dX11_mayDesert_62 : decode cX11_mayDesert 62 = .ok (.iastore, 1) := by decide +kernel
theorem dX11_mayDesert_63 : decode cX11_mayDesert 63 = .ok (.aload_n 0, 1) := by decide +kernel
theorem dX11_mayDesert_64 : decode cX11_mayDesert 64 = .ok (.iload_n 1, 1) := by decide +kernel
theorem dX11_mayDesert_65 : decode cX11_mayDesert 65 = .ok (.bipush 14, 2) := by decide +kernel
theorem dX11_mayDesert_67 : decode cX11_mayDesert 67 = .ok (.aload_n 0, 1) := by decide +kernel
theorem dX11_mayDesert_68 : decode cX11_mayDesert 68 = .ok (.iload_n 1, 1) := by decide +kernel
theorem dX11_mayDesert_69 : decode cX11_mayDesert 69 = .ok (.bipush 14, 2) := by decide +kernel
theorem dX11_mayDesert_71 : decode cX11_mayDesert 71 = .ok (.invokevirtual 86, 3) := by decide +kernel
theorem dX11_mayDesert_74 : decode cX11_mayDesert 74 = .ok (.iconst 1, 1) := by decide +kernel
theorem dX11_mayDesert_75 : decode cX11_mayDesert 75 = .ok (.iadd, 1) := by decide +kernel
theorem dX11_mayDesert_76 : decode cX11_mayDesert 76 = .ok (.invokevirtual 116, 3) := by decide +kernel
theorem dX11_mayDesert_79 : decode cX11_mayDesert 79 = .ok (.aload_n 0, 1) := by decide +kernel
theorem dX11_mayDesert_80 : decode cX11_mayDesert 80 = .ok (.iload_n 1, 1) := by decide +kernel
theorem dX11_mayDesert_81 : decode cX11_mayDesert 81 = .ok (.invokevirtual 171, 3) := by decide +kernel
theorem dX11_mayDesert_84 : decode cX11_mayDesert 84 = .ok (.return_, 1) := by decide +kernel
theorem dX11_dayOnce_0 : decode cX11_dayOnce 0 = .ok (.aload_n 0, 1) := by decide +kernel
theorem dX11_dayOnce_1 : decode cX11_dayOnce 1 = .ok (.getfield 7, 3) := by decide +kernel
theorem dX11_dayOnce_4 : decode cX11_dayOnce 4 = .ok (.iconst 2, 1) := by decide +kernel
theorem dX11_dayOnce_5 : decode cX11_dayOnce 5 = .ok (.iaload, 1) := by decide +kernel
theorem dX11_dayOnce_6 : decode cX11_dayOnce 6 = .ok (.aload_n 0, 1) := by decide +kernel
theorem dX11_dayOnce_7 : decode cX11_dayOnce 7 = .ok (.getfield 7, 3) := by decide +kernel
theorem dX11_dayOnce_10 : decode cX11_dayOnce 10 = .ok (.iconst 3, 1) := by decide +kernel
theorem dX11_dayOnce_11 : decode cX11_dayOnce 11 = .ok (.iaload, 1) := by decide +kernel
theorem dX11_dayOnce_12 : decode cX11_dayOnce 12 = .ok (.irem, 1) := by decide +kernel
theorem dX11_dayOnce_13 : decode cX11_dayOnce 13 = .ok (.ifCond .ne 7, 3) := by decide +kernel
theorem dX11_dayOnce_16 : decode cX11_dayOnce 16 = .ok (.aload_n 0, 1) := by decide +kernel
theorem dX11_dayOnce_17 : decode cX11_dayOnce 17 = .ok (.invokevirtual 180, 3) := by decide +kernel
theorem dX11_dayOnce_20 : decode cX11_dayOnce 20 = .ok (.iconst 0, 1) := by decide +kernel
theorem dX11_dayOnce_21 : decode cX11_dayOnce 21 = .ok (.istore_n 1, 1) := by decide +kernel
theorem dX11_dayOnce_22 : decode cX11_dayOnce 22 = .ok (.iload_n 1, 1) := by decide +kernel
theorem dX11_dayOnce_23 : decode cX11_dayOnce 23 = .ok (.aload_n 0, 1) := by decide +kernel
theorem dX11_dayOnce_24 : decode cX11_dayOnce 24 = .ok (.getfield 7, 3) := by decide +kernel
theorem dX11_dayOnce_27 : decode cX11_dayOnce 27 = .ok (.iconst 1, 1) := by decide +kernel
theorem dX11_dayOnce_28 : decode cX11_dayOnce 28 = .ok (.iaload, 1) := by decide +kernel
theorem dX11_dayOnce_29 : decode cX11_dayOnce 29 = .ok (.if_icmp .ge 47, 3) := by decide +kernel
theorem dX11_dayOnce_32 : decode cX11_dayOnce 32 = .ok (.aload_n 0, 1) := by decide +kernel
theorem dX11_dayOnce_33 : decode cX11_dayOnce 33 = .ok (.iload_n 1, 1) := by decide +kernel
theorem dX11_dayOnce_34 : decode cX11_dayOnce 34 = .ok (.invokevirtual 183, 3) := by decide +kernel
theorem dX11_dayOnce_37 : decode cX11_dayOnce 37 = .ok (.iconst 0, 1) := by decide +kernel
theorem dX11_dayOnce_38 : decode cX11_dayOnce 38 = .ok (.istore_n 2, 1) := by decide +kernel
theorem dX11_dayOnce_39 : decode cX11_dayOnce 39 = .ok (.iload_n 2, 1) := by decide +kernel
theorem dX11_dayOnce_40 : decode cX11_dayOnce 40 = .ok (.aload_n 0, 1) := by decide +kernel
theorem dX11_dayOnce_41 : decode cX11_dayOnce 41 = .ok (.iload_n 1, 1) := by decide +kernel
theorem dX11_dayOnce_42 : decode cX11_dayOnce 42 = .ok (.bipush 13, 2) := by decide +kernel
theorem dX11_dayOnce_44 : decode cX11_dayOnce 44 = .ok (.invokevirtual 90, 3) := by decide +kernel
theorem dX11_dayOnce_47 : decode cX11_dayOnce 47 = .ok (.if_icmp .ge 23, 3) := by decide +kernel
theorem dX11_dayOnce_50 : decode cX11_dayOnce 50 = .ok (.aload_n 0, 1) := by decide +kernel
theorem dX11_dayOnce_51 : decode cX11_dayOnce 51 = .ok (.iload_n 1, 1) := by decide +kernel
theorem dX11_dayOnce_52 : decode cX11_dayOnce 52 = .ok (.aload_n 0, 1) := by decide +kernel
theorem dX11_dayOnce_53 : decode cX11_dayOnce 53 = .ok (.iload_n 1, 1) := by decide +kernel
theorem dX11_dayOnce_54 : decode cX11_dayOnce 54 = .ok (.bipush 14, 2) := by decide +kernel
theorem dX11_dayOnce_56 : decode cX11_dayOnce 56 = .ok (.iload_n 2, 1) := by decide +kernel
theorem dX11_dayOnce_57 : decode cX11_dayOnce 57 = .ok (.iadd, 1) := by decide +kernel
theorem dX11_dayOnce_58 : decode cX11_dayOnce 58 = .ok (.invokevirtual 90, 3) := by decide +kernel
theorem dX11_dayOnce_61 : decode cX11_dayOnce 61 = .ok (.invokevirtual 186, 3) := by decide +kernel
theorem dX11_dayOnce_64 : decode cX11_dayOnce 64 = .ok (.iinc 2 1, 3) := by decide +kernel
theorem dX11_dayOnce_67 : decode cX11_dayOnce 67 = .ok (.goto (-28), 3) := by decide +kernel
theorem dX11_dayOnce_70 : decode cX11_dayOnce 70 = .ok (.iinc 1 1, 3) := by decide +kernel
theorem dX11_dayOnce_73 : decode cX11_dayOnce 73 = .ok (.goto (-51), 3) := by decide +kernel
theorem dX11_dayOnce_76 : decode cX11_dayOnce 76 = .ok (.iconst 0, 1) := by decide +kernel
theorem dX11_dayOnce_77 : decode cX11_dayOnce 77 = .ok (.istore_n 1, 1) := by decide +kernel
theorem dX11_dayOnce_78 : decode cX11_dayOnce 78 = .ok (.iload_n 1, 1) := by decide +kernel
theorem dX11_dayOnce_79 : decode cX11_dayOnce 79 = .ok (.aload_n 0, 1) := by decide +kernel
theorem dX11_dayOnce_80 : decode cX11_dayOnce 80 = .ok (.getfield 7, 3) := by decide +kernel
theorem dX11_dayOnce_83 : decode cX11_dayOnce 83 = .ok (.iconst 0, 1) := by decide +kernel
theorem dX11_dayOnce_84 : decode cX11_dayOnce 84 = .ok (.iaload, 1) := by decide +kernel
theorem dX11_dayOnce_85 : decode cX11_dayOnce 85 = .ok (.if_icmp .ge 14, 3) := by decide +kernel
theorem dX11_dayOnce_88 : decode cX11_dayOnce 88 = .ok (.aload_n 0, 1) := by decide +kernel
theorem dX11_dayOnce_89 : decode cX11_dayOnce 89 = .ok (.iload_n 1, 1) := by decide +kernel
theorem dX11_dayOnce_90 : decode cX11_dayOnce 90 = .ok (.invokevirtual 189, 3) := by decide +kernel
theorem dX11_dayOnce_93 : decode cX11_dayOnce 93 = .ok (.iinc 1 1, 3) := by decide +kernel
theorem dX11_dayOnce_96 : decode cX11_dayOnce 96 = .ok (.goto (-18), 3) := by decide +kernel
theorem dX11_dayOnce_99 : decode cX11_dayOnce 99 = .ok (.aload_n 0, 1) := by decide +kernel
theorem dX11_dayOnce_100 : decode cX11_dayOnce 100 = .ok (.getfield 7, 3) := by decide +kernel
theorem dX11_dayOnce_103 : decode cX11_dayOnce 103 = .ok (.iconst 2, 1) := by decide +kernel
theorem dX11_dayOnce_104 : decode cX11_dayOnce 104 = .ok (.dup2, 1) := by decide +kernel
theorem dX11_dayOnce_105 : decode cX11_dayOnce 105 = .ok (.iaload, 1) := by decide +kernel
theorem dX11_dayOnce_106 : decode cX11_dayOnce 106 = .ok (.iconst 1, 1) := by decide +kernel
theorem dX11_dayOnce_107 : decode cX11_dayOnce 107 = .ok (.iadd, 1) := by decide +kernel
theorem dX11_dayOnce_108 : decode cX11_dayOnce 108 = .ok (.iastore, 1) := by decide +kernel
theorem dX11_dayOnce_109 : decode cX11_dayOnce 109 = .ok (.return_, 1) := by decide +kernel
theorem dX11_goBy_0 : decode cX11_goBy 0 = .ok (.iconst 0, 1) := by decide +kernel
theorem dX11_goBy_1 : decode cX11_goBy 1 = .ok (.istore_n 2, 1) := by decide +kernel
theorem dX11_goBy_2 : decode cX11_goBy 2 = .ok (.iload_n 2, 1) := by decide +kernel
theorem dX11_goBy_3 : decode cX11_goBy 3 = .ok (.iload_n 1, 1) := by decide +kernel
theorem dX11_goBy_4 : decode cX11_goBy 4 = .ok (.if_icmp .ge 13, 3) := by decide +kernel
theorem dX11_goBy_7 : decode cX11_goBy 7 = .ok (.aload_n 0, 1) := by decide +kernel
theorem dX11_goBy_8 : decode cX11_goBy 8 = .ok (.invokevirtual 192, 3) := by decide +kernel
theorem dX11_goBy_11 : decode cX11_goBy 11 = .ok (.iinc 2 1, 3) := by decide +kernel
theorem dX11_goBy_14 : decode cX11_goBy 14 = .ok (.goto (-12), 3) := by decide +kernel
theorem dX11_goBy_17 : decode cX11_goBy 17 = .ok (.return_, 1) := by decide +kernel
theorem dX11_allLeft_0 : decode cX11_allLeft 0 = .ok (.iconst 0, 1) := by decide +kernel
theorem dX11_allLeft_1 : decode cX11_allLeft 1 = .ok (.istore_n 1, 1) := by decide +kernel
theorem dX11_allLeft_2 : decode cX11_allLeft 2 = .ok (.iconst 0, 1) := by decide +kernel
theorem dX11_allLeft_3 : decode cX11_allLeft 3 = .ok (.istore_n 2, 1) := by decide +kernel
theorem dX11_allLeft_4 : decode cX11_allLeft 4 = .ok (.iload_n 2, 1) := by decide +kernel
theorem dX11_allLeft_5 : decode cX11_allLeft 5 = .ok (.aload_n 0, 1) := by decide +kernel
theorem dX11_allLeft_6 : decode cX11_allLeft 6 = .ok (.getfield 7, 3) := by decide +kernel
theorem dX11_allLeft_9 : decode cX11_allLeft 9 = .ok (.iconst 0, 1) := by decide +kernel
theorem dX11_allLeft_10 : decode cX11_allLeft 10 = .ok (.iaload, 1) := by decide +kernel
theorem dX11_allLeft_11 : decode cX11_allLeft 11 = .ok (.if_icmp .ge 19, 3) := by decide +kernel
theorem dX11_allLeft_14 : decode cX11_allLeft 14 = .ok (.iload_n 1, 1) := by decide +kernel
theorem dX11_allLeft_15 : decode cX11_allLeft 15 = .ok (.aload_n 0, 1) := by decide +kernel
theorem dX11_allLeft_16 : decode cX11_allLeft 16 = .ok (.iload_n 2, 1) := by decide +kernel
theorem dX11_allLeft_17 : decode cX11_allLeft 17 = .ok (.bipush 14, 2) := by decide +kernel
theorem dX11_allLeft_19 : decode cX11_allLeft 19 = .ok (.invokevirtual 86, 3) := by decide +kernel
theorem dX11_allLeft_22 : decode cX11_allLeft 22 = .ok (.iadd, 1) := by decide +kernel
theorem dX11_allLeft_23 : decode cX11_allLeft 23 = .ok (.istore_n 1, 1) := by decide +kernel
theorem dX11_allLeft_24 : decode cX11_allLeft 24 = .ok (.iinc 2 1, 3) := by decide +kernel
theorem dX11_allLeft_27 : decode cX11_allLeft 27 = .ok (.goto (-23), 3) := by decide +kernel
theorem dX11_allLeft_30 : decode cX11_allLeft 30 = .ok (.iload_n 1, 1) := by decide +kernel
theorem dX11_allLeft_31 : decode cX11_allLeft 31 = .ok (.ireturn, 1) := by decide +kernel
theorem dX11_passNow_0 : decode cX11_passNow 0 = .ok (.aload_n 0, 1) := by decide +kernel
theorem dX11_passNow_1 : decode cX11_passNow 1 = .ok (.invokevirtual 195, 3) := by decide +kernel
theorem dX11_passNow_4 : decode cX11_passNow 4 = .ok (.istore_n 2, 1) := by decide +kernel
theorem dX11_passNow_5 : decode cX11_passNow 5 = .ok (.aload_n 0, 1) := by decide +kernel
theorem dX11_passNow_6 : decode cX11_passNow 6 = .ok (.iload_n 1, 1) := by decide +kernel
theorem dX11_passNow_7 : decode cX11_passNow 7 = .ok (.invokevirtual 198, 3) := by decide +kernel
theorem dX11_passNow_10 : decode cX11_passNow 10 = .ok (.aload_n 0, 1) := by decide +kernel
theorem dX11_passNow_11 : decode cX11_passNow 11 = .ok (.aload_n 0, 1) := by decide +kernel
theorem dX11_passNow_12 : decode cX11_passNow 12 = .ok (.invokevirtual 195, 3) := by decide +kernel
theorem dX11_passNow_15 : decode cX11_passNow 15 = .ok (.iload_n 2, 1) := by decide +kernel
theorem dX11_passNow_16 : decode cX11_passNow 16 = .ok (.isub, 1) := by decide +kernel
theorem dX11_passNow_17 : decode cX11_passNow 17 = .ok (.putfield 201, 3) := by decide +kernel
theorem dX11_passNow_20 : decode cX11_passNow 20 = .ok (.iconst 1, 1) := by decide +kernel
theorem dX11_passNow_21 : decode cX11_passNow 21 = .ok (.ireturn, 1) := by decide +kernel
theorem dX11_holdNow_0 : decode cX11_holdNow 0 = .ok (.aload_n 0, 1) := by decide +kernel
theorem dX11_holdNow_1 : decode cX11_holdNow 1 = .ok (.getfield 7, 3) := by decide +kernel
theorem dX11_holdNow_4 : decode cX11_holdNow 4 = .ok (.iconst 5, 1) := by decide +kernel
theorem dX11_holdNow_5 : decode cX11_holdNow 5 = .ok (.iaload, 1) := by decide +kernel
theorem dX11_holdNow_6 : decode cX11_holdNow 6 = .ok (.istore_n 1, 1) := by decide +kernel
theorem dX11_holdNow_7 : decode cX11_holdNow 7 = .ok (.aload_n 0, 1) := by decide +kernel
theorem dX11_holdNow_8 : decode cX11_holdNow 8 = .ok (.invokevirtual 174, 3) := by decide +kernel
theorem dX11_holdNow_11 : decode cX11_holdNow 11 = .ok (.aload_n 0, 1) := by decide +kernel
theorem dX11_holdNow_12 : decode cX11_holdNow 12 = .ok (.aload_n 0, 1) := by decide +kernel
theorem dX11_holdNow_13 : decode cX11_holdNow 13 = .ok (.getfield 7, 3) := by decide +kernel
theorem dX11_holdNow_16 : decode cX11_holdNow 16 = .ok (.iconst 5, 1) := by decide +kernel
theorem dX11_holdNow_17 : decode cX11_holdNow 17 = .ok (.iaload, 1) := by decide +kernel
theorem dX11_holdNow_18 : decode cX11_holdNow 18 = .ok (.iload_n 1, 1) := by decide +kernel
theorem dX11_holdNow_19 : decode cX11_holdNow 19 = .ok (.isub, 1) := by decide +kernel
theorem dX11_holdNow_20 : decode cX11_holdNow 20 = .ok (.putfield 201, 3) := by decide +kernel
theorem dX11_holdNow_23 : decode cX11_holdNow 23 = .ok (.iconst 1, 1) := by decide +kernel
theorem dX11_holdNow_24 : decode cX11_holdNow 24 = .ok (.ireturn, 1) := by decide +kernel
theorem dX11_canTest_0 : decode cX11_canTest 0 = .ok (.aload_n 0, 1) := by decide +kernel
theorem dX11_canTest_1 : decode cX11_canTest 1 = .ok (.getfield 7, 3) := by decide +kernel
theorem dX11_canTest_4 : decode cX11_canTest 4 = .ok (.iload_n 1, 1) := by decide +kernel
theorem dX11_canTest_5 : decode cX11_canTest 5 = .ok (.iload_n 2, 1) := by decide +kernel
theorem dX11_canTest_6 : decode cX11_canTest 6 = .ok (.iconst 0, 1) := by decide +kernel
theorem dX11_canTest_7 : decode cX11_canTest 7 = .ok (.invokestatic 99, 3) := by decide +kernel
theorem dX11_canTest_10 : decode cX11_canTest 10 = .ok (.iaload, 1) := by decide +kernel
theorem dX11_canTest_11 : decode cX11_canTest 11 = .ok (.ifCond .ne 15, 3) := by decide +kernel
theorem dX11_canTest_14 : decode cX11_canTest 14 = .ok (.aload_n 0, 1) := by decide +kernel
theorem dX11_canTest_15 : decode cX11_canTest 15 = .ok (.iload_n 2, 1) := by decide +kernel
theorem dX11_canTest_16 : decode cX11_canTest 16 = .ok (.invokevirtual 149, 3) := by decide +kernel
theorem dX11_canTest_19 : decode cX11_canTest 19 = .ok (.ifCond .ne 7, 3) := by decide +kernel
theorem dX11_canTest_22 : decode cX11_canTest 22 = .ok (.iconst 1, 1) := by decide +kernel
theorem dX11_canTest_23 : decode cX11_canTest 23 = .ok (.goto 4, 3) := by decide +kernel
theorem dX11_canTest_26 : decode cX11_canTest 26 = .ok (.iconst 0, 1) := by decide +kernel
theorem dX11_canTest_27 : decode cX11_canTest 27 = .ok (.ireturn, 1) := by decide +kernel
theorem dX11_testNow_0 : decode cX11_testNow 0 = .ok (.aload_n 0, 1) := by decide +kernel
theorem dX11_testNow_1 : decode cX11_testNow 1 = .ok (.iload_n 1, 1) := by decide +kernel
theorem dX11_testNow_2 : decode cX11_testNow 2 = .ok (.iload_n 2, 1) := by decide +kernel
theorem dX11_testNow_3 : decode cX11_testNow 3 = .ok (.invokevirtual 204, 3) := by decide +kernel
theorem dX11_testNow_6 : decode cX11_testNow 6 = .ok (.ifCond .ne 5, 3) := by decide +kernel
theorem dX11_testNow_9 : decode cX11_testNow 9 = .ok (.iconst 0, 1) := by decide +kernel
theorem dX11_testNow_10 : decode cX11_testNow 10 = .ok (.ireturn, 1) := by decide +kernel
theorem dX11_testNow_11 : decode cX11_testNow 11 = .ok (.aload_n 0, 1) := by decide +kernel
theorem dX11_testNow_12 : decode cX11_testNow 12 = .ok (.getfield 7, 3) := by decide +kernel
theorem dX11_testNow_15 : decode cX11_testNow 15 = .ok (.iload_n 1, 1) := by decide +kernel
theorem dX11_testNow_16 : decode cX11_testNow 16 = .ok (.iload_n 2, 1) := by decide +kernel
theorem dX11_testNow_17 : decode cX11_testNow 17 = .ok (.iconst 0, 1) := by decide +kernel
theorem dX11_testNow_18 : decode cX11_testNow 18 = .ok (.invokestatic 99, 3) := by decide +kernel
theorem dX11_testNow_21 : decode cX11_testNow 21 = .ok (.iconst 1, 1) := by decide +kernel
theorem dX11_testNow_22 : decode cX11_testNow 22 = .ok (.iastore, 1) := by decide +kernel
theorem dX11_testNow_23 : decode cX11_testNow 23 = .ok (.aload_n 0, 1) := by decide +kernel
theorem dX11_testNow_24 : decode cX11_testNow 24 = .ok (.aload_n 0, 1) := by decide +kernel
theorem dX11_testNow_25 : decode cX11_testNow 25 = .ok (.iload_n 1, 1) := by decide +kernel
theorem dX11_testNow_26 : decode cX11_testNow 26 = .ok (.iload_n 2, 1) := by decide +kernel
theorem dX11_testNow_27 : decode cX11_testNow 27 = .ok (.invokevirtual 103, 3) := by decide +kernel
theorem dX11_testNow_30 : decode cX11_testNow 30 = .ok (.putfield 201, 3) := by decide +kernel
theorem dX11_testNow_33 : decode cX11_testNow 33 = .ok (.iconst 1, 1) := by decide +kernel
theorem dX11_testNow_34 : decode cX11_testNow 34 = .ok (.ireturn, 1) := by decide +kernel
theorem dX11_dismissNow_0 : decode cX11_dismissNow 0 = .ok (.aload_n 0, 1) := by decide +kernel
theorem dX11_dismissNow_1 : decode cX11_dismissNow 1 = .ok (.iload_n 1, 1) := by decide +kernel
theorem dX11_dismissNow_2 : decode cX11_dismissNow 2 = .ok (.invokevirtual 149, 3) := by decide +kernel
theorem dX11_dismissNow_5 : decode cX11_dismissNow 5 = .ok (.ifCond .ne 5, 3) := by decide +kernel
theorem dX11_dismissNow_8 : decode cX11_dismissNow 8 = .ok (.iconst 0, 1) := by decide +kernel
theorem dX11_dismissNow_9 : decode cX11_dismissNow 9 = .ok (.ireturn, 1) := by decide +kernel
theorem dX11_dismissNow_10 : decode cX11_dismissNow 10 = .ok (.aload_n 0, 1) := by decide +kernel
theorem dX11_dismissNow_11 : decode cX11_dismissNow 11 = .ok (.aload_n 0, 1) := by decide +kernel
theorem dX11_dismissNow_12 : decode cX11_dismissNow 12 = .ok (.iload_n 1, 1) := by decide +kernel
theorem dX11_dismissNow_13 : decode cX11_dismissNow 13 = .ok (.invokevirtual 119, 3) := by decide +kernel
theorem dX11_dismissNow_16 : decode cX11_dismissNow 16 = .ok (.putfield 201, 3) := by decide +kernel
theorem dX11_dismissNow_19 : decode cX11_dismissNow 19 = .ok (.aload_n 0, 1) := by decide +kernel
theorem dX11_dismissNow_20 : decode cX11_dismissNow 20 = .ok (.iload_n 1, 1) := by decide +kernel
theorem dX11_dismissNow_21 : decode cX11_dismissNow 21 = .ok (.invokevirtual 171, 3) := by decide +kernel
theorem dX11_dismissNow_24 : decode cX11_dismissNow 24 = .ok (.iconst 1, 1) := by decide +kernel
theorem dX11_dismissNow_25 : decode cX11_dismissNow 25 = .ok (.ireturn, 1) := by decide +kernel
theorem dX11_wageNow_0 : decode cX11_wageNow 0 = .ok (.aload_n 0, 1) := by decide +kernel
theorem dX11_wageNow_1 : decode cX11_wageNow 1 = .ok (.aload_n 0, 1) := by decide +kernel
theorem dX11_wageNow_2 : decode cX11_wageNow 2 = .ok (.iload_n 1, 1) := by decide +kernel
theorem dX11_wageNow_3 : decode cX11_wageNow 3 = .ok (.bipush 9, 2) := by decide +kernel
theorem dX11_wageNow_5 : decode cX11_wageNow 5 = .ok (.invokevirtual 90, 3) := by decide +kernel
theorem dX11_wageNow_8 : decode cX11_wageNow 8 = .ok (.putfield 201, 3) := by decide +kernel
theorem dX11_wageNow_11 : decode cX11_wageNow 11 = .ok (.aload_n 0, 1) := by decide +kernel
theorem dX11_wageNow_12 : decode cX11_wageNow 12 = .ok (.iload_n 1, 1) := by decide +kernel
theorem dX11_wageNow_13 : decode cX11_wageNow 13 = .ok (.bipush 9, 2) := by decide +kernel
theorem dX11_wageNow_15 : decode cX11_wageNow 15 = .ok (.iload_n 2, 1) := by decide +kernel
theorem dX11_wageNow_16 : decode cX11_wageNow 16 = .ok (.invokevirtual 112, 3) := by decide +kernel
theorem dX11_wageNow_19 : decode cX11_wageNow 19 = .ok (.iconst 1, 1) := by decide +kernel
theorem dX11_wageNow_20 : decode cX11_wageNow 20 = .ok (.ireturn, 1) := by decide +kernel
theorem dX11_fundNow_0 : decode cX11_fundNow 0 = .ok (.aload_n 0, 1) := by decide +kernel
theorem dX11_fundNow_1 : decode cX11_fundNow 1 = .ok (.aload_n 0, 1) := by decide +kernel
theorem dX11_fundNow_2 : decode cX11_fundNow 2 = .ok (.iload_n 1, 1) := by decide +kernel
theorem dX11_fundNow_3 : decode cX11_fundNow 3 = .ok (.bipush 10, 2) := by decide +kernel
theorem dX11_fundNow_5 : decode cX11_fundNow 5 = .ok (.invokevirtual 90, 3) := by decide +kernel
theorem dX11_fundNow_8 : decode cX11_fundNow 8 = .ok (.iload_n 2, 1) := by decide +kernel
theorem dX11_fundNow_9 : decode cX11_fundNow 9 = .ok (.iadd, 1) := by decide +kernel
theorem dX11_fundNow_10 : decode cX11_fundNow 10 = .ok (.putfield 201, 3) := by decide +kernel
theorem dX11_fundNow_13 : decode cX11_fundNow 13 = .ok (.aload_n 0, 1) := by decide +kernel
theorem dX11_fundNow_14 : decode cX11_fundNow 14 = .ok (.iload_n 1, 1) := by decide +kernel
theorem dX11_fundNow_15 : decode cX11_fundNow 15 = .ok (.bipush 10, 2) := by decide +kernel
theorem dX11_fundNow_17 : decode cX11_fundNow 17 = .ok (.aload_n 0, 1) := by decide +kernel
theorem dX11_fundNow_18 : decode cX11_fundNow 18 = .ok (.getfield 201, 3) := by decide +kernel
theorem dX11_fundNow_21 : decode cX11_fundNow 21 = .ok (.invokevirtual 112, 3) := by decide +kernel
theorem dX11_fundNow_24 : decode cX11_fundNow 24 = .ok (.aload_n 0, 1) := by decide +kernel
theorem dX11_fundNow_25 : decode cX11_fundNow 25 = .ok (.getfield 7, 3) := by decide +kernel
theorem dX11_fundNow_28 : decode cX11_fundNow 28 = .ok (.bipush 9, 2) := by decide +kernel
theorem dX11_fundNow_30 : decode cX11_fundNow 30 = .ok (.dup2, 1) := by decide +kernel
theorem dX11_fundNow_31 : decode cX11_fundNow 31 = .ok (.iaload, 1) := by decide +kernel
theorem dX11_fundNow_32 : decode cX11_fundNow 32 = .ok (.iload_n 2, 1) := by decide +kernel
theorem dX11_fundNow_33 : decode cX11_fundNow 33 = .ok (.iadd, 1) := by decide +kernel
theorem dX11_fundNow_34 : decode cX11_fundNow 34 = .ok (.iastore, 1) := by decide +kernel
theorem dX11_fundNow_35 : decode cX11_fundNow 35 = .ok (.iconst 1, 1) := by decide +kernel
theorem dX11_fundNow_36 : decode cX11_fundNow 36 = .ok (.ireturn, 1) := by decide +kernel
theorem dX11_canTrain_0 : decode cX11_canTrain 0 = .ok (.aload_n 0, 1) := by decide +kernel
theorem dX11_canTrain_1 : decode cX11_canTrain 1 = .ok (.iload_n 1, 1) := by decide +kernel
theorem dX11_canTrain_2 : decode cX11_canTrain 2 = .ok (.bipush 8, 2) := by decide +kernel
theorem dX11_canTrain_4 : decode cX11_canTrain 4 = .ok (.invokevirtual 86, 3) := by decide +kernel
theorem dX11_canTrain_7 : decode cX11_canTrain 7 = .ok (.bipush 9, 2) := by decide +kernel
theorem dX11_canTrain_9 : decode cX11_canTrain 9 = .ok (.if_icmp .ge 27, 3) := by decide +kernel
theorem dX11_canTrain_12 : decode cX11_canTrain 12 = .ok (.aload_n 0, 1) := by decide +kernel
theorem dX11_canTrain_13 : decode cX11_canTrain 13 = .ok (.iload_n 1, 1) := by decide +kernel
theorem dX11_canTrain_14 : decode cX11_canTrain 14 = .ok (.bipush 11, 2) := by decide +kernel
theorem dX11_canTrain_16 : decode cX11_canTrain 16 = .ok (.invokevirtual 86, 3) := by decide +kernel
theorem dX11_canTrain_19 : decode cX11_canTrain 19 = .ok (.bipush 10, 2) := by decide +kernel
theorem dX11_canTrain_21 : decode cX11_canTrain 21 = .ok (.aload_n 0, 1) := by decide +kernel
theorem dX11_canTrain_22 : decode cX11_canTrain 22 = .ok (.iload_n 1, 1) := by decide +kernel
theorem dX11_canTrain_23 : decode cX11_canTrain 23 = .ok (.bipush 8, 2) := by decide +kernel
theorem dX11_canTrain_25 : decode cX11_canTrain 25 = .ok (.invokevirtual 86, 3) := by decide +kernel
theorem dX11_canTrain_28 : decode cX11_canTrain 28 = .ok (.imul, 1) := by decide +kernel
theorem dX11_canTrain_29 : decode cX11_canTrain 29 = .ok (.if_icmp .lt 7, 3) := by decide +kernel
theorem dX11_canTrain_32 : decode cX11_canTrain 32 = .ok (.iconst 1, 1) := by decide +kernel
theorem dX11_canTrain_33 : decode cX11_canTrain 33 = .ok (.goto 4, 3) := by decide +kernel
theorem dX11_canTrain_36 : decode cX11_canTrain 36 = .ok (.iconst 0, 1) := by decide +kernel
theorem dX11_canTrain_37 : decode cX11_canTrain 37 = .ok (.ireturn, 1) := by decide +kernel
theorem dX11_trainNow_0 : decode cX11_trainNow 0 = .ok (.aload_n 0, 1) := by decide +kernel
theorem dX11_trainNow_1 : decode cX11_trainNow 1 = .ok (.iload_n 1, 1) := by decide +kernel
theorem dX11_trainNow_2 : decode cX11_trainNow 2 = .ok (.invokevirtual 207, 3) := by decide +kernel
theorem dX11_trainNow_5 : decode cX11_trainNow 5 = .ok (.ifCond .ne 5, 3) := by decide +kernel
theorem dX11_trainNow_8 : decode cX11_trainNow 8 = .ok (.iconst 0, 1) := by decide +kernel
theorem dX11_trainNow_9 : decode cX11_trainNow 9 = .ok (.ireturn, 1) := by decide +kernel
theorem dX11_trainNow_10 : decode cX11_trainNow 10 = .ok (.bipush 10, 2) := by decide +kernel
theorem dX11_trainNow_12 : decode cX11_trainNow 12 = .ok (.aload_n 0, 1) := by decide +kernel
theorem dX11_trainNow_13 : decode cX11_trainNow 13 = .ok (.iload_n 1, 1) := by decide +kernel
theorem dX11_trainNow_14 : decode cX11_trainNow 14 = .ok (.bipush 8, 2) := by decide +kernel
theorem dX11_trainNow_16 : decode cX11_trainNow 16 = .ok (.invokevirtual 86, 3) := by decide +kernel
theorem dX11_trainNow_19 : decode cX11_trainNow 19 = .ok (.imul, 1) := by decide +kernel
theorem dX11_trainNow_20 : decode cX11_trainNow 20 = .ok (.istore_n 2, 1) := by decide +kernel
theorem dX11_trainNow_21 : decode cX11_trainNow 21 = .ok (.aload_n 0, 1) := by decide +kernel
theorem dX11_trainNow_22 : decode cX11_trainNow 22 = .ok (.iload_n 1, 1) := by decide +kernel
theorem dX11_trainNow_23 : decode cX11_trainNow 23 = .ok (.bipush 11, 2) := by decide +kernel
theorem dX11_trainNow_25 : decode cX11_trainNow 25 = .ok (.aload_n 0, 1) := by decide +kernel
theorem dX11_trainNow_26 : decode cX11_trainNow 26 = .ok (.iload_n 1, 1) := by decide +kernel
theorem dX11_trainNow_27 : decode cX11_trainNow 27 = .ok (.bipush 11, 2) := by decide +kernel
theorem dX11_trainNow_29 : decode cX11_trainNow 29 = .ok (.invokevirtual 86, 3) := by decide +kernel
theorem dX11_trainNow_32 : decode cX11_trainNow 32 = .ok (.iload_n 2, 1) := by decide +kernel
theorem dX11_trainNow_33 : decode cX11_trainNow 33 = .ok (.isub, 1) := by decide +kernel
theorem dX11_trainNow_34 : decode cX11_trainNow 34 = .ok (.invokevirtual 116, 3) := by decide +kernel
theorem dX11_trainNow_37 : decode cX11_trainNow 37 = .ok (.aload_n 0, 1) := by decide +kernel
theorem dX11_trainNow_38 : decode cX11_trainNow 38 = .ok (.iload_n 1, 1) := by decide +kernel
theorem dX11_trainNow_39 : decode cX11_trainNow 39 = .ok (.bipush 8, 2) := by decide +kernel
theorem dX11_trainNow_41 : decode cX11_trainNow 41 = .ok (.aload_n 0, 1) := by decide +kernel
theorem dX11_trainNow_42 : decode cX11_trainNow 42 = .ok (.iload_n 1, 1) := by decide +kernel
theorem dX11_trainNow_43 : decode cX11_trainNow 43 = .ok (.bipush 8, 2) := by decide +kernel
theorem dX11_trainNow_45 : decode cX11_trainNow 45 = .ok (.invokevirtual 86, 3) := by decide +kernel
theorem dX11_trainNow_48 : decode cX11_trainNow 48 = .ok (.iconst 1, 1) := by decide +kernel
theorem dX11_trainNow_49 : decode cX11_trainNow 49 = .ok (.iadd, 1) := by decide +kernel
theorem dX11_trainNow_50 : decode cX11_trainNow 50 = .ok (.invokevirtual 116, 3) := by decide +kernel
theorem dX11_trainNow_53 : decode cX11_trainNow 53 = .ok (.aload_n 0, 1) := by decide +kernel
theorem dX11_trainNow_54 : decode cX11_trainNow 54 = .ok (.getfield 7, 3) := by decide +kernel
theorem dX11_trainNow_57 : decode cX11_trainNow 57 = .ok (.bipush 10, 2) := by decide +kernel
theorem dX11_trainNow_59 : decode cX11_trainNow 59 = .ok (.dup2, 1) := by decide +kernel
theorem dX11_trainNow_60 : decode cX11_trainNow 60 = .ok (.iaload, 1) := by decide +kernel
theorem dX11_trainNow_61 : decode cX11_trainNow 61 = .ok (.iload_n 2, 1) := by decide +kernel
theorem dX11_trainNow_62 : decode cX11_trainNow 62 = .ok (.iadd, 1) := by decide +kernel
theorem dX11_trainNow_63 : decode cX11_trainNow 63 = .ok (.iastore, 1) := by decide +kernel
theorem dX11_trainNow_64 : decode cX11_trainNow 64 = .ok (.aload_n 0, 1) := by decide +kernel
theorem dX11_trainNow_65 : decode cX11_trainNow 65 = .ok (.aload_n 0, 1) := by decide +kernel
theorem dX11_trainNow_66 : decode cX11_trainNow 66 = .ok (.iload_n 1, 1) := by decide +kernel
theorem dX11_trainNow_67 : decode cX11_trainNow 67 = .ok (.bipush 8, 2) := by decide +kernel
theorem dX11_trainNow_69 : decode cX11_trainNow 69 = .ok (.invokevirtual 86, 3) := by decide +kernel
theorem dX11_trainNow_72 : decode cX11_trainNow 72 = .ok (.putfield 201, 3) := by decide +kernel
theorem dX11_trainNow_75 : decode cX11_trainNow 75 = .ok (.iconst 1, 1) := by decide +kernel
theorem dX11_trainNow_76 : decode cX11_trainNow 76 = .ok (.ireturn, 1) := by decide +kernel
theorem dX11_four_0 : decode cX11_four 0 = .ok (.bipush 24, 2) := by decide +kernel
theorem dX11_four_2 : decode cX11_four 2 = .ok (.istore_n 2, 1) := by decide +kernel
theorem dX11_four_3 : decode cX11_four 3 = .ok (.iload_n 2, 1) := by decide +kernel
theorem dX11_four_4 : decode cX11_four 4 = .ok (.ifCond .lt 35, 3) := by decide +kernel
theorem dX11_four_7 : decode cX11_four 7 = .ok (.aload_n 0, 1) := by decide +kernel
theorem dX11_four_8 : decode cX11_four 8 = .ok (.getfield 38, 3) := by decide +kernel
theorem dX11_four_11 : decode cX11_four 11 = .ok (.aload_n 0, 1) := by decide +kernel
theorem dX11_four_12 : decode cX11_four 12 = .ok (.getfield 63, 3) := by decide +kernel
theorem dX11_four_15 : decode cX11_four 15 = .ok (.iload_n 1, 1) := by decide +kernel
theorem dX11_four_16 : decode cX11_four 16 = .ok (.iload_n 2, 1) := by decide +kernel
theorem dX11_four_17 : decode cX11_four 17 = .ok (.ishr, 1) := by decide +kernel
theorem dX11_four_18 : decode cX11_four 18 = .ok (.sipush 255, 3) := by decide +kernel
theorem dX11_four_21 : decode cX11_four 21 = .ok (.iand, 1) := by decide +kernel
theorem dX11_four_22 : decode cX11_four 22 = .ok (.iastore, 1) := by decide +kernel
theorem dX11_four_23 : decode cX11_four 23 = .ok (.aload_n 0, 1) := by decide +kernel
theorem dX11_four_24 : decode cX11_four 24 = .ok (.dup, 1) := by decide +kernel
theorem dX11_four_25 : decode cX11_four 25 = .ok (.getfield 63, 3) := by decide +kernel
theorem dX11_four_28 : decode cX11_four 28 = .ok (.iconst 1, 1) := by decide +kernel
theorem dX11_four_29 : decode cX11_four 29 = .ok (.iadd, 1) := by decide +kernel
theorem dX11_four_30 : decode cX11_four 30 = .ok (.putfield 63, 3) := by decide +kernel
theorem dX11_four_33 : decode cX11_four 33 = .ok (.iinc 2 (-8), 3) := by decide +kernel
theorem dX11_four_36 : decode cX11_four 36 = .ok (.goto (-33), 3) := by decide +kernel
theorem dX11_four_39 : decode cX11_four 39 = .ok (.return_, 1) := by decide +kernel
theorem dX11_append_0 : decode cX11_append 0 = .ok (.aload_n 0, 1) := by decide +kernel
theorem dX11_append_1 : decode cX11_append 1 = .ok (.aload_n 0, 1) := by decide +kernel
theorem dX11_append_2 : decode cX11_append 2 = .ok (.getfield 63, 3) := by decide +kernel
theorem dX11_append_5 : decode cX11_append 5 = .ok (.bipush 20, 2) := by decide +kernel
theorem dX11_append_7 : decode cX11_append 7 = .ok (.iadd, 1) := by decide +kernel
theorem dX11_append_8 : decode cX11_append 8 = .ok (.sipush 900, 3) := by decide +kernel
theorem dX11_append_11 : decode cX11_append 11 = .ok (.if_icmp .gt 7, 3) := by decide +kernel
theorem dX11_append_14 : decode cX11_append 14 = .ok (.iconst 1, 1) := by decide +kernel
theorem dX11_append_15 : decode cX11_append 15 = .ok (.goto 4, 3) := by decide +kernel
theorem dX11_append_18 : decode cX11_append 18 = .ok (.iconst 0, 1) := by decide +kernel
theorem dX11_append_19 : decode cX11_append 19 = .ok (.invokevirtual 210, 3) := by decide +kernel
theorem dX11_append_22 : decode cX11_append 22 = .ok (.ifCond .ne 5, 3) := by decide +kernel
theorem dX11_append_25 : decode cX11_append 25 = .ok (.iconst 0, 1) := by decide +kernel
theorem dX11_append_26 : decode cX11_append 26 = .ok (.ireturn, 1) := by decide +kernel
theorem dX11_append_27 : decode cX11_append 27 = .ok (.aload_n 0, 1) := by decide +kernel
theorem dX11_append_28 : decode cX11_append 28 = .ok (.iload_n 1, 1) := by decide +kernel
theorem dX11_append_29 : decode cX11_append 29 = .ok (.invokevirtual 214, 3) := by decide +kernel
theorem dX11_append_32 : decode cX11_append 32 = .ok (.aload_n 0, 1) := by decide +kernel
theorem dX11_append_33 : decode cX11_append 33 = .ok (.iload_n 2, 1) := by decide +kernel
theorem dX11_append_34 : decode cX11_append 34 = .ok (.invokevirtual 214, 3) := by decide +kernel
theorem dX11_append_37 : decode cX11_append 37 = .ok (.aload_n 0, 1) := by decide +kernel
theorem dX11_append_38 : decode cX11_append 38 = .ok (.iload_n 3, 1) := by decide +kernel
theorem dX11_append_39 : decode cX11_append 39 = .ok (.invokevirtual 214, 3) := by decide +kernel
theorem dX11_append_42 : decode cX11_append 42 = .ok (.aload_n 0, 1) := by decide +kernel
theorem dX11_append_43 : decode cX11_append 43 = .ok (.iload 4, 2) := by decide +kernel
theorem dX11_append_45 : decode cX11_append 45 = .ok (.invokevirtual 214, 3) := by decide +kernel
theorem dX11_append_48 : decode cX11_append 48 = .ok (.aload_n 0, 1) := by decide +kernel
theorem dX11_append_49 : decode cX11_append 49 = .ok (.iload 5, 2) := by decide +kernel
theorem dX11_append_51 : decode cX11_append 51 = .ok (.invokevirtual 214, 3) := by decide +kernel
theorem dX11_append_54 : decode cX11_append 54 = .ok (.aload_n 0, 1) := by decide +kernel
theorem dX11_append_55 : decode cX11_append 55 = .ok (.getfield 63, 3) := by decide +kernel
theorem dX11_append_58 : decode cX11_append 58 = .ok (.ireturn, 1) := by decide +kernel
theorem dX11_truncate_0 : decode cX11_truncate 0 = .ok (.aload_n 0, 1) := by decide +kernel
theorem dX11_truncate_1 : decode cX11_truncate 1 = .ok (.iload_n 1, 1) := by decide +kernel
theorem dX11_truncate_2 : decode cX11_truncate 2 = .ok (.i2l, 1) := by decide +kernel
theorem dX11_truncate_3 : decode cX11_truncate 3 = .ok (.lconst 0, 1) := by decide +kernel
theorem dX11_truncate_4 : decode cX11_truncate 4 = .ok (.aload_n 0, 1) := by decide +kernel
theorem dX11_truncate_5 : decode cX11_truncate 5 = .ok (.getfield 63, 3) := by decide +kernel
theorem dX11_truncate_8 : decode cX11_truncate 8 = .ok (.i2l, 1) := by decide +kernel
theorem dX11_truncate_9 : decode cX11_truncate 9 = .ok (.invokestatic 75, 3) := by decide +kernel
theorem dX11_truncate_12 : decode cX11_truncate 12 = .ok (.invokevirtual 210, 3) := by decide +kernel
theorem dX11_truncate_15 : decode cX11_truncate 15 = .ok (.ifCond .ne 5, 3) := by decide +kernel
theorem dX11_truncate_18 : decode cX11_truncate 18 = .ok (.iconst 0, 1) := by decide +kernel
theorem dX11_truncate_19 : decode cX11_truncate 19 = .ok (.ireturn, 1) := by decide +kernel
theorem dX11_truncate_20 : decode cX11_truncate 20 = .ok (.aload_n 0, 1) := by decide +kernel
theorem dX11_truncate_21 : decode cX11_truncate 21 = .ok (.iload_n 1, 1) := by decide +kernel
theorem dX11_truncate_22 : decode cX11_truncate 22 = .ok (.putfield 63, 3) := by decide +kernel
theorem dX11_truncate_25 : decode cX11_truncate 25 = .ok (.iload_n 1, 1) := by decide +kernel
theorem dX11_truncate_26 : decode cX11_truncate 26 = .ok (.ireturn, 1) := by decide +kernel
theorem dX11_byteAt_0 : decode cX11_byteAt 0 = .ok (.iload_n 1, 1) := by decide +kernel
theorem dX11_byteAt_1 : decode cX11_byteAt 1 = .ok (.aload_n 0, 1) := by decide +kernel
theorem dX11_byteAt_2 : decode cX11_byteAt 2 = .ok (.getfield 63, 3) := by decide +kernel
theorem dX11_byteAt_5 : decode cX11_byteAt 5 = .ok (.if_icmp .ge 12, 3) := by decide +kernel
theorem dX11_byteAt_8 : decode cX11_byteAt 8 = .ok (.aload_n 0, 1) := by decide +kernel
theorem dX11_byteAt_9 : decode cX11_byteAt 9 = .ok (.getfield 38, 3) := by decide +kernel
theorem dX11_byteAt_12 : decode cX11_byteAt 12 = .ok (.iload_n 1, 1) := by decide +kernel
theorem dX11_byteAt_13 : decode cX11_byteAt 13 = .ok (.iaload, 1) := by decide +kernel
theorem dX11_byteAt_14 : decode cX11_byteAt 14 = .ok (.goto 4, 3) := by decide +kernel
theorem dX11_byteAt_17 : decode cX11_byteAt 17 = .ok (.iconst (-1), 1) := by decide +kernel
theorem dX11_byteAt_18 : decode cX11_byteAt 18 = .ok (.ireturn, 1) := by decide +kernel
theorem dX11_next_0 : decode cX11_next 0 = .ok (.aload_n 0, 1) := by decide +kernel
theorem dX11_next_1 : decode cX11_next 1 = .ok (.aload_n 0, 1) := by decide +kernel
theorem dX11_next_2 : decode cX11_next 2 = .ok (.getfield 217, 3) := by decide +kernel
theorem dX11_next_5 : decode cX11_next 5 = .ok (.invokevirtual 220, 3) := by decide +kernel
theorem dX11_next_8 : decode cX11_next 8 = .ok (.bipush 32, 2) := by decide +kernel
theorem dX11_next_10 : decode cX11_next 10 = .ok (.if_icmp .ne 16, 3) := by decide +kernel
theorem dX11_next_13 : decode cX11_next 13 = .ok (.aload_n 0, 1) := by decide +kernel
theorem dX11_next_14 : decode cX11_next 14 = .ok (.dup, 1) := by decide +kernel
theorem dX11_next_15 : decode cX11_next 15 = .ok (.getfield 217, 3) := by decide +kernel
theorem dX11_next_18 : decode cX11_next 18 = .ok (.iconst 1, 1) := by decide +kernel
theorem dX11_next_19 : decode cX11_next 19 = .ok (.iadd, 1) := by decide +kernel
theorem dX11_next_20 : decode cX11_next 20 = .ok (.putfield 217, 3) := by decide +kernel
theorem dX11_next_23 : decode cX11_next 23 = .ok (.goto (-23), 3) := by decide +kernel
theorem dX11_next_26 : decode cX11_next 26 = .ok (.aload_n 0, 1) := by decide +kernel
theorem dX11_next_27 : decode cX11_next 27 = .ok (.aload_n 0, 1) := by decide +kernel
theorem dX11_next_28 : decode cX11_next 28 = .ok (.getfield 217, 3) := by decide +kernel
theorem dX11_next_31 : decode cX11_next 31 = .ok (.putfield 223, 3) := by decide +kernel
theorem dX11_next_34 : decode cX11_next 34 = .ok (.aload_n 0, 1) := by decide +kernel
theorem dX11_next_35 : decode cX11_next 35 = .ok (.iconst 0, 1) := by decide +kernel
theorem dX11_next_36 : decode cX11_next 36 = .ok (.putfield 226, 3) := by decide +kernel
theorem dX11_next_39 : decode cX11_next 39 = .ok (.aload_n 0, 1) := by decide +kernel
theorem dX11_next_40 : decode cX11_next 40 = .ok (.aload_n 0, 1) := by decide +kernel
theorem dX11_next_41 : decode cX11_next 41 = .ok (.getfield 223, 3) := by decide +kernel
theorem dX11_next_44 : decode cX11_next 44 = .ok (.aload_n 0, 1) := by decide +kernel
theorem dX11_next_45 : decode cX11_next 45 = .ok (.getfield 226, 3) := by decide +kernel
theorem dX11_next_48 : decode cX11_next 48 = .ok (.iadd, 1) := by decide +kernel
theorem dX11_next_49 : decode cX11_next 49 = .ok (.invokevirtual 220, 3) := by decide +kernel
theorem dX11_next_52 : decode cX11_next 52 = .ok (.i2l, 1) := by decide +kernel
theorem dX11_next_53 : decode cX11_next 53 = .ok (.ldc2_w 229, 3) := by decide +kernel
theorem dX11_next_56 : decode cX11_next 56 = .ok (.ldc2_w 231, 3) := by decide +kernel
theorem dX11_next_59 : decode cX11_next 59 = .ok (.invokestatic 75, 3) := by decide +kernel
theorem dX11_next_62 : decode cX11_next 62 = .ok (.ifCond .eq 16, 3) := by decide +kernel
theorem dX11_next_65 : decode cX11_next 65 = .ok (.aload_n 0, 1) := by decide +kernel
theorem dX11_next_66 : decode cX11_next 66 = .ok (.dup, 1) := by decide +kernel
theorem dX11_next_67 : decode cX11_next 67 = .ok (.getfield 226, 3) := by decide +kernel
theorem dX11_next_70 : decode cX11_next 70 = .ok (.iconst 1, 1) := by decide +kernel
theorem dX11_next_71 : decode cX11_next 71 = .ok (.iadd, 1) := by decide +kernel
theorem dX11_next_72 : decode cX11_next 72 = .ok (.putfield 226, 3) := by decide +kernel
theorem dX11_next_75 : decode cX11_next 75 = .ok (.goto (-36), 3) := by decide +kernel
theorem dX11_next_78 : decode cX11_next 78 = .ok (.aload_n 0, 1) := by decide +kernel
theorem dX11_next_79 : decode cX11_next 79 = .ok (.aload_n 0, 1) := by decide +kernel
theorem dX11_next_80 : decode cX11_next 80 = .ok (.getfield 217, 3) := by decide +kernel
theorem dX11_next_83 : decode cX11_next 83 = .ok (.invokevirtual 220, 3) := by decide +kernel
theorem dX11_next_86 : decode cX11_next 86 = .ok (.ireturn, 1) := by decide +kernel
theorem dX11_must_0 : decode cX11_must 0 = .ok (.iload_n 1, 1) := by decide +kernel
theorem dX11_must_1 : decode cX11_must 1 = .ok (.ifCond .ne 10, 3) := by decide +kernel
theorem dX11_must_4 : decode cX11_must 4 = .ok (.aload_n 0, 1) := by decide +kernel
theorem dX11_must_5 : decode cX11_must 5 = .ok (.getfield 233, 3) := by decide +kernel
theorem dX11_must_8 : decode cX11_must 8 = .ok (.ifCond .eq 4, 3) := by decide +kernel
theorem dX11_must_11 : decode cX11_must 11 = .ok (.return_, 1) := by decide +kernel
theorem dX11_must_12 : decode cX11_must 12 = .ok (.aload_n 0, 1) := by decide +kernel
theorem dX11_must_13 : decode cX11_must 13 = .ok (.iload_n 2, 1) := by decide +kernel
theorem dX11_must_14 : decode cX11_must 14 = .ok (.putfield 233, 3) := by decide +kernel
theorem dX11_must_17 : decode cX11_must 17 = .ok (.aload_n 0, 1) := by decide +kernel
theorem dX11_must_18 : decode cX11_must 18 = .ok (.aload_n 0, 1) := by decide +kernel
theorem dX11_must_19 : decode cX11_must 19 = .ok (.getfield 223, 3) := by decide +kernel
theorem dX11_must_22 : decode cX11_must 22 = .ok (.putfield 236, 3) := by decide +kernel
theorem dX11_must_25 : decode cX11_must 25 = .ok (.return_, 1) := by decide +kernel
theorem dX11_sees_0 : decode cX11_sees 0 = .ok (.aload_n 0, 1) := by decide +kernel
theorem dX11_sees_1 : decode cX11_sees 1 = .ok (.invokevirtual 239, 3) := by decide +kernel
theorem dX11_sees_4 : decode cX11_sees 4 = .ok (.istore_n 2, 1) := by decide +kernel
theorem dX11_sees_5 : decode cX11_sees 5 = .ok (.aload_n 0, 1) := by decide +kernel
theorem dX11_sees_6 : decode cX11_sees 6 = .ok (.getfield 233, 3) := by decide +kernel
theorem dX11_sees_9 : decode cX11_sees 9 = .ok (.ifCond .ne 14, 3) := by decide +kernel
theorem dX11_sees_12 : decode cX11_sees 12 = .ok (.aload_n 0, 1) := by decide +kernel
theorem dX11_sees_13 : decode cX11_sees 13 = .ok (.getfield 226, 3) := by decide +kernel
theorem dX11_sees_16 : decode cX11_sees 16 = .ok (.aload_n 1, 1) := by decide +kernel
theorem dX11_sees_17 : decode cX11_sees 17 = .ok (.invokevirtual 53, 3) := by decide +kernel
theorem dX11_sees_20 : decode cX11_sees 20 = .ok (.if_icmp .eq 5, 3) := by decide +kernel
theorem dX11_sees_23 : decode cX11_sees 23 = .ok (.iconst 0, 1) := by decide +kernel
theorem dX11_sees_24 : decode cX11_sees 24 = .ok (.ireturn, 1) := by decide +kernel
theorem dX11_sees_25 : decode cX11_sees 25 = .ok (.iconst 0, 1) := by decide +kernel
theorem dX11_sees_26 : decode cX11_sees 26 = .ok (.istore_n 3, 1) := by decide +kernel
theorem dX11_sees_27 : decode cX11_sees 27 = .ok (.iload_n 3, 1) := by decide +kernel
theorem dX11_sees_28 : decode cX11_sees 28 = .ok (.aload_n 0, 1) := by decide +kernel
theorem dX11_sees_29 : decode cX11_sees 29 = .ok (.getfield 226, 3) := by decide +kernel
theorem dX11_sees_32 : decode cX11_sees 32 = .ok (.if_icmp .ge 29, 3) := by decide +kernel
theorem dX11_sees_35 : decode cX11_sees 35 = .ok (.aload_n 0, 1) := by decide +kernel
theorem dX11_sees_36 : decode cX11_sees 36 = .ok (.aload_n 0, 1) := by decide +kernel
theorem dX11_sees_37 : decode cX11_sees 37 = .ok (.getfield 223, 3) := by decide +kernel
theorem dX11_sees_40 : decode cX11_sees 40 = .ok (.iload_n 3, 1) := by decide +kernel
theorem dX11_sees_41 : decode cX11_sees 41 = .ok (.iadd, 1) := by decide +kernel
theorem dX11_sees_42 : decode cX11_sees 42 = .ok (.invokevirtual 220, 3) := by decide +kernel
theorem dX11_sees_45 : decode cX11_sees 45 = .ok (.aload_n 1, 1) := by decide +kernel
theorem dX11_sees_46 : decode cX11_sees 46 = .ok (.iload_n 3, 1) := by decide +kernel
theorem dX11_sees_47 : decode cX11_sees 47 = .ok (.invokevirtual 59, 3) := by decide +kernel
theorem dX11_sees_50 : decode cX11_sees 50 = .ok (.if_icmp .eq 5, 3) := by decide +kernel
theorem dX11_sees_53 : decode cX11_sees 53 = .ok (.iconst 0, 1) := by decide +kernel
theorem dX11_sees_54 : decode cX11_sees 54 = .ok (.ireturn, 1) := by decide +kernel
theorem dX11_sees_55 : decode cX11_sees 55 = .ok (.iinc 3 1, 3) := by decide +kernel
theorem dX11_sees_58 : decode cX11_sees 58 = .ok (.goto (-31), 3) := by decide +kernel
theorem dX11_sees_61 : decode cX11_sees 61 = .ok (.iconst 1, 1) := by decide +kernel
theorem dX11_sees_62 : decode cX11_sees 62 = .ok (.ireturn, 1) := by decide +kernel
theorem dX11_goesPast_0 : decode cX11_goesPast 0 = .ok (.aload_n 0, 1) := by decide +kernel
theorem dX11_goesPast_1 : decode cX11_goesPast 1 = .ok (.aload_n 0, 1) := by decide +kernel
theorem dX11_goesPast_2 : decode cX11_goesPast 2 = .ok (.getfield 223, 3) := by decide +kernel
theorem dX11_goesPast_5 : decode cX11_goesPast 5 = .ok (.aload_n 0, 1) := by decide +kernel
theorem dX11_goesPast_6 : decode cX11_goesPast 6 = .ok (.getfield 226, 3) := by decide +kernel
theorem dX11_goesPast_9 : decode cX11_goesPast 9 = .ok (.iadd, 1) := by decide +kernel
theorem dX11_goesPast_10 : decode cX11_goesPast 10 = .ok (.putfield 217, 3) := by decide +kernel
theorem dX11_goesPast_13 : decode cX11_goesPast 13 = .ok (.return_, 1) := by decide +kernel
theorem dX11_keyword_0 : decode cX11_keyword 0 = .ok (.aload_n 0, 1) := by decide +kernel
theorem dX11_keyword_1 : decode cX11_keyword 1 = .ok (.getfield 233, 3) := by decide +kernel
theorem dX11_keyword_4 : decode cX11_keyword 4 = .ok (.ifCond .eq 4, 3) := by decide +kernel
theorem dX11_keyword_7 : decode cX11_keyword 7 = .ok (.return_, 1) := by decide +kernel
theorem dX11_keyword_8 : decode cX11_keyword 8 = .ok (.aload_n 0, 1) := by decide +kernel
theorem dX11_keyword_9 : decode cX11_keyword 9 = .ok (.aload_n 0, 1) := by decide +kernel
theorem dX11_keyword_10 : decode cX11_keyword 10 = .ok (.aload_n 1, 1) := by decide +kernel
theorem dX11_keyword_11 : decode cX11_keyword 11 = .ok (.invokevirtual 242, 3) := by decide +kernel
theorem dX11_keyword_14 : decode cX11_keyword 14 = .ok (.iconst 1, 1) := by decide +kernel
theorem dX11_keyword_15 : decode cX11_keyword 15 = .ok (.invokevirtual 246, 3) := by decide +kernel
theorem dX11_keyword_18 : decode cX11_keyword 18 = .ok (.aload_n 0, 1) := by decide +kernel
theorem dX11_keyword_19 : decode cX11_keyword 19 = .ok (.invokevirtual 250, 3) := by decide +kernel
theorem dX11_keyword_22 : decode cX11_keyword 22 = .ok (.return_, 1) := by decide +kernel
theorem dX11_semicolon_0 : decode cX11_semicolon 0 = .ok (.aload_n 0, 1) := by decide +kernel
theorem dX11_semicolon_1 : decode cX11_semicolon 1 = .ok (.getfield 233, 3) := by decide +kernel
theorem dX11_semicolon_4 : decode cX11_semicolon 4 = .ok (.ifCond .eq 4, 3) := by decide +kernel
theorem dX11_semicolon_7 : decode cX11_semicolon 7 = .ok (.return_, 1) := by decide +kernel
theorem dX11_semicolon_8 : decode cX11_semicolon 8 = .ok (.aload_n 0, 1) := by decide +kernel
theorem dX11_semicolon_9 : decode cX11_semicolon 9 = .ok (.aload_n 0, 1) := by decide +kernel
theorem dX11_semicolon_10 : decode cX11_semicolon 10 = .ok (.invokevirtual 239, 3) := by decide +kernel
theorem dX11_semicolon_13 : decode cX11_semicolon 13 = .ok (.bipush 59, 2) := by decide +kernel
theorem dX11_semicolon_15 : decode cX11_semicolon 15 = .ok (.if_icmp .ne 7, 3) := by decide +kernel
theorem dX11_semicolon_18 : decode cX11_semicolon 18 = .ok (.iconst 1, 1) := by decide +kernel
theorem dX11_semicolon_19 : decode cX11_semicolon 19 = .ok (.goto 4, 3) := by decide +kernel
theorem dX11_semicolon_22 : decode cX11_semicolon 22 = .ok (.iconst 0, 1) := by decide +kernel
theorem dX11_semicolon_23 : decode cX11_semicolon 23 = .ok (.iconst 1, 1) := by decide +kernel
theorem dX11_semicolon_24 : decode cX11_semicolon 24 = .ok (.invokevirtual 246, 3) := by decide +kernel
theorem dX11_semicolon_27 : decode cX11_semicolon 27 = .ok (.aload_n 0, 1) := by decide +kernel
theorem dX11_semicolon_28 : decode cX11_semicolon 28 = .ok (.dup, 1) := by decide +kernel
theorem dX11_semicolon_29 : decode cX11_semicolon 29 = .ok (.getfield 217, 3) := by decide +kernel
theorem dX11_semicolon_32 : decode cX11_semicolon 32 = .ok (.iconst 1, 1) := by decide +kernel
theorem dX11_semicolon_33 : decode cX11_semicolon 33 = .ok (.iadd, 1) := by decide +kernel
theorem dX11_semicolon_34 : decode cX11_semicolon 34 = .ok (.putfield 217, 3) := by decide +kernel
theorem dX11_semicolon_37 : decode cX11_semicolon 37 = .ok (.return_, 1) := by decide +kernel
theorem dX11_number_0 : decode cX11_number 0 = .ok (.aload_n 0, 1) := by decide +kernel
theorem dX11_number_1 : decode cX11_number 1 = .ok (.getfield 233, 3) := by decide +kernel
theorem dX11_number_4 : decode cX11_number 4 = .ok (.ifCond .eq 5, 3) := by decide +kernel
theorem dX11_number_7 : decode cX11_number 7 = .ok (.iload_n 1, 1) := by decide +kernel
theorem dX11_number_8 : decode cX11_number 8 = .ok (.ireturn, 1) := by decide +kernel
theorem dX11_number_9 : decode cX11_number 9 = .ok (.aload_n 0, 1) := by decide +kernel
theorem dX11_number_10 : decode cX11_number 10 = .ok (.aload_n 0, 1) := by decide +kernel
theorem dX11_number_11 : decode cX11_number 11 = .ok (.invokevirtual 239, 3) := by decide +kernel
theorem dX11_number_14 : decode cX11_number 14 = .ok (.i2l, 1) := by decide +kernel
theorem dX11_number_15 : decode cX11_number 15 = .ok (.ldc2_w 253, 3) := by decide +kernel
theorem dX11_number_18 : decode cX11_number 18 = .ok (.ldc2_w 255, 3) := by decide +kernel
theorem dX11_number_21 : decode cX11_number 21 = .ok (.invokestatic 75, 3) := by decide +kernel
theorem dX11_number_24 : decode cX11_number 24 = .ok (.iconst 1, 1) := by decide +kernel
theorem dX11_number_25 : decode cX11_number 25 = .ok (.invokevirtual 246, 3) := by decide +kernel
theorem dX11_number_28 : decode cX11_number 28 = .ok (.iconst 0, 1) := by decide +kernel
theorem dX11_number_29 : decode cX11_number 29 = .ok (.istore_n 3, 1) := by decide +kernel
theorem dX11_number_30 : decode cX11_number 30 = .ok (.aload_n 0, 1) := by decide +kernel
theorem dX11_number_31 : decode cX11_number 31 = .ok (.aload_n 0, 1) := by decide +kernel
theorem dX11_number_32 : decode cX11_number 32 = .ok (.getfield 217, 3) := by decide +kernel
theorem dX11_number_35 : decode cX11_number 35 = .ok (.invokevirtual 220, 3) := by decide +kernel
theorem dX11_number_38 : decode cX11_number 38 = .ok (.i2l, 1) := by decide +kernel
theorem dX11_number_39 : decode cX11_number 39 = .ok (.ldc2_w 253, 3) := by decide +kernel
theorem dX11_number_42 : decode cX11_number 42 = .ok (.ldc2_w 255, 3) := by decide +kernel
theorem dX11_number_45 : decode cX11_number 45 = .ok (.invokestatic 75, 3) := by decide +kernel
theorem dX11_number_48 : decode cX11_number 48 = .ok (.ifCond .eq 50, 3) := by decide +kernel
theorem dX11_number_51 : decode cX11_number 51 = .ok (.aload_n 0, 1) := by decide +kernel
theorem dX11_number_52 : decode cX11_number 52 = .ok (.getfield 217, 3) := by decide +kernel
theorem dX11_number_55 : decode cX11_number 55 = .ok (.aload_n 0, 1) := by decide +kernel
theorem dX11_number_56 : decode cX11_number 56 = .ok (.getfield 223, 3) := by decide +kernel
theorem dX11_number_59 : decode cX11_number 59 = .ok (.isub, 1) := by decide +kernel
theorem dX11_number_60 : decode cX11_number 60 = .ok (.iconst 4, 1) := by decide +kernel
theorem dX11_number_61 : decode cX11_number 61 = .ok (.if_icmp .ge 22, 3) := by decide +kernel
theorem dX11_number_64 : decode cX11_number 64 = .ok (.bipush 10, 2) := by decide +kernel
theorem dX11_number_66 : decode cX11_number 66 = .ok (.iload_n 3, 1) := by decide +kernel
theorem dX11_number_67 : decode cX11_number 67 = .ok (.imul, 1) := by decide +kernel
theorem dX11_number_68 : decode cX11_number 68 = .ok (.aload_n 0, 1) := by decide +kernel
theorem dX11_number_69 : decode cX11_number 69 = .ok (.aload_n 0, 1) := by decide +kernel
theorem dX11_number_70 : decode cX11_number 70 = .ok (.getfield 217, 3) := by decide +kernel
theorem dX11_number_73 : decode cX11_number 73 = .ok (.invokevirtual 220, 3) := by decide +kernel
theorem dX11_number_76 : decode cX11_number 76 = .ok (.iadd, 1) := by decide +kernel
theorem dX11_number_77 : decode cX11_number 77 = .ok (.bipush 48, 2) := by decide +kernel
theorem dX11_number_79 : decode cX11_number 79 = .ok (.isub, 1) := by decide +kernel
theorem dX11_number_80 : decode cX11_number 80 = .ok (.goto 4, 3) := by decide +kernel
theorem dX11_number_83 : decode cX11_number 83 = .ok (.iload_n 3, 1) := by decide +kernel
theorem dX11_number_84 : decode cX11_number 84 = .ok (.istore_n 3, 1) := by decide +kernel
theorem dX11_number_85 : decode cX11_number 85 = .ok (.aload_n 0, 1) := by decide +kernel
theorem dX11_number_86 : decode cX11_number 86 = .ok (.dup, 1) := by decide +kernel
theorem dX11_number_87 : decode cX11_number 87 = .ok (.getfield 217, 3) := by decide +kernel
theorem dX11_number_90 : decode cX11_number 90 = .ok (.iconst 1, 1) := by decide +kernel
theorem dX11_number_91 : decode cX11_number 91 = .ok (.iadd, 1) := by decide +kernel
theorem dX11_number_92 : decode cX11_number 92 = .ok (.putfield 217, 3) := by decide +kernel
theorem dX11_number_95 : decode cX11_number 95 = .ok (.goto (-65), 3) := by decide +kernel
theorem dX11_number_98 : decode cX11_number 98 = .ok (.aload_n 0, 1) := by decide +kernel
theorem dX11_number_99 : decode cX11_number 99 = .ok (.aload_n 0, 1) := by decide +kernel
theorem dX11_number_100 : decode cX11_number 100 = .ok (.getfield 217, 3) := by decide +kernel
theorem dX11_number_103 : decode cX11_number 103 = .ok (.aload_n 0, 1) := by decide +kernel
theorem dX11_number_104 : decode cX11_number 104 = .ok (.getfield 223, 3) := by decide +kernel
theorem dX11_number_107 : decode cX11_number 107 = .ok (.isub, 1) := by decide +kernel
theorem dX11_number_108 : decode cX11_number 108 = .ok (.iconst 4, 1) := by decide +kernel
theorem dX11_number_109 : decode cX11_number 109 = .ok (.if_icmp .gt 7, 3) := by decide +kernel
theorem dX11_number_112 : decode cX11_number 112 = .ok (.iconst 1, 1) := by decide +kernel
theorem dX11_number_113 : decode cX11_number 113 = .ok (.goto 4, 3) := by decide +kernel
theorem dX11_number_116 : decode cX11_number 116 = .ok (.iconst 0, 1) := by decide +kernel
theorem dX11_number_117 : decode cX11_number 117 = .ok (.iconst 1, 1) := by decide +kernel
theorem dX11_number_118 : decode cX11_number 118 = .ok (.invokevirtual 246, 3) := by decide +kernel
theorem dX11_number_121 : decode cX11_number 121 = .ok (.aload_n 0, 1) := by decide +kernel
theorem dX11_number_122 : decode cX11_number 122 = .ok (.iload_n 3, 1) := by decide +kernel
theorem dX11_number_123 : decode cX11_number 123 = .ok (.i2l, 1) := by decide +kernel
theorem dX11_number_124 : decode cX11_number 124 = .ok (.iload_n 1, 1) := by decide +kernel
theorem dX11_number_125 : decode cX11_number 125 = .ok (.i2l, 1) := by decide +kernel
theorem dX11_number_126 : decode cX11_number 126 = .ok (.iload_n 2, 1) := by decide +kernel
theorem dX11_number_127 : decode cX11_number 127 = .ok (.i2l, 1) := by decide +kernel
theorem dX11_number_128 : decode cX11_number 128 = .ok (.invokestatic 75, 3) := by decide +kernel
theorem dX11_number_131 : decode cX11_number 131 = .ok (.iconst 2, 1) := by decide +kernel
theorem dX11_number_132 : decode cX11_number 132 = .ok (.invokevirtual 246, 3) := by decide +kernel
theorem dX11_number_135 : decode cX11_number 135 = .ok (.aload_n 0, 1) := by decide +kernel
theorem dX11_number_136 : decode cX11_number 136 = .ok (.getfield 233, 3) := by decide +kernel
theorem dX11_number_139 : decode cX11_number 139 = .ok (.ifCond .ne 7, 3) := by decide +kernel
theorem dX11_number_142 : decode cX11_number 142 = .ok (.iload_n 3, 1) := by decide +kernel
theorem dX11_number_143 : decode cX11_number 143 = .ok (.goto 4, 3) := by decide +kernel
theorem dX11_number_146 : decode cX11_number 146 = .ok (.iload_n 1, 1) := by decide +kernel
theorem dX11_number_147 : decode cX11_number 147 = .ok (.ireturn, 1) := by decide +kernel
theorem dX11_isNumberNext_0 : decode cX11_isNumberNext 0 = .ok (.aload_n 0, 1) := by decide +kernel
theorem dX11_isNumberNext_1 : decode cX11_isNumberNext 1 = .ok (.getfield 233, 3) := by decide +kernel
theorem dX11_isNumberNext_4 : decode cX11_isNumberNext 4 = .ok (.ifCond .ne 24, 3) := by decide +kernel
theorem dX11_isNumberNext_7 : decode cX11_isNumberNext 7 = .ok (.aload_n 0, 1) := by decide +kernel
theorem dX11_isNumberNext_8 : decode cX11_isNumberNext 8 = .ok (.invokevirtual 239, 3) := by decide +kernel
theorem dX11_isNumberNext_11 : decode cX11_isNumberNext 11 = .ok (.i2l, 1) := by decide +kernel
theorem dX11_isNumberNext_12 : decode cX11_isNumberNext 12 = .ok (.ldc2_w 253, 3) := by decide +kernel
theorem dX11_isNumberNext_15 : decode cX11_isNumberNext 15 = .ok (.ldc2_w 255, 3) := by decide +kernel
theorem dX11_isNumberNext_18 : decode cX11_isNumberNext 18 = .ok (.invokestatic 75, 3) := by decide +kernel
theorem dX11_isNumberNext_21 : decode cX11_isNumberNext 21 = .ok (.ifCond .eq 7, 3) := by decide +kernel
theorem dX11_isNumberNext_24 : decode cX11_isNumberNext 24 = .ok (.iconst 1, 1) := by decide +kernel
theorem dX11_isNumberNext_25 : decode cX11_isNumberNext 25 = .ok (.goto 4, 3) := by decide +kernel
theorem dX11_isNumberNext_28 : decode cX11_isNumberNext 28 = .ok (.iconst 0, 1) := by decide +kernel
theorem dX11_isNumberNext_29 : decode cX11_isNumberNext 29 = .ok (.ireturn, 1) := by decide +kernel
theorem dX11_isName_0 : decode cX11_isName 0 = .ok (.aload_n 0, 1) := by decide +kernel
theorem dX11_isName_1 : decode cX11_isName 1 = .ok (.getfield 233, 3) := by decide +kernel
theorem dX11_isName_4 : decode cX11_isName 4 = .ok (.ifCond .eq 5, 3) := by decide +kernel
theorem dX11_isName_7 : decode cX11_isName 7 = .ok (.iconst 0, 1) := by decide +kernel
theorem dX11_isName_8 : decode cX11_isName 8 = .ok (.ireturn, 1) := by decide +kernel
theorem dX11_isName_9 : decode cX11_isName 9 = .ok (.aload_n 0, 1) := by decide +kernel
theorem dX11_isName_10 : decode cX11_isName 10 = .ok (.invokevirtual 239, 3) := by decide +kernel
theorem dX11_isName_13 : decode cX11_isName 13 = .ok (.istore_n 1, 1) := by decide +kernel
theorem dX11_isName_14 : decode cX11_isName 14 = .ok (.aload_n 0, 1) := by decide +kernel
theorem dX11_isName_15 : decode cX11_isName 15 = .ok (.aload_n 0, 1) := by decide +kernel
theorem dX11_isName_16 : decode cX11_isName 16 = .ok (.getfield 226, 3) := by decide +kernel
theorem dX11_isName_19 : decode cX11_isName 19 = .ok (.i2l, 1) := by decide +kernel
theorem dX11_isName_20 : decode cX11_isName 20 = .ok (.lconst 1, 1) := by decide +kernel
theorem dX11_isName_21 : decode cX11_isName 21 = .ok (.ldc2_w 257, 3) := by decide +kernel
theorem dX11_isName_24 : decode cX11_isName 24 = .ok (.invokestatic 75, 3) := by decide +kernel
theorem dX11_isName_27 : decode cX11_isName 27 = .ok (.iconst 1, 1) := by decide +kernel
theorem dX11_isName_28 : decode cX11_isName 28 = .ok (.invokevirtual 246, 3) := by decide +kernel
theorem dX11_isName_31 : decode cX11_isName 31 = .ok (.aload_n 0, 1) := by decide +kernel
theorem dX11_isName_32 : decode cX11_isName 32 = .ok (.getfield 233, 3) := by decide +kernel
theorem dX11_isName_35 : decode cX11_isName 35 = .ok (.ifCond .ne 7, 3) := by decide +kernel
theorem dX11_isName_38 : decode cX11_isName 38 = .ok (.iconst 1, 1) := by decide +kernel
theorem dX11_isName_39 : decode cX11_isName 39 = .ok (.goto 4, 3) := by decide +kernel
theorem dX11_isName_42 : decode cX11_isName 42 = .ok (.iconst 0, 1) := by decide +kernel
theorem dX11_isName_43 : decode cX11_isName 43 = .ok (.ireturn, 1) := by decide +kernel
theorem dX11_isNamed_0 : decode cX11_isNamed 0 = .ok (.aload_n 0, 1) := by decide +kernel
theorem dX11_isNamed_1 : decode cX11_isNamed 1 = .ok (.getfield 7, 3) := by decide +kernel
theorem dX11_isNamed_4 : decode cX11_isNamed 4 = .ok (.iload_n 1, 1) := by decide +kernel
theorem dX11_isNamed_5 : decode cX11_isNamed 5 = .ok (.iaload, 1) := by decide +kernel
theorem dX11_isNamed_6 : decode cX11_isNamed 6 = .ok (.aload_n 0, 1) := by decide +kernel
theorem dX11_isNamed_7 : decode cX11_isNamed 7 = .ok (.getfield 226, 3) := by decide +kernel
theorem dX11_isNamed_10 : decode cX11_isNamed 10 = .ok (.if_icmp .eq 5, 3) := by decide +kernel
theorem dX11_isNamed_13 : decode cX11_isNamed 13 = .ok (.iconst 0, 1) := by decide +kernel
theorem dX11_isNamed_14 : decode cX11_isNamed 14 = .ok (.ireturn, 1) := by decide +kernel
theorem dX11_isNamed_15 : decode cX11_isNamed 15 = .ok (.iconst 0, 1) := by decide +kernel
theorem dX11_isNamed_16 : decode cX11_isNamed 16 = .ok (.istore_n 2, 1) := by decide +kernel
theorem dX11_isNamed_17 : decode cX11_isNamed 17 = .ok (.iload_n 2, 1) := by decide +kernel
theorem dX11_isNamed_18 : decode cX11_isNamed 18 = .ok (.aload_n 0, 1) := by decide +kernel
theorem dX11_isNamed_19 : decode cX11_isNamed 19 = .ok (.getfield 226, 3) := by decide +kernel
theorem dX11_isNamed_22 : decode cX11_isNamed 22 = .ok (.if_icmp .ge 34, 3) := by decide +kernel
theorem dX11_isNamed_25 : decode cX11_isNamed 25 = .ok (.aload_n 0, 1) := by decide +kernel
theorem dX11_isNamed_26 : decode cX11_isNamed 26 = .ok (.getfield 7, 3) := by decide +kernel
theorem dX11_isNamed_29 : decode cX11_isNamed 29 = .ok (.iload_n 1, 1) := by decide +kernel
theorem dX11_isNamed_30 : decode cX11_isNamed 30 = .ok (.iconst 1, 1) := by decide +kernel
theorem dX11_isNamed_31 : decode cX11_isNamed 31 = .ok (.iadd, 1) := by decide +kernel
theorem dX11_isNamed_32 : decode cX11_isNamed 32 = .ok (.iload_n 2, 1) := by decide +kernel
theorem dX11_isNamed_33 : decode cX11_isNamed 33 = .ok (.iadd, 1) := by decide +kernel
theorem dX11_isNamed_34 : decode cX11_isNamed 34 = .ok (.iaload, 1) := by decide +kernel
theorem dX11_isNamed_35 : decode cX11_isNamed 35 = .ok (.aload_n 0, 1) := by decide +kernel
theorem dX11_isNamed_36 : decode cX11_isNamed 36 = .ok (.aload_n 0, 1) := by decide +kernel
theorem dX11_isNamed_37 : decode cX11_isNamed 37 = .ok (.getfield 223, 3) := by decide +kernel
theorem dX11_isNamed_40 : decode cX11_isNamed 40 = .ok (.iload_n 2, 1) := by decide +kernel
theorem dX11_isNamed_41 : decode cX11_isNamed 41 = .ok (.iadd, 1) := by decide +kernel
theorem dX11_isNamed_42 : decode cX11_isNamed 42 = .ok (.invokevirtual 220, 3) := by decide +kernel
theorem dX11_isNamed_45 : decode cX11_isNamed 45 = .ok (.if_icmp .eq 5, 3) := by decide +kernel
theorem dX11_isNamed_48 : decode cX11_isNamed 48 = .ok (.iconst 0, 1) := by decide +kernel
theorem dX11_isNamed_49 : decode cX11_isNamed 49 = .ok (.ireturn, 1) := by decide +kernel
theorem dX11_isNamed_50 : decode cX11_isNamed 50 = .ok (.iinc 2 1, 3) := by decide +kernel
theorem dX11_isNamed_53 : decode cX11_isNamed 53 = .ok (.goto (-36), 3) := by decide +kernel
theorem dX11_isNamed_56 : decode cX11_isNamed 56 = .ok (.iconst 1, 1) := by decide +kernel
theorem dX11_isNamed_57 : decode cX11_isNamed 57 = .ok (.ireturn, 1) := by decide +kernel
theorem dX11_placeOf_0 : decode cX11_placeOf 0 = .ok (.iload_n 1, 1) := by decide +kernel
theorem dX11_placeOf_1 : decode cX11_placeOf 1 = .ok (.ifCond .eq 14, 3) := by decide +kernel
theorem dX11_placeOf_4 : decode cX11_placeOf 4 = .ok (.sipush 203, 3) := by decide +kernel
theorem dX11_placeOf_7 : decode cX11_placeOf 7 = .ok (.bipush 17, 2) := by decide +kernel
theorem dX11_placeOf_9 : decode cX11_placeOf 9 = .ok (.iload_n 0, 1) := by decide +kernel
theorem dX11_placeOf_10 : decode cX11_placeOf 10 = .ok (.imul, 1) := by decide +kernel
theorem dX11_placeOf_11 : decode cX11_placeOf 11 = .ok (.iadd, 1) := by decide +kernel
theorem dX11_placeOf_12 : decode cX11_placeOf 12 = .ok (.goto 10, 3) := by decide +kernel
theorem dX11_placeOf_15 : decode cX11_placeOf 15 = .ok (.bipush 23, 2) := by decide +kernel
theorem dX11_placeOf_17 : decode cX11_placeOf 17 = .ok (.bipush 15, 2) := by decide +kernel
theorem dX11_placeOf_19 : decode cX11_placeOf 19 = .ok (.iload_n 0, 1) := by decide +kernel
theorem dX11_placeOf_20 : decode cX11_placeOf 20 = .ok (.imul, 1) := by decide +kernel
theorem dX11_placeOf_21 : decode cX11_placeOf 21 = .ok (.iadd, 1) := by decide +kernel
theorem dX11_placeOf_22 : decode cX11_placeOf 22 = .ok (.ireturn, 1) := by decide +kernel
theorem dX11_thingHere_0 : decode cX11_thingHere 0 = .ok (.iconst 0, 1) := by decide +kernel
theorem dX11_thingHere_1 : decode cX11_thingHere 1 = .ok (.istore_n 2, 1) := by decide +kernel
theorem dX11_thingHere_2 : decode cX11_thingHere 2 = .ok (.iload_n 2, 1) := by decide +kernel
theorem dX11_thingHere_3 : decode cX11_thingHere 3 = .ok (.iload_n 1, 1) := by decide +kernel
theorem dX11_thingHere_4 : decode cX11_thingHere 4 = .ok (.ifCond .eq 12, 3) := by decide +kernel
theorem dX11_thingHere_7 : decode cX11_thingHere 7 = .ok (.aload_n 0, 1) := by decide +kernel
theorem dX11_thingHere_8 : decode cX11_thingHere 8 = .ok (.getfield 7, 3) := by decide +kernel
theorem dX11_thingHere_11 : decode cX11_thingHere 11 = .ok (.iconst 1, 1) := by decide +kernel
theorem dX11_thingHere_12 : decode cX11_thingHere 12 = .ok (.iaload, 1) := by decide +kernel
theorem dX11_thingHere_13 : decode cX11_thingHere 13 = .ok (.goto 9, 3) := by decide +kernel
theorem dX11_thingHere_16 : decode cX11_thingHere 16 = .ok (.aload_n 0, 1) := by decide +kernel
theorem dX11_thingHere_17 : decode cX11_thingHere 17 = .ok (.getfield 7, 3) := by decide +kernel
theorem dX11_thingHere_20 : decode cX11_thingHere 20 = .ok (.iconst 0, 1) := by decide +kernel
theorem dX11_thingHere_21 : decode cX11_thingHere 21 = .ok (.iaload, 1) := by decide +kernel
theorem dX11_thingHere_22 : decode cX11_thingHere 22 = .ok (.if_icmp .ge 23, 3) := by decide +kernel
theorem dX11_thingHere_25 : decode cX11_thingHere 25 = .ok (.aload_n 0, 1) := by decide +kernel
theorem dX11_thingHere_26 : decode cX11_thingHere 26 = .ok (.iload_n 2, 1) := by decide +kernel
theorem dX11_thingHere_27 : decode cX11_thingHere 27 = .ok (.iload_n 1, 1) := by decide +kernel
theorem dX11_thingHere_28 : decode cX11_thingHere 28 = .ok (.invokestatic 259, 3) := by decide +kernel
theorem dX11_thingHere_31 : decode cX11_thingHere 31 = .ok (.invokevirtual 263, 3) := by decide +kernel
theorem dX11_thingHere_34 : decode cX11_thingHere 34 = .ok (.ifCond .eq 5, 3) := by decide +kernel
theorem dX11_thingHere_37 : decode cX11_thingHere 37 = .ok (.iload_n 2, 1) := by decide +kernel
theorem dX11_thingHere_38 : decode cX11_thingHere 38 = .ok (.ireturn, 1) := by decide +kernel
theorem dX11_thingHere_39 : decode cX11_thingHere 39 = .ok (.iinc 2 1, 3) := by decide +kernel
theorem dX11_thingHere_42 : decode cX11_thingHere 42 = .ok (.goto (-40), 3) := by decide +kernel
theorem dX11_thingHere_45 : decode cX11_thingHere 45 = .ok (.iconst (-1), 1) := by decide +kernel
theorem dX11_thingHere_46 : decode cX11_thingHere 46 = .ok (.ireturn, 1) := by decide +kernel
theorem dX11_mustBe_0 : decode cX11_mustBe 0 = .ok (.aload_n 0, 1) := by decide +kernel
theorem dX11_mustBe_1 : decode cX11_mustBe 1 = .ok (.invokevirtual 266, 3) := by decide +kernel
theorem dX11_mustBe_4 : decode cX11_mustBe 4 = .ok (.ifCond .ne 5, 3) := by decide +kernel
theorem dX11_mustBe_7 : decode cX11_mustBe 7 = .ok (.iconst 0, 1) := by decide +kernel
theorem dX11_mustBe_8 : decode cX11_mustBe 8 = .ok (.ireturn, 1) := by decide +kernel
theorem dX11_mustBe_9 : decode cX11_mustBe 9 = .ok (.aload_n 0, 1) := by decide +kernel
theorem dX11_mustBe_10 : decode cX11_mustBe 10 = .ok (.iload_n 1, 1) := by decide +kernel
theorem dX11_mustBe_11 : decode cX11_mustBe 11 = .ok (.invokevirtual 270, 3) := by decide +kernel
theorem dX11_mustBe_14 : decode cX11_mustBe 14 = .ok (.istore_n 2, 1) := by decide +kernel
theorem dX11_mustBe_15 : decode cX11_mustBe 15 = .ok (.aload_n 0, 1) := by decide +kernel
theorem dX11_mustBe_16 : decode cX11_mustBe 16 = .ok (.iload_n 2, 1) := by decide +kernel
theorem dX11_mustBe_17 : decode cX11_mustBe 17 = .ok (.iconst (-1), 1) := by decide +kernel
theorem dX11_mustBe_18 : decode cX11_mustBe 18 = .ok (.if_icmp .eq 7, 3) := by decide +kernel
theorem dX11_mustBe_21 : decode cX11_mustBe 21 = .ok (.iconst 1, 1) := by decide +kernel
theorem dX11_mustBe_22 : decode cX11_mustBe 22 = .ok (.goto 4, 3) := by decide +kernel
theorem dX11_mustBe_25 : decode cX11_mustBe 25 = .ok (.iconst 0, 1) := by decide +kernel
theorem dX11_mustBe_26 : decode cX11_mustBe 26 = .ok (.iconst 3, 1) := by decide +kernel
theorem dX11_mustBe_27 : decode cX11_mustBe 27 = .ok (.invokevirtual 246, 3) := by decide +kernel
theorem dX11_mustBe_30 : decode cX11_mustBe 30 = .ok (.aload_n 0, 1) := by decide +kernel
theorem dX11_mustBe_31 : decode cX11_mustBe 31 = .ok (.invokevirtual 250, 3) := by decide +kernel
theorem dX11_mustBe_34 : decode cX11_mustBe 34 = .ok (.aload_n 0, 1) := by decide +kernel
theorem dX11_mustBe_35 : decode cX11_mustBe 35 = .ok (.getfield 233, 3) := by decide +kernel
theorem dX11_mustBe_38 : decode cX11_mustBe 38 = .ok (.ifCond .ne 7, 3) := by decide +kernel
theorem dX11_mustBe_41 : decode cX11_mustBe 41 = .ok (.iload_n 2, 1) := by decide +kernel
theorem dX11_mustBe_42 : decode cX11_mustBe 42 = .ok (.goto 4, 3) := by decide +kernel
theorem dX11_mustBe_45 : decode cX11_mustBe 45 = .ok (.iconst 0, 1) := by decide +kernel
theorem dX11_mustBe_46 : decode cX11_mustBe 46 = .ok (.ireturn, 1) := by decide +kernel
theorem dX11_newName_0 : decode cX11_newName 0 = .ok (.aload_n 0, 1) := by decide +kernel
theorem dX11_newName_1 : decode cX11_newName 1 = .ok (.invokevirtual 266, 3) := by decide +kernel
theorem dX11_newName_4 : decode cX11_newName 4 = .ok (.ifCond .ne 4, 3) := by decide +kernel
theorem dX11_newName_7 : decode cX11_newName 7 = .ok (.return_, 1) := by decide +kernel
theorem dX11_newName_8 : decode cX11_newName 8 = .ok (.aload_n 0, 1) := by decide +kernel
theorem dX11_newName_9 : decode cX11_newName 9 = .ok (.aload_n 0, 1) := by decide +kernel
theorem dX11_newName_10 : decode cX11_newName 10 = .ok (.iload_n 2, 1) := by decide +kernel
theorem dX11_newName_11 : decode cX11_newName 11 = .ok (.invokevirtual 270, 3) := by decide +kernel
theorem dX11_newName_14 : decode cX11_newName 14 = .ok (.iconst (-1), 1) := by decide +kernel
theorem dX11_newName_15 : decode cX11_newName 15 = .ok (.if_icmp .ne 7, 3) := by decide +kernel
theorem dX11_newName_18 : decode cX11_newName 18 = .ok (.iconst 1, 1) := by decide +kernel
theorem dX11_newName_19 : decode cX11_newName 19 = .ok (.goto 4, 3) := by decide +kernel
theorem dX11_newName_22 : decode cX11_newName 22 = .ok (.iconst 0, 1) := by decide +kernel
theorem dX11_newName_23 : decode cX11_newName 23 = .ok (.iconst 3, 1) := by decide +kernel
theorem dX11_newName_24 : decode cX11_newName 24 = .ok (.invokevirtual 246, 3) := by decide +kernel
theorem dX11_newName_27 : decode cX11_newName 27 = .ok (.aload_n 0, 1) := by decide +kernel
theorem dX11_newName_28 : decode cX11_newName 28 = .ok (.getfield 233, 3) := by decide +kernel
theorem dX11_newName_31 : decode cX11_newName 31 = .ok (.ifCond .eq 4, 3) := by decide +kernel
theorem dX11_newName_34 : decode cX11_newName 34 = .ok (.return_, 1) := by decide +kernel
theorem dX11_newName_35 : decode cX11_newName 35 = .ok (.aload_n 0, 1) := by decide +kernel
theorem dX11_newName_36 : decode cX11_newName 36 = .ok (.getfield 7, 3) := by decide +kernel
theorem dX11_newName_39 : decode cX11_newName 39 = .ok (.iload_n 1, 1) := by decide +kernel
theorem dX11_newName_40 : decode cX11_newName 40 = .ok (.aload_n 0, 1) := by decide +kernel
theorem dX11_newName_41 : decode cX11_newName 41 = .ok (.getfield 226, 3) := by decide +kernel
theorem dX11_newName_44 : decode cX11_newName 44 = .ok (.iastore, 1) := by decide +kernel
theorem dX11_newName_45 : decode cX11_newName 45 = .ok (.iconst 0, 1) := by decide +kernel
theorem dX11_newName_46 : decode cX11_newName 46 = .ok (.istore_n 3, 1) := by decide +kernel
theorem dX11_newName_47 : decode cX11_newName 47 = .ok (.iload_n 3, 1) := by decide +kernel
theorem dX11_newName_48 : decode cX11_newName 48 = .ok (.aload_n 0, 1) := by decide +kernel
theorem dX11_newName_49 : decode cX11_newName 49 = .ok (.getfield 226, 3) := by decide +kernel
theorem dX11_newName_52 : decode cX11_newName 52 = .ok (.if_icmp .ge 29, 3) := by decide +kernel
theorem dX11_newName_55 : decode cX11_newName 55 = .ok (.aload_n 0, 1) := by decide +kernel
theorem dX11_newName_56 : decode cX11_newName 56 = .ok (.getfield 7, 3) := by decide +kernel
theorem dX11_newName_59 : decode cX11_newName 59 = .ok (.iload_n 1, 1) := by decide +kernel
theorem dX11_newName_60 : decode cX11_newName 60 = .ok (.iconst 1, 1) := by decide +kernel
theorem dX11_newName_61 : decode cX11_newName 61 = .ok (.iadd, 1) := by decide +kernel
theorem dX11_newName_62 : decode cX11_newName 62 = .ok (.iload_n 3, 1) := by decide +kernel
theorem dX11_newName_63 : decode cX11_newName 63 = .ok (.iadd, 1) := by decide +kernel
theorem dX11_newName_64 : decode cX11_newName 64 = .ok (.aload_n 0, 1) := by decide +kernel
theorem dX11_newName_65 : decode cX11_newName 65 = .ok (.aload_n 0, 1) := by decide +kernel
theorem dX11_newName_66 : decode cX11_newName 66 = .ok (.getfield 223, 3) := by decide +kernel
theorem dX11_newName_69 : decode cX11_newName 69 = .ok (.iload_n 3, 1) := by decide +kernel
theorem dX11_newName_70 : decode cX11_newName 70 = .ok (.iadd, 1) := by decide +kernel
theorem dX11_newName_71 : decode cX11_newName 71 = .ok (.invokevirtual 220, 3) := by decide +kernel
theorem dX11_newName_74 : decode cX11_newName 74 = .ok (.iastore, 1) := by decide +kernel
theorem dX11_newName_75 : decode cX11_newName 75 = .ok (.iinc 3 1, 3) := by decide +kernel
theorem dX11_newName_78 : decode cX11_newName 78 = .ok (.goto (-31), 3) := by decide +kernel
theorem dX11_newName_81 : decode cX11_newName 81 = .ok (.aload_n 0, 1) := by decide +kernel
theorem dX11_newName_82 : decode cX11_newName 82 = .ok (.invokevirtual 250, 3) := by decide +kernel
theorem dX11_newName_85 : decode cX11_newName 85 = .ok (.return_, 1) := by decide +kernel
theorem dX11_startsText_0 : decode cX11_startsText 0 = .ok (.aload_n 0, 1) := by decide +kernel
theorem dX11_startsText_1 : decode cX11_startsText 1 = .ok (.iconst 0, 1) := by decide +kernel
theorem dX11_startsText_2 : decode cX11_startsText 2 = .ok (.putfield 217, 3) := by decide +kernel
theorem dX11_startsText_5 : decode cX11_startsText 5 = .ok (.aload_n 0, 1) := by decide +kernel
theorem dX11_startsText_6 : decode cX11_startsText 6 = .ok (.iconst 0, 1) := by decide +kernel
theorem dX11_startsText_7 : decode cX11_startsText 7 = .ok (.putfield 223, 3) := by decide +kernel
theorem dX11_startsText_10 : decode cX11_startsText 10 = .ok (.aload_n 0, 1) := by decide +kernel
theorem dX11_startsText_11 : decode cX11_startsText 11 = .ok (.iconst 0, 1) := by decide +kernel
theorem dX11_startsText_12 : decode cX11_startsText 12 = .ok (.putfield 233, 3) := by decide +kernel
theorem dX11_startsText_15 : decode cX11_startsText 15 = .ok (.aload_n 0, 1) := by decide +kernel
theorem dX11_startsText_16 : decode cX11_startsText 16 = .ok (.iconst (-1), 1) := by decide +kernel
theorem dX11_startsText_17 : decode cX11_startsText 17 = .ok (.putfield 236, 3) := by decide +kernel
theorem dX11_startsText_20 : decode cX11_startsText 20 = .ok (.return_, 1) := by decide +kernel
theorem dX11_endsText_0 : decode cX11_endsText 0 = .ok (.aload_n 0, 1) := by decide +kernel
theorem dX11_endsText_1 : decode cX11_endsText 1 = .ok (.iconst 0, 1) := by decide +kernel
theorem dX11_endsText_2 : decode cX11_endsText 2 = .ok (.putfield 63, 3) := by decide +kernel
theorem dX11_endsText_5 : decode cX11_endsText 5 = .ok (.aload_n 0, 1) := by decide +kernel
theorem dX11_endsText_6 : decode cX11_endsText 6 = .ok (.aload_n 0, 1) := by decide +kernel
theorem dX11_endsText_7 : decode cX11_endsText 7 = .ok (.getfield 233, 3) := by decide +kernel
theorem dX11_endsText_10 : decode cX11_endsText 10 = .ok (.putfield 274, 3) := by decide +kernel
theorem dX11_endsText_13 : decode cX11_endsText 13 = .ok (.aload_n 0, 1) := by decide +kernel
theorem dX11_endsText_14 : decode cX11_endsText 14 = .ok (.aload_n 0, 1) := by decide +kernel
theorem dX11_endsText_15 : decode cX11_endsText 15 = .ok (.getfield 236, 3) := by decide +kernel
theorem dX11_endsText_18 : decode cX11_endsText 18 = .ok (.putfield 41, 3) := by decide +kernel
theorem dX11_endsText_21 : decode cX11_endsText 21 = .ok (.aload_n 0, 1) := by decide +kernel
theorem dX11_endsText_22 : decode cX11_endsText 22 = .ok (.getfield 233, 3) := by decide +kernel
theorem dX11_endsText_25 : decode cX11_endsText 25 = .ok (.ifCond .ne 7, 3) := by decide +kernel
theorem dX11_endsText_28 : decode cX11_endsText 28 = .ok (.iconst 1, 1) := by decide +kernel
theorem dX11_endsText_29 : decode cX11_endsText 29 = .ok (.goto 4, 3) := by decide +kernel
theorem dX11_endsText_32 : decode cX11_endsText 32 = .ok (.iconst 0, 1) := by decide +kernel
theorem dX11_endsText_33 : decode cX11_endsText 33 = .ok (.ireturn, 1) := by decide +kernel
theorem dX11_errorCode_0 : decode cX11_errorCode 0 = .ok (.aload_n 0, 1) := by decide +kernel
theorem dX11_errorCode_1 : decode cX11_errorCode 1 = .ok (.iconst 0, 1) := by decide +kernel
theorem dX11_errorCode_2 : decode cX11_errorCode 2 = .ok (.putfield 68, 3) := by decide +kernel
theorem dX11_errorCode_5 : decode cX11_errorCode 5 = .ok (.aload_n 0, 1) := by decide +kernel
theorem dX11_errorCode_6 : decode cX11_errorCode 6 = .ok (.getfield 274, 3) := by decide +kernel
theorem dX11_errorCode_9 : decode cX11_errorCode 9 = .ok (.ireturn, 1) := by decide +kernel
theorem dX11_errorPosition_0 : decode cX11_errorPosition 0 = .ok (.aload_n 0, 1) := by decide +kernel
theorem dX11_errorPosition_1 : decode cX11_errorPosition 1 = .ok (.iconst 0, 1) := by decide +kernel
theorem dX11_errorPosition_2 : decode cX11_errorPosition 2 = .ok (.putfield 68, 3) := by decide +kernel
theorem dX11_errorPosition_5 : decode cX11_errorPosition 5 = .ok (.aload_n 0, 1) := by decide +kernel
theorem dX11_errorPosition_6 : decode cX11_errorPosition 6 = .ok (.getfield 41, 3) := by decide +kernel
theorem dX11_errorPosition_9 : decode cX11_errorPosition 9 = .ok (.ireturn, 1) := by decide +kernel
theorem dX11_fogLine_0 : decode cX11_fogLine 0 = .ok (.aload_n 0, 1) := by decide +kernel
theorem dX11_fogLine_1 : decode cX11_fogLine 1 = .ok (.ldc_w 277, 3) := by decide +kernel
theorem dX11_fogLine_4 : decode cX11_fogLine 4 = .ok (.invokevirtual 279, 3) := by decide +kernel
theorem dX11_fogLine_7 : decode cX11_fogLine 7 = .ok (.aload_n 0, 1) := by decide +kernel
theorem dX11_fogLine_8 : decode cX11_fogLine 8 = .ok (.iconst 0, 1) := by decide +kernel
theorem dX11_fogLine_9 : decode cX11_fogLine 9 = .ok (.bipush 9, 2) := by decide +kernel
theorem dX11_fogLine_11 : decode cX11_fogLine 11 = .ok (.invokevirtual 283, 3) := by decide +kernel
theorem dX11_fogLine_14 : decode cX11_fogLine 14 = .ok (.istore_n 1, 1) := by decide +kernel
theorem dX11_fogLine_15 : decode cX11_fogLine 15 = .ok (.aload_n 0, 1) := by decide +kernel
theorem dX11_fogLine_16 : decode cX11_fogLine 16 = .ok (.aload_n 0, 1) := by decide +kernel
theorem dX11_fogLine_17 : decode cX11_fogLine 17 = .ok (.getfield 7, 3) := by decide +kernel
theorem dX11_fogLine_20 : decode cX11_fogLine 20 = .ok (.iconst 4, 1) := by decide +kernel
theorem dX11_fogLine_21 : decode cX11_fogLine 21 = .ok (.iaload, 1) := by decide +kernel
theorem dX11_fogLine_22 : decode cX11_fogLine 22 = .ok (.bipush 12, 2) := by decide +kernel
theorem dX11_fogLine_24 : decode cX11_fogLine 24 = .ok (.if_icmp .ge 7, 3) := by decide +kernel
theorem dX11_fogLine_27 : decode cX11_fogLine 27 = .ok (.iconst 1, 1) := by decide +kernel
theorem dX11_fogLine_28 : decode cX11_fogLine 28 = .ok (.goto 4, 3) := by decide +kernel
theorem dX11_fogLine_31 : decode cX11_fogLine 31 = .ok (.iconst 0, 1) := by decide +kernel
theorem dX11_fogLine_32 : decode cX11_fogLine 32 = .ok (.iconst 4, 1) := by decide +kernel
theorem dX11_fogLine_33 : decode cX11_fogLine 33 = .ok (.invokevirtual 246, 3) := by decide +kernel
theorem dX11_fogLine_36 : decode cX11_fogLine 36 = .ok (.aload_n 0, 1) := by decide +kernel
theorem dX11_fogLine_37 : decode cX11_fogLine 37 = .ok (.getfield 233, 3) := by decide +kernel
theorem dX11_fogLine_40 : decode cX11_fogLine 40 = .ok (.ifCond .eq 4, 3) := by decide +kernel
theorem dX11_fogLine_43 : decode cX11_fogLine 43 = .ok (.return_, 1) := by decide +kernel
theorem dX11_fogLine_44 : decode cX11_fogLine 44 = .ok (.aload_n 0, 1) := by decide +kernel
theorem dX11_fogLine_45 : decode cX11_fogLine 45 = .ok (.getfield 7, 3) := by decide +kernel
theorem dX11_fogLine_48 : decode cX11_fogLine 48 = .ok (.bipush 11, 2) := by decide +kernel
theorem dX11_fogLine_50 : decode cX11_fogLine 50 = .ok (.aload_n 0, 1) := by decide +kernel
theorem dX11_fogLine_51 : decode cX11_fogLine 51 = .ok (.getfield 7, 3) := by decide +kernel
theorem dX11_fogLine_54 : decode cX11_fogLine 54 = .ok (.iconst 4, 1) := by decide +kernel
theorem dX11_fogLine_55 : decode cX11_fogLine 55 = .ok (.iaload, 1) := by decide +kernel
theorem dX11_fogLine_56 : decode cX11_fogLine 56 = .ok (.iadd, 1) := by decide +kernel
theorem dX11_fogLine_57 : decode cX11_fogLine 57 = .ok (.iload_n 1, 1) := by decide +kernel
theorem dX11_fogLine_58 : decode cX11_fogLine 58 = .ok (.iastore, 1) := by decide +kernel
theorem dX11_fogLine_59 : decode cX11_fogLine 59 = .ok (.aload_n 0, 1) := by decide +kernel
theorem dX11_fogLine_60 : decode cX11_fogLine 60 = .ok (.getfield 7, 3) := by decide +kernel
theorem dX11_fogLine_63 : decode cX11_fogLine 63 = .ok (.iconst 4, 1) := by decide +kernel
theorem dX11_fogLine_64 : decode cX11_fogLine 64 = .ok (.dup2, 1) := by decide +kernel
theorem dX11_fogLine_65 : decode cX11_fogLine 65 = .ok (.iaload, 1) := by decide +kernel
theorem dX11_fogLine_66 : decode cX11_fogLine 66 = .ok (.iconst 1, 1) := by decide +kernel
theorem dX11_fogLine_67 : decode cX11_fogLine 67 = .ok (.iadd, 1) := by decide +kernel
theorem dX11_fogLine_68 : decode cX11_fogLine 68 = .ok (.iastore, 1) := by decide +kernel
theorem dX11_fogLine_69 : decode cX11_fogLine 69 = .ok (.aload_n 0, 1) := by decide +kernel
theorem dX11_fogLine_70 : decode cX11_fogLine 70 = .ok (.invokevirtual 286, 3) := by decide +kernel
theorem dX11_fogLine_73 : decode cX11_fogLine 73 = .ok (.ifCond .ne (-66), 3) := by decide +kernel
theorem dX11_fogLine_76 : decode cX11_fogLine 76 = .ok (.aload_n 0, 1) := by decide +kernel
theorem dX11_fogLine_77 : decode cX11_fogLine 77 = .ok (.invokevirtual 289, 3) := by decide +kernel
theorem dX11_fogLine_80 : decode cX11_fogLine 80 = .ok (.return_, 1) := by decide +kernel
theorem dX11_echoLine_0 : decode cX11_echoLine 0 = .ok (.aload_n 0, 1) := by decide +kernel
theorem dX11_echoLine_1 : decode cX11_echoLine 1 = .ok (.aload_n 0, 1) := by decide +kernel
theorem dX11_echoLine_2 : decode cX11_echoLine 2 = .ok (.getfield 7, 3) := by decide +kernel
theorem dX11_echoLine_5 : decode cX11_echoLine 5 = .ok (.iconst 0, 1) := by decide +kernel
theorem dX11_echoLine_6 : decode cX11_echoLine 6 = .ok (.iaload, 1) := by decide +kernel
theorem dX11_echoLine_7 : decode cX11_echoLine 7 = .ok (.bipush 12, 2) := by decide +kernel
theorem dX11_echoLine_9 : decode cX11_echoLine 9 = .ok (.if_icmp .ge 7, 3) := by decide +kernel
theorem dX11_echoLine_12 : decode cX11_echoLine 12 = .ok (.iconst 1, 1) := by decide +kernel
theorem dX11_echoLine_13 : decode cX11_echoLine 13 = .ok (.goto 4, 3) := by decide +kernel
theorem dX11_echoLine_16 : decode cX11_echoLine 16 = .ok (.iconst 0, 1) := by decide +kernel
theorem dX11_echoLine_17 : decode cX11_echoLine 17 = .ok (.iconst 4, 1) := by decide +kernel
theorem dX11_echoLine_18 : decode cX11_echoLine 18 = .ok (.invokevirtual 246, 3) := by decide +kernel
theorem dX11_echoLine_21 : decode cX11_echoLine 21 = .ok (.aload_n 0, 1) := by decide +kernel
theorem dX11_echoLine_22 : decode cX11_echoLine 22 = .ok (.getfield 233, 3) := by decide +kernel
theorem dX11_echoLine_25 : decode cX11_echoLine 25 = .ok (.ifCond .eq 4, 3) := by decide +kernel
theorem dX11_echoLine_28 : decode cX11_echoLine 28 = .ok (.return_, 1) := by decide +kernel
theorem dX11_echoLine_29 : decode cX11_echoLine 29 = .ok (.aload_n 0, 1) := by decide +kernel
theorem dX11_echoLine_30 : decode cX11_echoLine 30 = .ok (.invokevirtual 250, 3) := by decide +kernel
theorem dX11_echoLine_33 : decode cX11_echoLine 33 = .ok (.aload_n 0, 1) := by decide +kernel
theorem dX11_echoLine_34 : decode cX11_echoLine 34 = .ok (.getfield 7, 3) := by decide +kernel
theorem dX11_echoLine_37 : decode cX11_echoLine 37 = .ok (.iconst 0, 1) := by decide +kernel
theorem dX11_echoLine_38 : decode cX11_echoLine 38 = .ok (.iaload, 1) := by decide +kernel
theorem dX11_echoLine_39 : decode cX11_echoLine 39 = .ok (.istore_n 1, 1) := by decide +kernel
theorem dX11_echoLine_40 : decode cX11_echoLine 40 = .ok (.aload_n 0, 1) := by decide +kernel
theorem dX11_echoLine_41 : decode cX11_echoLine 41 = .ok (.iload_n 1, 1) := by decide +kernel
theorem dX11_echoLine_42 : decode cX11_echoLine 42 = .ok (.iconst 0, 1) := by decide +kernel
theorem dX11_echoLine_43 : decode cX11_echoLine 43 = .ok (.invokestatic 259, 3) := by decide +kernel
theorem dX11_echoLine_46 : decode cX11_echoLine 46 = .ok (.iconst 0, 1) := by decide +kernel
theorem dX11_echoLine_47 : decode cX11_echoLine 47 = .ok (.invokevirtual 292, 3) := by decide +kernel
theorem dX11_echoLine_50 : decode cX11_echoLine 50 = .ok (.aload_n 0, 1) := by decide +kernel
theorem dX11_echoLine_51 : decode cX11_echoLine 51 = .ok (.iconst 1, 1) := by decide +kernel
theorem dX11_echoLine_52 : decode cX11_echoLine 52 = .ok (.bipush 9, 2) := by decide +kernel
theorem dX11_echoLine_54 : decode cX11_echoLine 54 = .ok (.invokevirtual 283, 3) := by decide +kernel
theorem dX11_echoLine_57 : decode cX11_echoLine 57 = .ok (.istore_n 2, 1) := by decide +kernel
theorem dX11_echoLine_58 : decode cX11_echoLine 58 = .ok (.aload_n 0, 1) := by decide +kernel
theorem dX11_echoLine_59 : decode cX11_echoLine 59 = .ok (.iconst 1, 1) := by decide +kernel
theorem dX11_echoLine_60 : decode cX11_echoLine 60 = .ok (.bipush 9, 2) := by decide +kernel
theorem dX11_echoLine_62 : decode cX11_echoLine 62 = .ok (.invokevirtual 283, 3) := by decide +kernel
theorem dX11_echoLine_65 : decode cX11_echoLine 65 = .ok (.istore_n 3, 1) := by decide +kernel
theorem dX11_echoLine_66 : decode cX11_echoLine 66 = .ok (.aload_n 0, 1) := by decide +kernel
theorem dX11_echoLine_67 : decode cX11_echoLine 67 = .ok (.iconst 1, 1) := by decide +kernel
theorem dX11_echoLine_68 : decode cX11_echoLine 68 = .ok (.bipush 99, 2) := by decide +kernel
theorem dX11_echoLine_70 : decode cX11_echoLine 70 = .ok (.invokevirtual 283, 3) := by decide +kernel
theorem dX11_echoLine_73 : decode cX11_echoLine 73 = .ok (.istore 4, 2) := by decide +kernel
theorem dX11_echoLine_75 : decode cX11_echoLine 75 = .ok (.aload_n 0, 1) := by decide +kernel
theorem dX11_echoLine_76 : decode cX11_echoLine 76 = .ok (.iconst 0, 1) := by decide +kernel
theorem dX11_echoLine_77 : decode cX11_echoLine 77 = .ok (.bipush 9, 2) := by decide +kernel
theorem dX11_echoLine_79 : decode cX11_echoLine 79 = .ok (.invokevirtual 283, 3) := by decide +kernel
theorem dX11_echoLine_82 : decode cX11_echoLine 82 = .ok (.istore 5, 2) := by decide +kernel
theorem dX11_echoLine_84 : decode cX11_echoLine 84 = .ok (.aload_n 0, 1) := by decide +kernel
theorem dX11_echoLine_85 : decode cX11_echoLine 85 = .ok (.getfield 233, 3) := by decide +kernel
theorem dX11_echoLine_88 : decode cX11_echoLine 88 = .ok (.ifCond .eq 4, 3) := by decide +kernel
theorem dX11_echoLine_91 : decode cX11_echoLine 91 = .ok (.return_, 1) := by decide +kernel
theorem dX11_echoLine_92 : decode cX11_echoLine 92 = .ok (.aload_n 0, 1) := by decide +kernel
theorem dX11_echoLine_93 : decode cX11_echoLine 93 = .ok (.iload_n 1, 1) := by decide +kernel
theorem dX11_echoLine_94 : decode cX11_echoLine 94 = .ok (.bipush 7, 2) := by decide +kernel
theorem dX11_echoLine_96 : decode cX11_echoLine 96 = .ok (.iload_n 2, 1) := by decide +kernel
theorem dX11_echoLine_97 : decode cX11_echoLine 97 = .ok (.invokevirtual 116, 3) := by decide +kernel
theorem dX11_echoLine_100 : decode cX11_echoLine 100 = .ok (.aload_n 0, 1) := by decide +kernel
theorem dX11_echoLine_101 : decode cX11_echoLine 101 = .ok (.iload_n 1, 1) := by decide +kernel
theorem dX11_echoLine_102 : decode cX11_echoLine 102 = .ok (.bipush 8, 2) := by decide +kernel
theorem dX11_echoLine_104 : decode cX11_echoLine 104 = .ok (.iload_n 3, 1) := by decide +kernel
theorem dX11_echoLine_105 : decode cX11_echoLine 105 = .ok (.invokevirtual 116, 3) := by decide +kernel
theorem dX11_echoLine_108 : decode cX11_echoLine 108 = .ok (.aload_n 0, 1) := by decide +kernel
theorem dX11_echoLine_109 : decode cX11_echoLine 109 = .ok (.iload_n 1, 1) := by decide +kernel
theorem dX11_echoLine_110 : decode cX11_echoLine 110 = .ok (.bipush 9, 2) := by decide +kernel
theorem dX11_echoLine_112 : decode cX11_echoLine 112 = .ok (.iload 4, 2) := by decide +kernel
theorem dX11_echoLine_114 : decode cX11_echoLine 114 = .ok (.invokevirtual 116, 3) := by decide +kernel
theorem dX11_echoLine_117 : decode cX11_echoLine 117 = .ok (.aload_n 0, 1) := by decide +kernel
theorem dX11_echoLine_118 : decode cX11_echoLine 118 = .ok (.iload_n 1, 1) := by decide +kernel
theorem dX11_echoLine_119 : decode cX11_echoLine 119 = .ok (.bipush 10, 2) := by decide +kernel
theorem dX11_echoLine_121 : decode cX11_echoLine 121 = .ok (.iload 5, 2) := by decide +kernel
theorem dX11_echoLine_123 : decode cX11_echoLine 123 = .ok (.invokevirtual 116, 3) := by decide +kernel
theorem dX11_echoLine_126 : decode cX11_echoLine 126 = .ok (.aload_n 0, 1) := by decide +kernel
theorem dX11_echoLine_127 : decode cX11_echoLine 127 = .ok (.getfield 7, 3) := by decide +kernel
theorem dX11_echoLine_130 : decode cX11_echoLine 130 = .ok (.iconst 0, 1) := by decide +kernel
theorem dX11_echoLine_131 : decode cX11_echoLine 131 = .ok (.dup2, 1) := by decide +kernel
theorem dX11_echoLine_132 : decode cX11_echoLine 132 = .ok (.iaload, 1) := by decide +kernel
theorem dX11_echoLine_133 : decode cX11_echoLine 133 = .ok (.iconst 1, 1) := by decide +kernel
theorem dX11_echoLine_134 : decode cX11_echoLine 134 = .ok (.iadd, 1) := by decide +kernel
theorem dX11_echoLine_135 : decode cX11_echoLine 135 = .ok (.iastore, 1) := by decide +kernel
theorem dX11_echoLine_136 : decode cX11_echoLine 136 = .ok (.return_, 1) := by decide +kernel
theorem dX11_valleyLine_0 : decode cX11_valleyLine 0 = .ok (.aload_n 0, 1) := by decide +kernel
theorem dX11_valleyLine_1 : decode cX11_valleyLine 1 = .ok (.aload_n 0, 1) := by decide +kernel
theorem dX11_valleyLine_2 : decode cX11_valleyLine 2 = .ok (.getfield 7, 3) := by decide +kernel
theorem dX11_valleyLine_5 : decode cX11_valleyLine 5 = .ok (.iconst 1, 1) := by decide +kernel
theorem dX11_valleyLine_6 : decode cX11_valleyLine 6 = .ok (.iaload, 1) := by decide +kernel
theorem dX11_valleyLine_7 : decode cX11_valleyLine 7 = .ok (.bipush 8, 2) := by decide +kernel
theorem dX11_valleyLine_9 : decode cX11_valleyLine 9 = .ok (.if_icmp .ge 7, 3) := by decide +kernel
theorem dX11_valleyLine_12 : decode cX11_valleyLine 12 = .ok (.iconst 1, 1) := by decide +kernel
theorem dX11_valleyLine_13 : decode cX11_valleyLine 13 = .ok (.goto 4, 3) := by decide +kernel
theorem dX11_valleyLine_16 : decode cX11_valleyLine 16 = .ok (.iconst 0, 1) := by decide +kernel
theorem dX11_valleyLine_17 : decode cX11_valleyLine 17 = .ok (.iconst 4, 1) := by decide +kernel
theorem dX11_valleyLine_18 : decode cX11_valleyLine 18 = .ok (.invokevirtual 246, 3) := by decide +kernel
theorem dX11_valleyLine_21 : decode cX11_valleyLine 21 = .ok (.aload_n 0, 1) := by decide +kernel
theorem dX11_valleyLine_22 : decode cX11_valleyLine 22 = .ok (.getfield 233, 3) := by decide +kernel
theorem dX11_valleyLine_25 : decode cX11_valleyLine 25 = .ok (.ifCond .eq 4, 3) := by decide +kernel
theorem dX11_valleyLine_28 : decode cX11_valleyLine 28 = .ok (.return_, 1) := by decide +kernel
theorem dX11_valleyLine_29 : decode cX11_valleyLine 29 = .ok (.aload_n 0, 1) := by decide +kernel
theorem dX11_valleyLine_30 : decode cX11_valleyLine 30 = .ok (.invokevirtual 250, 3) := by decide +kernel
theorem dX11_valleyLine_33 : decode cX11_valleyLine 33 = .ok (.aload_n 0, 1) := by decide +kernel
theorem dX11_valleyLine_34 : decode cX11_valleyLine 34 = .ok (.getfield 7, 3) := by decide +kernel
theorem dX11_valleyLine_37 : decode cX11_valleyLine 37 = .ok (.iconst 1, 1) := by decide +kernel
theorem dX11_valleyLine_38 : decode cX11_valleyLine 38 = .ok (.iaload, 1) := by decide +kernel
theorem dX11_valleyLine_39 : decode cX11_valleyLine 39 = .ok (.istore_n 1, 1) := by decide +kernel
theorem dX11_valleyLine_40 : decode cX11_valleyLine 40 = .ok (.aload_n 0, 1) := by decide +kernel
theorem dX11_valleyLine_41 : decode cX11_valleyLine 41 = .ok (.iload_n 1, 1) := by decide +kernel
theorem dX11_valleyLine_42 : decode cX11_valleyLine 42 = .ok (.iconst 1, 1) := by decide +kernel
theorem dX11_valleyLine_43 : decode cX11_valleyLine 43 = .ok (.invokestatic 259, 3) := by decide +kernel
theorem dX11_valleyLine_46 : decode cX11_valleyLine 46 = .ok (.iconst 1, 1) := by decide +kernel
theorem dX11_valleyLine_47 : decode cX11_valleyLine 47 = .ok (.invokevirtual 292, 3) := by decide +kernel
theorem dX11_valleyLine_50 : decode cX11_valleyLine 50 = .ok (.aload_n 0, 1) := by decide +kernel
theorem dX11_valleyLine_51 : decode cX11_valleyLine 51 = .ok (.iconst 1, 1) := by decide +kernel
theorem dX11_valleyLine_52 : decode cX11_valleyLine 52 = .ok (.bipush 9, 2) := by decide +kernel
theorem dX11_valleyLine_54 : decode cX11_valleyLine 54 = .ok (.invokevirtual 283, 3) := by decide +kernel
theorem dX11_valleyLine_57 : decode cX11_valleyLine 57 = .ok (.istore_n 2, 1) := by decide +kernel
theorem dX11_valleyLine_58 : decode cX11_valleyLine 58 = .ok (.aload_n 0, 1) := by decide +kernel
theorem dX11_valleyLine_59 : decode cX11_valleyLine 59 = .ok (.iconst 1, 1) := by decide +kernel
theorem dX11_valleyLine_60 : decode cX11_valleyLine 60 = .ok (.iconst 3, 1) := by decide +kernel
theorem dX11_valleyLine_61 : decode cX11_valleyLine 61 = .ok (.invokevirtual 283, 3) := by decide +kernel
theorem dX11_valleyLine_64 : decode cX11_valleyLine 64 = .ok (.istore_n 3, 1) := by decide +kernel
theorem dX11_valleyLine_65 : decode cX11_valleyLine 65 = .ok (.aload_n 0, 1) := by decide +kernel
theorem dX11_valleyLine_66 : decode cX11_valleyLine 66 = .ok (.iconst 1, 1) := by decide +kernel
theorem dX11_valleyLine_67 : decode cX11_valleyLine 67 = .ok (.bipush 99, 2) := by decide +kernel
theorem dX11_valleyLine_69 : decode cX11_valleyLine 69 = .ok (.invokevirtual 283, 3) := by decide +kernel
theorem dX11_valleyLine_72 : decode cX11_valleyLine 72 = .ok (.istore 4, 2) := by decide +kernel
theorem dX11_valleyLine_74 : decode cX11_valleyLine 74 = .ok (.aload_n 0, 1) := by decide +kernel
theorem dX11_valleyLine_75 : decode cX11_valleyLine 75 = .ok (.iconst 0, 1) := by decide +kernel
theorem dX11_valleyLine_76 : decode cX11_valleyLine 76 = .ok (.sipush 9999, 3) := by decide +kernel
theorem dX11_valleyLine_79 : decode cX11_valleyLine 79 = .ok (.invokevirtual 283, 3) := by decide +kernel
theorem dX11_valleyLine_82 : decode cX11_valleyLine 82 = .ok (.istore 5, 2) := by decide +kernel
theorem dX11_valleyLine_84 : decode cX11_valleyLine 84 = .ok (.aload_n 0, 1) := by decide +kernel
theorem dX11_valleyLine_85 : decode cX11_valleyLine 85 = .ok (.getfield 233, 3) := by decide +kernel
theorem dX11_valleyLine_88 : decode cX11_valleyLine 88 = .ok (.ifCond .eq 4, 3) := by decide +kernel
theorem dX11_valleyLine_91 : decode cX11_valleyLine 91 = .ok (.return_, 1) := by decide +kernel
theorem dX11_valleyLine_92 : decode cX11_valleyLine 92 = .ok (.aload_n 0, 1) := by decide +kernel
theorem dX11_valleyLine_93 : decode cX11_valleyLine 93 = .ok (.iload_n 1, 1) := by decide +kernel
theorem dX11_valleyLine_94 : decode cX11_valleyLine 94 = .ok (.bipush 7, 2) := by decide +kernel
theorem dX11_valleyLine_96 : decode cX11_valleyLine 96 = .ok (.iload_n 2, 1) := by decide +kernel
theorem dX11_valleyLine_97 : decode cX11_valleyLine 97 = .ok (.invokevirtual 112, 3) := by decide +kernel
theorem dX11_valleyLine_100 : decode cX11_valleyLine 100 = .ok (.aload_n 0, 1) := by decide +kernel
theorem dX11_valleyLine_101 : decode cX11_valleyLine 101 = .ok (.iload_n 1, 1) := by decide +kernel
theorem dX11_valleyLine_102 : decode cX11_valleyLine 102 = .ok (.bipush 8, 2) := by decide +kernel
theorem dX11_valleyLine_104 : decode cX11_valleyLine 104 = .ok (.iload_n 3, 1) := by decide +kernel
theorem dX11_valleyLine_105 : decode cX11_valleyLine 105 = .ok (.invokevirtual 112, 3) := by decide +kernel
theorem dX11_valleyLine_108 : decode cX11_valleyLine 108 = .ok (.aload_n 0, 1) := by decide +kernel
theorem dX11_valleyLine_109 : decode cX11_valleyLine 109 = .ok (.iload_n 1, 1) := by decide +kernel
theorem dX11_valleyLine_110 : decode cX11_valleyLine 110 = .ok (.bipush 9, 2) := by decide +kernel
theorem dX11_valleyLine_112 : decode cX11_valleyLine 112 = .ok (.iload 4, 2) := by decide +kernel
theorem dX11_valleyLine_114 : decode cX11_valleyLine 114 = .ok (.invokevirtual 112, 3) := by decide +kernel
theorem dX11_valleyLine_117 : decode cX11_valleyLine 117 = .ok (.aload_n 0, 1) := by decide +kernel
theorem dX11_valleyLine_118 : decode cX11_valleyLine 118 = .ok (.iload_n 1, 1) := by decide +kernel
theorem dX11_valleyLine_119 : decode cX11_valleyLine 119 = .ok (.bipush 10, 2) := by decide +kernel
theorem dX11_valleyLine_121 : decode cX11_valleyLine 121 = .ok (.iload 5, 2) := by decide +kernel
theorem dX11_valleyLine_123 : decode cX11_valleyLine 123 = .ok (.invokevirtual 112, 3) := by decide +kernel
theorem dX11_valleyLine_126 : decode cX11_valleyLine 126 = .ok (.aload_n 0, 1) := by decide +kernel
theorem dX11_valleyLine_127 : decode cX11_valleyLine 127 = .ok (.getfield 7, 3) := by decide +kernel
theorem dX11_valleyLine_130 : decode cX11_valleyLine 130 = .ok (.bipush 7, 2) := by decide +kernel
theorem dX11_valleyLine_132 : decode cX11_valleyLine 132 = .ok (.dup2, 1) := by decide +kernel
theorem dX11_valleyLine_133 : decode cX11_valleyLine 133 = .ok (.iaload, 1) := by decide +kernel
theorem dX11_valleyLine_134 : decode cX11_valleyLine 134 = .ok (.iload 5, 2) := by decide +kernel
theorem dX11_valleyLine_136 : decode cX11_valleyLine 136 = .ok (.iadd, 1) := by decide +kernel
theorem dX11_valleyLine_137 : decode cX11_valleyLine 137 = .ok (.iastore, 1) := by decide +kernel
theorem dX11_valleyLine_138 : decode cX11_valleyLine 138 = .ok (.aload_n 0, 1) := by decide +kernel
theorem dX11_valleyLine_139 : decode cX11_valleyLine 139 = .ok (.getfield 7, 3) := by decide +kernel
theorem dX11_valleyLine_142 : decode cX11_valleyLine 142 = .ok (.iconst 1, 1) := by decide +kernel
theorem dX11_valleyLine_143 : decode cX11_valleyLine 143 = .ok (.dup2, 1) := by decide +kernel
theorem dX11_valleyLine_144 : decode cX11_valleyLine 144 = .ok (.iaload, 1) := by decide +kernel
theorem dX11_valleyLine_145 : decode cX11_valleyLine 145 = .ok (.iconst 1, 1) := by decide +kernel
theorem dX11_valleyLine_146 : decode cX11_valleyLine 146 = .ok (.iadd, 1) := by decide +kernel
theorem dX11_valleyLine_147 : decode cX11_valleyLine 147 = .ok (.iastore, 1) := by decide +kernel
theorem dX11_valleyLine_148 : decode cX11_valleyLine 148 = .ok (.return_, 1) := by decide +kernel
theorem dX11_testedLine_0 : decode cX11_testedLine 0 = .ok (.aload_n 0, 1) := by decide +kernel
theorem dX11_testedLine_1 : decode cX11_testedLine 1 = .ok (.invokevirtual 250, 3) := by decide +kernel
theorem dX11_testedLine_4 : decode cX11_testedLine 4 = .ok (.aload_n 0, 1) := by decide +kernel
theorem dX11_testedLine_5 : decode cX11_testedLine 5 = .ok (.iconst 1, 1) := by decide +kernel
theorem dX11_testedLine_6 : decode cX11_testedLine 6 = .ok (.invokevirtual 296, 3) := by decide +kernel
theorem dX11_testedLine_9 : decode cX11_testedLine 9 = .ok (.istore_n 1, 1) := by decide +kernel
theorem dX11_testedLine_10 : decode cX11_testedLine 10 = .ok (.aload_n 0, 1) := by decide +kernel
theorem dX11_testedLine_11 : decode cX11_testedLine 11 = .ok (.iconst 0, 1) := by decide +kernel
theorem dX11_testedLine_12 : decode cX11_testedLine 12 = .ok (.invokevirtual 296, 3) := by decide +kernel
theorem dX11_testedLine_15 : decode cX11_testedLine 15 = .ok (.istore_n 2, 1) := by decide +kernel
theorem dX11_testedLine_16 : decode cX11_testedLine 16 = .ok (.aload_n 0, 1) := by decide +kernel
theorem dX11_testedLine_17 : decode cX11_testedLine 17 = .ok (.getfield 233, 3) := by decide +kernel
theorem dX11_testedLine_20 : decode cX11_testedLine 20 = .ok (.ifCond .ne 15, 3) := by decide +kernel
theorem dX11_testedLine_23 : decode cX11_testedLine 23 = .ok (.aload_n 0, 1) := by decide +kernel
theorem dX11_testedLine_24 : decode cX11_testedLine 24 = .ok (.getfield 7, 3) := by decide +kernel
theorem dX11_testedLine_27 : decode cX11_testedLine 27 = .ok (.iload_n 1, 1) := by decide +kernel
theorem dX11_testedLine_28 : decode cX11_testedLine 28 = .ok (.iload_n 2, 1) := by decide +kernel
theorem dX11_testedLine_29 : decode cX11_testedLine 29 = .ok (.iconst 0, 1) := by decide +kernel
theorem dX11_testedLine_30 : decode cX11_testedLine 30 = .ok (.invokestatic 99, 3) := by decide +kernel
theorem dX11_testedLine_33 : decode cX11_testedLine 33 = .ok (.iconst 1, 1) := by decide +kernel
theorem dX11_testedLine_34 : decode cX11_testedLine 34 = .ok (.iastore, 1) := by decide +kernel
theorem dX11_testedLine_35 : decode cX11_testedLine 35 = .ok (.return_, 1) := by decide +kernel
theorem dX11_statement_0 : decode cX11_statement 0 = .ok (.aload_n 0, 1) := by decide +kernel
theorem dX11_statement_1 : decode cX11_statement 1 = .ok (.ldc_w 299, 3) := by decide +kernel
theorem dX11_statement_4 : decode cX11_statement 4 = .ok (.invokevirtual 242, 3) := by decide +kernel
theorem dX11_statement_7 : decode cX11_statement 7 = .ok (.ifCond .eq 10, 3) := by decide +kernel
theorem dX11_statement_10 : decode cX11_statement 10 = .ok (.aload_n 0, 1) := by decide +kernel
theorem dX11_statement_11 : decode cX11_statement 11 = .ok (.invokevirtual 301, 3) := by decide +kernel
theorem dX11_statement_14 : decode cX11_statement 14 = .ok (.goto 48, 3) := by decide +kernel
theorem dX11_statement_17 : decode cX11_statement 17 = .ok (.aload_n 0, 1) := by decide +kernel
theorem dX11_statement_18 : decode cX11_statement 18 = .ok (.ldc_w 304, 3) := by decide +kernel
theorem dX11_statement_21 : decode cX11_statement 21 = .ok (.invokevirtual 242, 3) := by decide +kernel
theorem dX11_statement_24 : decode cX11_statement 24 = .ok (.ifCond .eq 10, 3) := by decide +kernel
theorem dX11_statement_27 : decode cX11_statement 27 = .ok (.aload_n 0, 1) := by decide +kernel
theorem dX11_statement_28 : decode cX11_statement 28 = .ok (.invokevirtual 306, 3) := by decide +kernel
theorem dX11_statement_31 : decode cX11_statement 31 = .ok (.goto 31, 3) := by decide +kernel
theorem dX11_statement_34 : decode cX11_statement 34 = .ok (.aload_n 0, 1) := by decide +kernel
theorem dX11_statement_35 : decode cX11_statement 35 = .ok (.ldc_w 309, 3) := by decide +kernel
theorem dX11_statement_38 : decode cX11_statement 38 = .ok (.invokevirtual 242, 3) := by decide +kernel
theorem dX11_statement_41 : decode cX11_statement 41 = .ok (.ifCond .eq 10, 3) := by decide +kernel
theorem dX11_statement_44 : decode cX11_statement 44 = .ok (.aload_n 0, 1) := by decide +kernel
theorem dX11_statement_45 : decode cX11_statement 45 = .ok (.invokevirtual 311, 3) := by decide +kernel
theorem dX11_statement_48 : decode cX11_statement 48 = .ok (.goto 14, 3) := by decide +kernel
theorem dX11_statement_51 : decode cX11_statement 51 = .ok (.aload_n 0, 1) := by decide +kernel
theorem dX11_statement_52 : decode cX11_statement 52 = .ok (.invokevirtual 239, 3) := by decide +kernel
theorem dX11_statement_55 : decode cX11_statement 55 = .ok (.istore_n 1, 1) := by decide +kernel
theorem dX11_statement_56 : decode cX11_statement 56 = .ok (.aload_n 0, 1) := by decide +kernel
theorem dX11_statement_57 : decode cX11_statement 57 = .ok (.iconst 0, 1) := by decide +kernel
theorem dX11_statement_58 : decode cX11_statement 58 = .ok (.iconst 1, 1) := by decide +kernel
theorem dX11_statement_59 : decode cX11_statement 59 = .ok (.invokevirtual 246, 3) := by decide +kernel
theorem dX11_statement_62 : decode cX11_statement 62 = .ok (.aload_n 0, 1) := by decide +kernel
theorem dX11_statement_63 : decode cX11_statement 63 = .ok (.invokevirtual 289, 3) := by decide +kernel
theorem dX11_statement_66 : decode cX11_statement 66 = .ok (.return_, 1) := by decide +kernel
theorem dX11_load_0 : decode cX11_load 0 = .ok (.aload_n 0, 1) := by decide +kernel
theorem dX11_load_1 : decode cX11_load 1 = .ok (.getfield 7, 3) := by decide +kernel
theorem dX11_load_4 : decode cX11_load 4 = .ok (.iconst 0, 1) := by decide +kernel
theorem dX11_load_5 : decode cX11_load 5 = .ok (.aload_n 0, 1) := by decide +kernel
theorem dX11_load_6 : decode cX11_load 6 = .ok (.getfield 16, 3) := by decide +kernel
theorem dX11_load_9 : decode cX11_load 9 = .ok (.iconst 0, 1) := by decide +kernel
theorem dX11_load_10 : decode cX11_load 10 = .ok (.invokestatic 71, 3) := by decide +kernel
theorem dX11_load_13 : decode cX11_load 13 = .ok (.iconst 0, 1) := by decide +kernel
theorem dX11_load_14 : decode cX11_load 14 = .ok (.istore_n 1, 1) := by decide +kernel
theorem dX11_load_15 : decode cX11_load 15 = .ok (.iload_n 1, 1) := by decide +kernel
theorem dX11_load_16 : decode cX11_load 16 = .ok (.sipush 627, 3) := by decide +kernel
theorem dX11_load_19 : decode cX11_load 19 = .ok (.if_icmp .ge 16, 3) := by decide +kernel
theorem dX11_load_22 : decode cX11_load 22 = .ok (.aload_n 0, 1) := by decide +kernel
theorem dX11_load_23 : decode cX11_load 23 = .ok (.getfield 7, 3) := by decide +kernel
theorem dX11_load_26 : decode cX11_load 26 = .ok (.iload_n 1, 1) := by decide +kernel
theorem dX11_load_27 : decode cX11_load 27 = .ok (.iconst 0, 1) := by decide +kernel
theorem dX11_load_28 : decode cX11_load 28 = .ok (.iastore, 1) := by decide +kernel
theorem dX11_load_29 : decode cX11_load 29 = .ok (.iinc 1 1, 3) := by decide +kernel
theorem dX11_load_32 : decode cX11_load 32 = .ok (.goto (-17), 3) := by decide +kernel
theorem dX11_load_35 : decode cX11_load 35 = .ok (.aload_n 0, 1) := by decide +kernel
theorem dX11_load_36 : decode cX11_load 36 = .ok (.invokevirtual 314, 3) := by decide +kernel
theorem dX11_load_39 : decode cX11_load 39 = .ok (.aload_n 0, 1) := by decide +kernel
theorem dX11_load_40 : decode cX11_load 40 = .ok (.ldc_w 317, 3) := by decide +kernel
theorem dX11_load_43 : decode cX11_load 43 = .ok (.invokevirtual 279, 3) := by decide +kernel
theorem dX11_load_46 : decode cX11_load 46 = .ok (.aload_n 0, 1) := by decide +kernel
theorem dX11_load_47 : decode cX11_load 47 = .ok (.getfield 7, 3) := by decide +kernel
theorem dX11_load_50 : decode cX11_load 50 = .ok (.iconst 3, 1) := by decide +kernel
theorem dX11_load_51 : decode cX11_load 51 = .ok (.aload_n 0, 1) := by decide +kernel
theorem dX11_load_52 : decode cX11_load 52 = .ok (.iconst 1, 1) := by decide +kernel
theorem dX11_load_53 : decode cX11_load 53 = .ok (.bipush 30, 2) := by decide +kernel
theorem dX11_load_55 : decode cX11_load 55 = .ok (.invokevirtual 283, 3) := by decide +kernel
theorem dX11_load_58 : decode cX11_load 58 = .ok (.iastore, 1) := by decide +kernel
theorem dX11_load_59 : decode cX11_load 59 = .ok (.aload_n 0, 1) := by decide +kernel
theorem dX11_load_60 : decode cX11_load 60 = .ok (.invokevirtual 289, 3) := by decide +kernel
theorem dX11_load_63 : decode cX11_load 63 = .ok (.aload_n 0, 1) := by decide +kernel
theorem dX11_load_64 : decode cX11_load 64 = .ok (.getfield 233, 3) := by decide +kernel
theorem dX11_load_67 : decode cX11_load 67 = .ok (.ifCond .ne 7, 3) := by decide +kernel
theorem dX11_load_70 : decode cX11_load 70 = .ok (.aload_n 0, 1) := by decide +kernel
theorem dX11_load_71 : decode cX11_load 71 = .ok (.invokevirtual 319, 3) := by decide +kernel
theorem dX11_load_74 : decode cX11_load 74 = .ok (.aload_n 0, 1) := by decide +kernel
theorem dX11_load_75 : decode cX11_load 75 = .ok (.getfield 233, 3) := by decide +kernel
theorem dX11_load_78 : decode cX11_load 78 = .ok (.ifCond .ne 36, 3) := by decide +kernel
theorem dX11_load_81 : decode cX11_load 81 = .ok (.aload_n 0, 1) := by decide +kernel
theorem dX11_load_82 : decode cX11_load 82 = .ok (.getfield 7, 3) := by decide +kernel
theorem dX11_load_85 : decode cX11_load 85 = .ok (.iconst 0, 1) := by decide +kernel
theorem dX11_load_86 : decode cX11_load 86 = .ok (.iaload, 1) := by decide +kernel
theorem dX11_load_87 : decode cX11_load 87 = .ok (.ifCond .eq 20, 3) := by decide +kernel
theorem dX11_load_90 : decode cX11_load 90 = .ok (.aload_n 0, 1) := by decide +kernel
theorem dX11_load_91 : decode cX11_load 91 = .ok (.getfield 7, 3) := by decide +kernel
theorem dX11_load_94 : decode cX11_load 94 = .ok (.iconst 1, 1) := by decide +kernel
theorem dX11_load_95 : decode cX11_load 95 = .ok (.iaload, 1) := by decide +kernel
theorem dX11_load_96 : decode cX11_load 96 = .ok (.ifCond .eq 11, 3) := by decide +kernel
theorem dX11_load_99 : decode cX11_load 99 = .ok (.aload_n 0, 1) := by decide +kernel
theorem dX11_load_100 : decode cX11_load 100 = .ok (.invokevirtual 239, 3) := by decide +kernel
theorem dX11_load_103 : decode cX11_load 103 = .ok (.iconst (-1), 1) := by decide +kernel
theorem dX11_load_104 : decode cX11_load 104 = .ok (.if_icmp .eq 10, 3) := by decide +kernel
theorem dX11_load_107 : decode cX11_load 107 = .ok (.aload_n 0, 1) := by decide +kernel
theorem dX11_load_108 : decode cX11_load 108 = .ok (.invokevirtual 322, 3) := by decide +kernel
theorem dX11_load_111 : decode cX11_load 111 = .ok (.goto (-37), 3) := by decide +kernel
theorem dX11_load_114 : decode cX11_load 114 = .ok (.aload_n 0, 1) := by decide +kernel
theorem dX11_load_115 : decode cX11_load 115 = .ok (.aload_n 0, 1) := by decide +kernel
theorem dX11_load_116 : decode cX11_load 116 = .ok (.invokevirtual 325, 3) := by decide +kernel
theorem dX11_load_119 : decode cX11_load 119 = .ok (.invokevirtual 210, 3) := by decide +kernel
theorem dX11_load_122 : decode cX11_load 122 = .ok (.ifCond .ne 18, 3) := by decide +kernel
theorem dX11_load_125 : decode cX11_load 125 = .ok (.aload_n 0, 1) := by decide +kernel
theorem dX11_load_126 : decode cX11_load 126 = .ok (.getfield 16, 3) := by decide +kernel
theorem dX11_load_129 : decode cX11_load 129 = .ok (.iconst 0, 1) := by decide +kernel
theorem dX11_load_130 : decode cX11_load 130 = .ok (.aload_n 0, 1) := by decide +kernel
theorem dX11_load_131 : decode cX11_load 131 = .ok (.getfield 7, 3) := by decide +kernel
theorem dX11_load_134 : decode cX11_load 134 = .ok (.iconst 0, 1) := by decide +kernel
theorem dX11_load_135 : decode cX11_load 135 = .ok (.invokestatic 71, 3) := by decide +kernel
theorem dX11_load_138 : decode cX11_load 138 = .ok (.iconst 0, 1) := by decide +kernel
theorem dX11_load_139 : decode cX11_load 139 = .ok (.ireturn, 1) := by decide +kernel
theorem dX11_load_140 : decode cX11_load 140 = .ok (.aload_n 0, 1) := by decide +kernel
theorem dX11_load_141 : decode cX11_load 141 = .ok (.iconst 0, 1) := by decide +kernel
theorem dX11_load_142 : decode cX11_load 142 = .ok (.putfield 328, 3) := by decide +kernel
theorem dX11_load_145 : decode cX11_load 145 = .ok (.aload_n 0, 1) := by decide +kernel
theorem dX11_load_146 : decode cX11_load 146 = .ok (.getfield 7, 3) := by decide +kernel
theorem dX11_load_149 : decode cX11_load 149 = .ok (.iconst 0, 1) := by decide +kernel
theorem dX11_load_150 : decode cX11_load 150 = .ok (.iaload, 1) := by decide +kernel
theorem dX11_load_151 : decode cX11_load 151 = .ok (.ireturn, 1) := by decide +kernel
theorem dX11_otherCommand_0 : decode cX11_otherCommand 0 = .ok (.aload_n 0, 1) := by decide +kernel
theorem dX11_otherCommand_1 : decode cX11_otherCommand 1 = .ok (.ldc_w 331, 3) := by decide +kernel
theorem dX11_otherCommand_4 : decode cX11_otherCommand 4 = .ok (.invokevirtual 242, 3) := by decide +kernel
theorem dX11_otherCommand_7 : decode cX11_otherCommand 7 = .ok (.ifCond .eq 5, 3) := by decide +kernel
theorem dX11_otherCommand_10 : decode cX11_otherCommand 10 = .ok (.iconst 3, 1) := by decide +kernel
theorem dX11_otherCommand_11 : decode cX11_otherCommand 11 = .ok (.ireturn, 1) := by decide +kernel
theorem dX11_otherCommand_12 : decode cX11_otherCommand 12 = .ok (.aload_n 0, 1) := by decide +kernel
theorem dX11_otherCommand_13 : decode cX11_otherCommand 13 = .ok (.ldc_w 333, 3) := by decide +kernel
theorem dX11_otherCommand_16 : decode cX11_otherCommand 16 = .ok (.invokevirtual 242, 3) := by decide +kernel
theorem dX11_otherCommand_19 : decode cX11_otherCommand 19 = .ok (.ifCond .eq 5, 3) := by decide +kernel
theorem dX11_otherCommand_22 : decode cX11_otherCommand 22 = .ok (.iconst 4, 1) := by decide +kernel
theorem dX11_otherCommand_23 : decode cX11_otherCommand 23 = .ok (.ireturn, 1) := by decide +kernel
theorem dX11_otherCommand_24 : decode cX11_otherCommand 24 = .ok (.aload_n 0, 1) := by decide +kernel
theorem dX11_otherCommand_25 : decode cX11_otherCommand 25 = .ok (.ldc_w 335, 3) := by decide +kernel
theorem dX11_otherCommand_28 : decode cX11_otherCommand 28 = .ok (.invokevirtual 242, 3) := by decide +kernel
theorem dX11_otherCommand_31 : decode cX11_otherCommand 31 = .ok (.ifCond .eq 5, 3) := by decide +kernel
theorem dX11_otherCommand_34 : decode cX11_otherCommand 34 = .ok (.iconst 5, 1) := by decide +kernel
theorem dX11_otherCommand_35 : decode cX11_otherCommand 35 = .ok (.ireturn, 1) := by decide +kernel
theorem dX11_otherCommand_36 : decode cX11_otherCommand 36 = .ok (.aload_n 0, 1) := by decide +kernel
theorem dX11_otherCommand_37 : decode cX11_otherCommand 37 = .ok (.ldc_w 337, 3) := by decide +kernel
theorem dX11_otherCommand_40 : decode cX11_otherCommand 40 = .ok (.invokevirtual 242, 3) := by decide +kernel
theorem dX11_otherCommand_43 : decode cX11_otherCommand 43 = .ok (.ifCond .eq 8, 3) := by decide +kernel
theorem dX11_otherCommand_46 : decode cX11_otherCommand 46 = .ok (.bipush 6, 2) := by decide +kernel
theorem dX11_otherCommand_48 : decode cX11_otherCommand 48 = .ok (.goto 4, 3) := by decide +kernel
theorem dX11_otherCommand_51 : decode cX11_otherCommand 51 = .ok (.iconst (-1), 1) := by decide +kernel
theorem dX11_otherCommand_52 : decode cX11_otherCommand 52 = .ok (.ireturn, 1) := by decide +kernel
theorem dX11_commandHere_0 : decode cX11_commandHere 0 = .ok (.aload_n 0, 1) := by decide +kernel
theorem dX11_commandHere_1 : decode cX11_commandHere 1 = .ok (.ldc_w 339, 3) := by decide +kernel
theorem dX11_commandHere_4 : decode cX11_commandHere 4 = .ok (.invokevirtual 242, 3) := by decide +kernel
theorem dX11_commandHere_7 : decode cX11_commandHere 7 = .ok (.ifCond .eq 5, 3) := by decide +kernel
theorem dX11_commandHere_10 : decode cX11_commandHere 10 = .ok (.iconst 0, 1) := by decide +kernel
theorem dX11_commandHere_11 : decode cX11_commandHere 11 = .ok (.ireturn, 1) := by decide +kernel
theorem dX11_commandHere_12 : decode cX11_commandHere 12 = .ok (.aload_n 0, 1) := by decide +kernel
theorem dX11_commandHere_13 : decode cX11_commandHere 13 = .ok (.ldc_w 317, 3) := by decide +kernel
theorem dX11_commandHere_16 : decode cX11_commandHere 16 = .ok (.invokevirtual 242, 3) := by decide +kernel
theorem dX11_commandHere_19 : decode cX11_commandHere 19 = .ok (.ifCond .eq 5, 3) := by decide +kernel
theorem dX11_commandHere_22 : decode cX11_commandHere 22 = .ok (.iconst 1, 1) := by decide +kernel
theorem dX11_commandHere_23 : decode cX11_commandHere 23 = .ok (.ireturn, 1) := by decide +kernel
theorem dX11_commandHere_24 : decode cX11_commandHere 24 = .ok (.aload_n 0, 1) := by decide +kernel
theorem dX11_commandHere_25 : decode cX11_commandHere 25 = .ok (.ldc_w 341, 3) := by decide +kernel
theorem dX11_commandHere_28 : decode cX11_commandHere 28 = .ok (.invokevirtual 242, 3) := by decide +kernel
theorem dX11_commandHere_31 : decode cX11_commandHere 31 = .ok (.ifCond .eq 7, 3) := by decide +kernel
theorem dX11_commandHere_34 : decode cX11_commandHere 34 = .ok (.iconst 2, 1) := by decide +kernel
theorem dX11_commandHere_35 : decode cX11_commandHere 35 = .ok (.goto 7, 3) := by decide +kernel
theorem dX11_commandHere_38 : decode cX11_commandHere 38 = .ok (.aload_n 0, 1) := by decide +kernel
theorem dX11_commandHere_39 : decode cX11_commandHere 39 = .ok (.invokevirtual 343, 3) := by decide +kernel
theorem dX11_commandHere_42 : decode cX11_commandHere 42 = .ok (.ireturn, 1) := by decide +kernel
theorem dX11_partsOf_0 : decode cX11_partsOf 0 = .ok (.iload_n 1, 1) := by decide +kernel
theorem dX11_partsOf_1 : decode cX11_partsOf 1 = .ok (.tableswitch 134 0 5 #[39, 53, 54, 134, 79, 106], 39) := by decide +kernel
theorem dX11_partsOf_40 : decode cX11_partsOf 40 = .ok (.aload_n 0, 1) := by decide +kernel
theorem dX11_partsOf_41 : decode cX11_partsOf 41 = .ok (.getfield 45, 3) := by decide +kernel
theorem dX11_partsOf_44 : decode cX11_partsOf 44 = .ok (.iload_n 2, 1) := by decide +kernel
theorem dX11_partsOf_45 : decode cX11_partsOf 45 = .ok (.aload_n 0, 1) := by decide +kernel
theorem dX11_partsOf_46 : decode cX11_partsOf 46 = .ok (.iconst 1, 1) := by decide +kernel
theorem dX11_partsOf_47 : decode cX11_partsOf 47 = .ok (.bipush 60, 2) := by decide +kernel
theorem dX11_partsOf_49 : decode cX11_partsOf 49 = .ok (.invokevirtual 283, 3) := by decide +kernel
theorem dX11_partsOf_52 : decode cX11_partsOf 52 = .ok (.iastore, 1) := by decide +kernel
theorem dX11_partsOf_53 : decode cX11_partsOf 53 = .ok (.return_, 1) := by decide +kernel
theorem dX11_partsOf_54 : decode cX11_partsOf 54 = .ok (.return_, 1) := by decide +kernel
theorem dX11_partsOf_55 : decode cX11_partsOf 55 = .ok (.aload_n 0, 1) := by decide +kernel
theorem dX11_partsOf_56 : decode cX11_partsOf 56 = .ok (.getfield 45, 3) := by decide +kernel
theorem dX11_partsOf_59 : decode cX11_partsOf 59 = .ok (.iload_n 2, 1) := by decide +kernel
theorem dX11_partsOf_60 : decode cX11_partsOf 60 = .ok (.aload_n 0, 1) := by decide +kernel
theorem dX11_partsOf_61 : decode cX11_partsOf 61 = .ok (.iconst 1, 1) := by decide +kernel
theorem dX11_partsOf_62 : decode cX11_partsOf 62 = .ok (.invokevirtual 296, 3) := by decide +kernel
theorem dX11_partsOf_65 : decode cX11_partsOf 65 = .ok (.iastore, 1) := by decide +kernel
theorem dX11_partsOf_66 : decode cX11_partsOf 66 = .ok (.aload_n 0, 1) := by decide +kernel
theorem dX11_partsOf_67 : decode cX11_partsOf 67 = .ok (.getfield 45, 3) := by decide +kernel
theorem dX11_partsOf_70 : decode cX11_partsOf 70 = .ok (.iload_n 2, 1) := by decide +kernel
theorem dX11_partsOf_71 : decode cX11_partsOf 71 = .ok (.iconst 1, 1) := by decide +kernel
theorem dX11_partsOf_72 : decode cX11_partsOf 72 = .ok (.iadd, 1) := by decide +kernel
theorem dX11_partsOf_73 : decode cX11_partsOf 73 = .ok (.aload_n 0, 1) := by decide +kernel
theorem dX11_partsOf_74 : decode cX11_partsOf 74 = .ok (.iconst 0, 1) := by decide +kernel
theorem dX11_partsOf_75 : decode cX11_partsOf 75 = .ok (.invokevirtual 296, 3) := by decide +kernel
theorem dX11_partsOf_78 : decode cX11_partsOf 78 = .ok (.iastore, 1) := by decide +kernel
theorem dX11_partsOf_79 : decode cX11_partsOf 79 = .ok (.return_, 1) := by decide +kernel
theorem dX11_partsOf_80 : decode cX11_partsOf 80 = .ok (.aload_n 0, 1) := by decide +kernel
theorem dX11_partsOf_81 : decode cX11_partsOf 81 = .ok (.getfield 45, 3) := by decide +kernel
theorem dX11_partsOf_84 : decode cX11_partsOf 84 = .ok (.iload_n 2, 1) := by decide +kernel
theorem dX11_partsOf_85 : decode cX11_partsOf 85 = .ok (.aload_n 0, 1) := by decide +kernel
theorem dX11_partsOf_86 : decode cX11_partsOf 86 = .ok (.iconst 1, 1) := by decide +kernel
theorem dX11_partsOf_87 : decode cX11_partsOf 87 = .ok (.invokevirtual 296, 3) := by decide +kernel
theorem dX11_partsOf_90 : decode cX11_partsOf 90 = .ok (.iastore, 1) := by decide +kernel
theorem dX11_partsOf_91 : decode cX11_partsOf 91 = .ok (.aload_n 0, 1) := by decide +kernel
theorem dX11_partsOf_92 : decode cX11_partsOf 92 = .ok (.getfield 45, 3) := by decide +kernel
theorem dX11_partsOf_95 : decode cX11_partsOf 95 = .ok (.iload_n 2, 1) := by decide +kernel
theorem dX11_partsOf_96 : decode cX11_partsOf 96 = .ok (.iconst 1, 1) := by decide +kernel
theorem dX11_partsOf_97 : decode cX11_partsOf 97 = .ok (.iadd, 1) := by decide +kernel
theorem dX11_partsOf_98 : decode cX11_partsOf 98 = .ok (.aload_n 0, 1) := by decide +kernel
theorem dX11_partsOf_99 : decode cX11_partsOf 99 = .ok (.iconst 1, 1) := by decide +kernel
theorem dX11_partsOf_100 : decode cX11_partsOf 100 = .ok (.bipush 99, 2) := by decide +kernel
theorem dX11_partsOf_102 : decode cX11_partsOf 102 = .ok (.invokevirtual 283, 3) := by decide +kernel
theorem dX11_partsOf_105 : decode cX11_partsOf 105 = .ok (.iastore, 1) := by decide +kernel
theorem dX11_partsOf_106 : decode cX11_partsOf 106 = .ok (.return_, 1) := by decide +kernel
theorem dX11_partsOf_107 : decode cX11_partsOf 107 = .ok (.aload_n 0, 1) := by decide +kernel
theorem dX11_partsOf_108 : decode cX11_partsOf 108 = .ok (.getfield 45, 3) := by decide +kernel
theorem dX11_partsOf_111 : decode cX11_partsOf 111 = .ok (.iload_n 2, 1) := by decide +kernel
theorem dX11_partsOf_112 : decode cX11_partsOf 112 = .ok (.aload_n 0, 1) := by decide +kernel
theorem dX11_partsOf_113 : decode cX11_partsOf 113 = .ok (.iconst 1, 1) := by decide +kernel
theorem dX11_partsOf_114 : decode cX11_partsOf 114 = .ok (.invokevirtual 296, 3) := by decide +kernel
theorem dX11_partsOf_117 : decode cX11_partsOf 117 = .ok (.iastore, 1) := by decide +kernel
theorem dX11_partsOf_118 : decode cX11_partsOf 118 = .ok (.aload_n 0, 1) := by decide +kernel
theorem dX11_partsOf_119 : decode cX11_partsOf 119 = .ok (.getfield 45, 3) := by decide +kernel
theorem dX11_partsOf_122 : decode cX11_partsOf 122 = .ok (.iload_n 2, 1) := by decide +kernel
theorem dX11_partsOf_123 : decode cX11_partsOf 123 = .ok (.iconst 1, 1) := by decide +kernel
theorem dX11_partsOf_124 : decode cX11_partsOf 124 = .ok (.iadd, 1) := by decide +kernel
theorem dX11_partsOf_125 : decode cX11_partsOf 125 = .ok (.aload_n 0, 1) := by decide +kernel
theorem dX11_partsOf_126 : decode cX11_partsOf 126 = .ok (.iconst 1, 1) := by decide +kernel
theorem dX11_partsOf_127 : decode cX11_partsOf 127 = .ok (.sipush 999, 3) := by decide +kernel
theorem dX11_partsOf_130 : decode cX11_partsOf 130 = .ok (.invokevirtual 283, 3) := by decide +kernel
theorem dX11_partsOf_133 : decode cX11_partsOf 133 = .ok (.iastore, 1) := by decide +kernel
theorem dX11_partsOf_134 : decode cX11_partsOf 134 = .ok (.return_, 1) := by decide +kernel
theorem dX11_partsOf_135 : decode cX11_partsOf 135 = .ok (.aload_n 0, 1) := by decide +kernel
theorem dX11_partsOf_136 : decode cX11_partsOf 136 = .ok (.getfield 45, 3) := by decide +kernel
theorem dX11_partsOf_139 : decode cX11_partsOf 139 = .ok (.iload_n 2, 1) := by decide +kernel
theorem dX11_partsOf_140 : decode cX11_partsOf 140 = .ok (.aload_n 0, 1) := by decide +kernel
theorem dX11_partsOf_141 : decode cX11_partsOf 141 = .ok (.iconst 0, 1) := by decide +kernel
theorem dX11_partsOf_142 : decode cX11_partsOf 142 = .ok (.invokevirtual 296, 3) := by decide +kernel
theorem dX11_partsOf_145 : decode cX11_partsOf 145 = .ok (.iastore, 1) := by decide +kernel
theorem dX11_partsOf_146 : decode cX11_partsOf 146 = .ok (.return_, 1) := by decide +kernel
theorem dX11_readsOne_0 : decode cX11_readsOne 0 = .ok (.aload_n 0, 1) := by decide +kernel
theorem dX11_readsOne_1 : decode cX11_readsOne 1 = .ok (.invokevirtual 346, 3) := by decide +kernel
theorem dX11_readsOne_4 : decode cX11_readsOne 4 = .ok (.istore_n 1, 1) := by decide +kernel
theorem dX11_readsOne_5 : decode cX11_readsOne 5 = .ok (.aload_n 0, 1) := by decide +kernel
theorem dX11_readsOne_6 : decode cX11_readsOne 6 = .ok (.iload_n 1, 1) := by decide +kernel
theorem dX11_readsOne_7 : decode cX11_readsOne 7 = .ok (.iconst (-1), 1) := by decide +kernel
theorem dX11_readsOne_8 : decode cX11_readsOne 8 = .ok (.if_icmp .eq 7, 3) := by decide +kernel
theorem dX11_readsOne_11 : decode cX11_readsOne 11 = .ok (.iconst 1, 1) := by decide +kernel
theorem dX11_readsOne_12 : decode cX11_readsOne 12 = .ok (.goto 4, 3) := by decide +kernel
theorem dX11_readsOne_15 : decode cX11_readsOne 15 = .ok (.iconst 0, 1) := by decide +kernel
theorem dX11_readsOne_16 : decode cX11_readsOne 16 = .ok (.iconst 1, 1) := by decide +kernel
theorem dX11_readsOne_17 : decode cX11_readsOne 17 = .ok (.invokevirtual 246, 3) := by decide +kernel
theorem dX11_readsOne_20 : decode cX11_readsOne 20 = .ok (.aload_n 0, 1) := by decide +kernel
theorem dX11_readsOne_21 : decode cX11_readsOne 21 = .ok (.aload_n 0, 1) := by decide +kernel
