theorem dX11_preferredValley_14 : decode cX11_preferredValley 14 = .ok (.iload_n 2, 1) := by decide +kernel
theorem dX11_preferredValley_15 : decode cX11_preferredValley 15 = .ok (.invokevirtual 406, 3) := by decide +kernel
theorem dX11_preferredValley_18 : decode cX11_preferredValley 18 = .ok (.goto 4, 3) := by decide +kernel
theorem dX11_preferredValley_21 : decode cX11_preferredValley 21 = .ok (.iconst 0, 1) := by decide +kernel
theorem dX11_preferredValley_22 : decode cX11_preferredValley 22 = .ok (.ireturn, 1) := by decide +kernel
theorem dX11_echoAt_0 : decode cX11_echoAt 0 = .ok (.iconst 0, 1) := by decide +kernel
theorem dX11_echoAt_1 : decode cX11_echoAt 1 = .ok (.istore_n 3, 1) := by decide +kernel
theorem dX11_echoAt_2 : decode cX11_echoAt 2 = .ok (.iload_n 3, 1) := by decide +kernel
theorem dX11_echoAt_3 : decode cX11_echoAt 3 = .ok (.aload_n 0, 1) := by decide +kernel
theorem dX11_echoAt_4 : decode cX11_echoAt 4 = .ok (.getfield 7, 3) := by decide +kernel
theorem dX11_echoAt_7 : decode cX11_echoAt 7 = .ok (.iconst 0, 1) := by decide +kernel
theorem dX11_echoAt_8 : decode cX11_echoAt 8 = .ok (.iaload, 1) := by decide +kernel
theorem dX11_echoAt_9 : decode cX11_echoAt 9 = .ok (.if_icmp .ge 86, 3) := by decide +kernel
theorem dX11_echoAt_12 : decode cX11_echoAt 12 = .ok (.aload_n 0, 1) := by decide +kernel
theorem dX11_echoAt_13 : decode cX11_echoAt 13 = .ok (.iload_n 1, 1) := by decide +kernel
theorem dX11_echoAt_14 : decode cX11_echoAt 14 = .ok (.iload_n 3, 1) := by decide +kernel
theorem dX11_echoAt_15 : decode cX11_echoAt 15 = .ok (.invokevirtual 128, 3) := by decide +kernel
theorem dX11_echoAt_18 : decode cX11_echoAt 18 = .ok (.ifCond .ne 6, 3) := by decide +kernel
theorem dX11_echoAt_21 : decode cX11_echoAt 21 = .ok (.goto 68, 3) := by decide +kernel
theorem dX11_echoAt_24 : decode cX11_echoAt 24 = .ok (.iconst 0, 1) := by decide +kernel
theorem dX11_echoAt_25 : decode cX11_echoAt 25 = .ok (.istore 4, 2) := by decide +kernel
theorem dX11_echoAt_27 : decode cX11_echoAt 27 = .ok (.iconst 0, 1) := by decide +kernel
theorem dX11_echoAt_28 : decode cX11_echoAt 28 = .ok (.istore 5, 2) := by decide +kernel
theorem dX11_echoAt_30 : decode cX11_echoAt 30 = .ok (.iload 5, 2) := by decide +kernel
theorem dX11_echoAt_32 : decode cX11_echoAt 32 = .ok (.aload_n 0, 1) := by decide +kernel
theorem dX11_echoAt_33 : decode cX11_echoAt 33 = .ok (.getfield 7, 3) := by decide +kernel
theorem dX11_echoAt_36 : decode cX11_echoAt 36 = .ok (.iconst 0, 1) := by decide +kernel
theorem dX11_echoAt_37 : decode cX11_echoAt 37 = .ok (.iaload, 1) := by decide +kernel
theorem dX11_echoAt_38 : decode cX11_echoAt 38 = .ok (.if_icmp .ge 43, 3) := by decide +kernel
theorem dX11_echoAt_41 : decode cX11_echoAt 41 = .ok (.iload 4, 2) := by decide +kernel
theorem dX11_echoAt_43 : decode cX11_echoAt 43 = .ok (.aload_n 0, 1) := by decide +kernel
theorem dX11_echoAt_44 : decode cX11_echoAt 44 = .ok (.iload_n 1, 1) := by decide +kernel
theorem dX11_echoAt_45 : decode cX11_echoAt 45 = .ok (.iload 5, 2) := by decide +kernel
theorem dX11_echoAt_47 : decode cX11_echoAt 47 = .ok (.invokevirtual 128, 3) := by decide +kernel
theorem dX11_echoAt_50 : decode cX11_echoAt 50 = .ok (.ifCond .eq 18, 3) := by decide +kernel
theorem dX11_echoAt_53 : decode cX11_echoAt 53 = .ok (.aload_n 0, 1) := by decide +kernel
theorem dX11_echoAt_54 : decode cX11_echoAt 54 = .ok (.iload_n 1, 1) := by decide +kernel
theorem dX11_echoAt_55 : decode cX11_echoAt 55 = .ok (.iload 5, 2) := by decide +kernel
theorem dX11_echoAt_57 : decode cX11_echoAt 57 = .ok (.iload_n 3, 1) := by decide +kernel
theorem dX11_echoAt_58 : decode cX11_echoAt 58 = .ok (.invokevirtual 135, 3) := by decide +kernel
theorem dX11_echoAt_61 : decode cX11_echoAt 61 = .ok (.ifCond .eq 7, 3) := by decide +kernel
theorem dX11_echoAt_64 : decode cX11_echoAt 64 = .ok (.iconst 1, 1) := by decide +kernel
theorem dX11_echoAt_65 : decode cX11_echoAt 65 = .ok (.goto 4, 3) := by decide +kernel
theorem dX11_echoAt_68 : decode cX11_echoAt 68 = .ok (.iconst 0, 1) := by decide +kernel
theorem dX11_echoAt_69 : decode cX11_echoAt 69 = .ok (.invokestatic 403, 3) := by decide +kernel
theorem dX11_echoAt_72 : decode cX11_echoAt 72 = .ok (.iadd, 1) := by decide +kernel
theorem dX11_echoAt_73 : decode cX11_echoAt 73 = .ok (.istore 4, 2) := by decide +kernel
theorem dX11_echoAt_75 : decode cX11_echoAt 75 = .ok (.iinc 5 1, 3) := by decide +kernel
theorem dX11_echoAt_78 : decode cX11_echoAt 78 = .ok (.goto (-48), 3) := by decide +kernel
theorem dX11_echoAt_81 : decode cX11_echoAt 81 = .ok (.iload 4, 2) := by decide +kernel
theorem dX11_echoAt_83 : decode cX11_echoAt 83 = .ok (.iload_n 2, 1) := by decide +kernel
theorem dX11_echoAt_84 : decode cX11_echoAt 84 = .ok (.if_icmp .ne 5, 3) := by decide +kernel
theorem dX11_echoAt_87 : decode cX11_echoAt 87 = .ok (.iload_n 3, 1) := by decide +kernel
theorem dX11_echoAt_88 : decode cX11_echoAt 88 = .ok (.ireturn, 1) := by decide +kernel
theorem dX11_echoAt_89 : decode cX11_echoAt 89 = .ok (.iinc 3 1, 3) := by decide +kernel
theorem dX11_echoAt_92 : decode cX11_echoAt 92 = .ok (.goto (-90), 3) := by decide +kernel
theorem dX11_echoAt_95 : decode cX11_echoAt 95 = .ok (.iconst (-1), 1) := by decide +kernel
theorem dX11_echoAt_96 : decode cX11_echoAt 96 = .ok (.ireturn, 1) := by decide +kernel
theorem dX11_preferredEcho_0 : decode cX11_preferredEcho 0 = .ok (.aload_n 0, 1) := by decide +kernel
theorem dX11_preferredEcho_1 : decode cX11_preferredEcho 1 = .ok (.aload_n 0, 1) := by decide +kernel
theorem dX11_preferredEcho_2 : decode cX11_preferredEcho 2 = .ok (.iload_n 1, 1) := by decide +kernel
theorem dX11_preferredEcho_3 : decode cX11_preferredEcho 3 = .ok (.invokevirtual 79, 3) := by decide +kernel
theorem dX11_preferredEcho_6 : decode cX11_preferredEcho 6 = .ok (.invokevirtual 210, 3) := by decide +kernel
theorem dX11_preferredEcho_9 : decode cX11_preferredEcho 9 = .ok (.ifCond .eq 12, 3) := by decide +kernel
theorem dX11_preferredEcho_12 : decode cX11_preferredEcho 12 = .ok (.aload_n 0, 1) := by decide +kernel
theorem dX11_preferredEcho_13 : decode cX11_preferredEcho 13 = .ok (.iload_n 1, 1) := by decide +kernel
theorem dX11_preferredEcho_14 : decode cX11_preferredEcho 14 = .ok (.iload_n 2, 1) := by decide +kernel
theorem dX11_preferredEcho_15 : decode cX11_preferredEcho 15 = .ok (.invokevirtual 409, 3) := by decide +kernel
theorem dX11_preferredEcho_18 : decode cX11_preferredEcho 18 = .ok (.goto 4, 3) := by decide +kernel
theorem dX11_preferredEcho_21 : decode cX11_preferredEcho 21 = .ok (.iconst 0, 1) := by decide +kernel
theorem dX11_preferredEcho_22 : decode cX11_preferredEcho 22 = .ok (.ireturn, 1) := by decide +kernel
theorem dX11_wouldLeave_0 : decode cX11_wouldLeave 0 = .ok (.aload_n 0, 1) := by decide +kernel
theorem dX11_wouldLeave_1 : decode cX11_wouldLeave 1 = .ok (.iload_n 1, 1) := by decide +kernel
theorem dX11_wouldLeave_2 : decode cX11_wouldLeave 2 = .ok (.invokevirtual 149, 3) := by decide +kernel
theorem dX11_wouldLeave_5 : decode cX11_wouldLeave 5 = .ok (.ifCond .ne 5, 3) := by decide +kernel
theorem dX11_wouldLeave_8 : decode cX11_wouldLeave 8 = .ok (.iconst 1, 1) := by decide +kernel
theorem dX11_wouldLeave_9 : decode cX11_wouldLeave 9 = .ok (.ireturn, 1) := by decide +kernel
theorem dX11_wouldLeave_10 : decode cX11_wouldLeave 10 = .ok (.aload_n 0, 1) := by decide +kernel
theorem dX11_wouldLeave_11 : decode cX11_wouldLeave 11 = .ok (.iload_n 1, 1) := by decide +kernel
theorem dX11_wouldLeave_12 : decode cX11_wouldLeave 12 = .ok (.invokevirtual 119, 3) := by decide +kernel
theorem dX11_wouldLeave_15 : decode cX11_wouldLeave 15 = .ok (.istore_n 3, 1) := by decide +kernel
theorem dX11_wouldLeave_16 : decode cX11_wouldLeave 16 = .ok (.aload_n 0, 1) := by decide +kernel
theorem dX11_wouldLeave_17 : decode cX11_wouldLeave 17 = .ok (.iload_n 3, 1) := by decide +kernel
theorem dX11_wouldLeave_18 : decode cX11_wouldLeave 18 = .ok (.iload_n 1, 1) := by decide +kernel
theorem dX11_wouldLeave_19 : decode cX11_wouldLeave 19 = .ok (.invokevirtual 128, 3) := by decide +kernel
theorem dX11_wouldLeave_22 : decode cX11_wouldLeave 22 = .ok (.ifCond .eq 12, 3) := by decide +kernel
theorem dX11_wouldLeave_25 : decode cX11_wouldLeave 25 = .ok (.aload_n 0, 1) := by decide +kernel
theorem dX11_wouldLeave_26 : decode cX11_wouldLeave 26 = .ok (.iload_n 2, 1) := by decide +kernel
theorem dX11_wouldLeave_27 : decode cX11_wouldLeave 27 = .ok (.iload_n 3, 1) := by decide +kernel
theorem dX11_wouldLeave_28 : decode cX11_wouldLeave 28 = .ok (.invokevirtual 132, 3) := by decide +kernel
theorem dX11_wouldLeave_31 : decode cX11_wouldLeave 31 = .ok (.ifCond .eq 7, 3) := by decide +kernel
theorem dX11_wouldLeave_34 : decode cX11_wouldLeave 34 = .ok (.iconst 1, 1) := by decide +kernel
theorem dX11_wouldLeave_35 : decode cX11_wouldLeave 35 = .ok (.goto 4, 3) := by decide +kernel
theorem dX11_wouldLeave_38 : decode cX11_wouldLeave 38 = .ok (.iconst 0, 1) := by decide +kernel
theorem dX11_wouldLeave_39 : decode cX11_wouldLeave 39 = .ok (.ireturn, 1) := by decide +kernel
theorem dX11_wouldTake_0 : decode cX11_wouldTake 0 = .ok (.aload_n 0, 1) := by decide +kernel
theorem dX11_wouldTake_1 : decode cX11_wouldTake 1 = .ok (.iload_n 1, 1) := by decide +kernel
theorem dX11_wouldTake_2 : decode cX11_wouldTake 2 = .ok (.invokevirtual 139, 3) := by decide +kernel
theorem dX11_wouldTake_5 : decode cX11_wouldTake 5 = .ok (.ifCond .le 5, 3) := by decide +kernel
theorem dX11_wouldTake_8 : decode cX11_wouldTake 8 = .ok (.iconst 1, 1) := by decide +kernel
theorem dX11_wouldTake_9 : decode cX11_wouldTake 9 = .ok (.ireturn, 1) := by decide +kernel
theorem dX11_wouldTake_10 : decode cX11_wouldTake 10 = .ok (.iconst 0, 1) := by decide +kernel
theorem dX11_wouldTake_11 : decode cX11_wouldTake 11 = .ok (.istore_n 3, 1) := by decide +kernel
theorem dX11_wouldTake_12 : decode cX11_wouldTake 12 = .ok (.iload_n 3, 1) := by decide +kernel
theorem dX11_wouldTake_13 : decode cX11_wouldTake 13 = .ok (.aload_n 0, 1) := by decide +kernel
theorem dX11_wouldTake_14 : decode cX11_wouldTake 14 = .ok (.iload_n 1, 1) := by decide +kernel
theorem dX11_wouldTake_15 : decode cX11_wouldTake 15 = .ok (.bipush 13, 2) := by decide +kernel
theorem dX11_wouldTake_17 : decode cX11_wouldTake 17 = .ok (.invokevirtual 90, 3) := by decide +kernel
theorem dX11_wouldTake_20 : decode cX11_wouldTake 20 = .ok (.if_icmp .ge 29, 3) := by decide +kernel
theorem dX11_wouldTake_23 : decode cX11_wouldTake 23 = .ok (.aload_n 0, 1) := by decide +kernel
theorem dX11_wouldTake_24 : decode cX11_wouldTake 24 = .ok (.iload_n 1, 1) := by decide +kernel
theorem dX11_wouldTake_25 : decode cX11_wouldTake 25 = .ok (.iload_n 2, 1) := by decide +kernel
theorem dX11_wouldTake_26 : decode cX11_wouldTake 26 = .ok (.aload_n 0, 1) := by decide +kernel
theorem dX11_wouldTake_27 : decode cX11_wouldTake 27 = .ok (.iload_n 1, 1) := by decide +kernel
theorem dX11_wouldTake_28 : decode cX11_wouldTake 28 = .ok (.bipush 14, 2) := by decide +kernel
theorem dX11_wouldTake_30 : decode cX11_wouldTake 30 = .ok (.iload_n 3, 1) := by decide +kernel
theorem dX11_wouldTake_31 : decode cX11_wouldTake 31 = .ok (.iadd, 1) := by decide +kernel
theorem dX11_wouldTake_32 : decode cX11_wouldTake 32 = .ok (.invokevirtual 90, 3) := by decide +kernel
theorem dX11_wouldTake_35 : decode cX11_wouldTake 35 = .ok (.invokevirtual 135, 3) := by decide +kernel
theorem dX11_wouldTake_38 : decode cX11_wouldTake 38 = .ok (.ifCond .eq 5, 3) := by decide +kernel
theorem dX11_wouldTake_41 : decode cX11_wouldTake 41 = .ok (.iconst 1, 1) := by decide +kernel
theorem dX11_wouldTake_42 : decode cX11_wouldTake 42 = .ok (.ireturn, 1) := by decide +kernel
theorem dX11_wouldTake_43 : decode cX11_wouldTake 43 = .ok (.iinc 3 1, 3) := by decide +kernel
theorem dX11_wouldTake_46 : decode cX11_wouldTake 46 = .ok (.goto (-34), 3) := by decide +kernel
theorem dX11_wouldTake_49 : decode cX11_wouldTake 49 = .ok (.iconst 0, 1) := by decide +kernel
theorem dX11_wouldTake_50 : decode cX11_wouldTake 50 = .ok (.ireturn, 1) := by decide +kernel
theorem dX11_isBlocking_0 : decode cX11_isBlocking 0 = .ok (.aload_n 0, 1) := by decide +kernel
theorem dX11_isBlocking_1 : decode cX11_isBlocking 1 = .ok (.iload_n 2, 1) := by decide +kernel
theorem dX11_isBlocking_2 : decode cX11_isBlocking 2 = .ok (.invokevirtual 119, 3) := by decide +kernel
theorem dX11_isBlocking_5 : decode cX11_isBlocking 5 = .ok (.iload_n 1, 1) := by decide +kernel
theorem dX11_isBlocking_6 : decode cX11_isBlocking 6 = .ok (.if_icmp .eq 34, 3) := by decide +kernel
theorem dX11_isBlocking_9 : decode cX11_isBlocking 9 = .ok (.aload_n 0, 1) := by decide +kernel
theorem dX11_isBlocking_10 : decode cX11_isBlocking 10 = .ok (.iload_n 1, 1) := by decide +kernel
theorem dX11_isBlocking_11 : decode cX11_isBlocking 11 = .ok (.iload_n 2, 1) := by decide +kernel
theorem dX11_isBlocking_12 : decode cX11_isBlocking 12 = .ok (.invokevirtual 128, 3) := by decide +kernel
theorem dX11_isBlocking_15 : decode cX11_isBlocking 15 = .ok (.ifCond .eq 25, 3) := by decide +kernel
theorem dX11_isBlocking_18 : decode cX11_isBlocking 18 = .ok (.aload_n 0, 1) := by decide +kernel
theorem dX11_isBlocking_19 : decode cX11_isBlocking 19 = .ok (.iload_n 2, 1) := by decide +kernel
theorem dX11_isBlocking_20 : decode cX11_isBlocking 20 = .ok (.iload_n 1, 1) := by decide +kernel
theorem dX11_isBlocking_21 : decode cX11_isBlocking 21 = .ok (.invokevirtual 412, 3) := by decide +kernel
theorem dX11_isBlocking_24 : decode cX11_isBlocking 24 = .ok (.ifCond .eq 16, 3) := by decide +kernel
theorem dX11_isBlocking_27 : decode cX11_isBlocking 27 = .ok (.aload_n 0, 1) := by decide +kernel
theorem dX11_isBlocking_28 : decode cX11_isBlocking 28 = .ok (.iload_n 1, 1) := by decide +kernel
theorem dX11_isBlocking_29 : decode cX11_isBlocking 29 = .ok (.iload_n 2, 1) := by decide +kernel
theorem dX11_isBlocking_30 : decode cX11_isBlocking 30 = .ok (.invokevirtual 415, 3) := by decide +kernel
theorem dX11_isBlocking_33 : decode cX11_isBlocking 33 = .ok (.ifCond .eq 7, 3) := by decide +kernel
theorem dX11_isBlocking_36 : decode cX11_isBlocking 36 = .ok (.iconst 1, 1) := by decide +kernel
theorem dX11_isBlocking_37 : decode cX11_isBlocking 37 = .ok (.goto 4, 3) := by decide +kernel
theorem dX11_isBlocking_40 : decode cX11_isBlocking 40 = .ok (.iconst 0, 1) := by decide +kernel
theorem dX11_isBlocking_41 : decode cX11_isBlocking 41 = .ok (.ireturn, 1) := by decide +kernel
theorem dX11_blockingPairs_0 : decode cX11_blockingPairs 0 = .ok (.aload_n 0, 1) := by decide +kernel
theorem dX11_blockingPairs_1 : decode cX11_blockingPairs 1 = .ok (.iconst 0, 1) := by decide +kernel
theorem dX11_blockingPairs_2 : decode cX11_blockingPairs 2 = .ok (.putfield 68, 3) := by decide +kernel
theorem dX11_blockingPairs_5 : decode cX11_blockingPairs 5 = .ok (.iconst 0, 1) := by decide +kernel
theorem dX11_blockingPairs_6 : decode cX11_blockingPairs 6 = .ok (.istore_n 1, 1) := by decide +kernel
theorem dX11_blockingPairs_7 : decode cX11_blockingPairs 7 = .ok (.iconst 0, 1) := by decide +kernel
theorem dX11_blockingPairs_8 : decode cX11_blockingPairs 8 = .ok (.istore_n 2, 1) := by decide +kernel
theorem dX11_blockingPairs_9 : decode cX11_blockingPairs 9 = .ok (.iload_n 2, 1) := by decide +kernel
theorem dX11_blockingPairs_10 : decode cX11_blockingPairs 10 = .ok (.aload_n 0, 1) := by decide +kernel
theorem dX11_blockingPairs_11 : decode cX11_blockingPairs 11 = .ok (.getfield 7, 3) := by decide +kernel
theorem dX11_blockingPairs_14 : decode cX11_blockingPairs 14 = .ok (.iconst 1, 1) := by decide +kernel
theorem dX11_blockingPairs_15 : decode cX11_blockingPairs 15 = .ok (.iaload, 1) := by decide +kernel
theorem dX11_blockingPairs_16 : decode cX11_blockingPairs 16 = .ok (.if_icmp .ge 39, 3) := by decide +kernel
theorem dX11_blockingPairs_19 : decode cX11_blockingPairs 19 = .ok (.iconst 0, 1) := by decide +kernel
theorem dX11_blockingPairs_20 : decode cX11_blockingPairs 20 = .ok (.istore_n 3, 1) := by decide +kernel
theorem dX11_blockingPairs_21 : decode cX11_blockingPairs 21 = .ok (.iload_n 3, 1) := by decide +kernel
theorem dX11_blockingPairs_22 : decode cX11_blockingPairs 22 = .ok (.aload_n 0, 1) := by decide +kernel
theorem dX11_blockingPairs_23 : decode cX11_blockingPairs 23 = .ok (.getfield 7, 3) := by decide +kernel
theorem dX11_blockingPairs_26 : decode cX11_blockingPairs 26 = .ok (.iconst 0, 1) := by decide +kernel
theorem dX11_blockingPairs_27 : decode cX11_blockingPairs 27 = .ok (.iaload, 1) := by decide +kernel
theorem dX11_blockingPairs_28 : decode cX11_blockingPairs 28 = .ok (.if_icmp .ge 21, 3) := by decide +kernel
theorem dX11_blockingPairs_31 : decode cX11_blockingPairs 31 = .ok (.iload_n 1, 1) := by decide +kernel
theorem dX11_blockingPairs_32 : decode cX11_blockingPairs 32 = .ok (.aload_n 0, 1) := by decide +kernel
theorem dX11_blockingPairs_33 : decode cX11_blockingPairs 33 = .ok (.iload_n 2, 1) := by decide +kernel
theorem dX11_blockingPairs_34 : decode cX11_blockingPairs 34 = .ok (.iload_n 3, 1) := by decide +kernel
theorem dX11_blockingPairs_35 : decode cX11_blockingPairs 35 = .ok (.invokevirtual 418, 3) := by decide +kernel
theorem dX11_blockingPairs_38 : decode cX11_blockingPairs 38 = .ok (.invokestatic 403, 3) := by decide +kernel
theorem dX11_blockingPairs_41 : decode cX11_blockingPairs 41 = .ok (.iadd, 1) := by decide +kernel
theorem dX11_blockingPairs_42 : decode cX11_blockingPairs 42 = .ok (.istore_n 1, 1) := by decide +kernel
theorem dX11_blockingPairs_43 : decode cX11_blockingPairs 43 = .ok (.iinc 3 1, 3) := by decide +kernel
theorem dX11_blockingPairs_46 : decode cX11_blockingPairs 46 = .ok (.goto (-25), 3) := by decide +kernel
theorem dX11_blockingPairs_49 : decode cX11_blockingPairs 49 = .ok (.iinc 2 1, 3) := by decide +kernel
theorem dX11_blockingPairs_52 : decode cX11_blockingPairs 52 = .ok (.goto (-43), 3) := by decide +kernel
theorem dX11_blockingPairs_55 : decode cX11_blockingPairs 55 = .ok (.iload_n 1, 1) := by decide +kernel
theorem dX11_blockingPairs_56 : decode cX11_blockingPairs 56 = .ok (.ireturn, 1) := by decide +kernel
theorem dX11_resultOf_0 : decode cX11_resultOf 0 = .ok (.aload_n 0, 1) := by decide +kernel
theorem dX11_resultOf_1 : decode cX11_resultOf 1 = .ok (.invokevirtual 421, 3) := by decide +kernel
theorem dX11_resultOf_4 : decode cX11_resultOf 4 = .ok (.aload_n 0, 1) := by decide +kernel
theorem dX11_resultOf_5 : decode cX11_resultOf 5 = .ok (.invokevirtual 174, 3) := by decide +kernel
theorem dX11_resultOf_8 : decode cX11_resultOf 8 = .ok (.aload_n 0, 1) := by decide +kernel
theorem dX11_resultOf_9 : decode cX11_resultOf 9 = .ok (.aload_n 0, 1) := by decide +kernel
theorem dX11_resultOf_10 : decode cX11_resultOf 10 = .ok (.iload_n 1, 1) := by decide +kernel
theorem dX11_resultOf_11 : decode cX11_resultOf 11 = .ok (.invokevirtual 119, 3) := by decide +kernel
theorem dX11_resultOf_14 : decode cX11_resultOf 14 = .ok (.invokevirtual 424, 3) := by decide +kernel
theorem dX11_resultOf_17 : decode cX11_resultOf 17 = .ok (.ireturn, 1) := by decide +kernel
theorem dX11_fairResult_0 : decode cX11_fairResult 0 = .ok (.aload_n 0, 1) := by decide +kernel
theorem dX11_fairResult_1 : decode cX11_fairResult 1 = .ok (.aload_n 0, 1) := by decide +kernel
theorem dX11_fairResult_2 : decode cX11_fairResult 2 = .ok (.iload_n 1, 1) := by decide +kernel
theorem dX11_fairResult_3 : decode cX11_fairResult 3 = .ok (.invokevirtual 83, 3) := by decide +kernel
theorem dX11_fairResult_6 : decode cX11_fairResult 6 = .ok (.invokevirtual 210, 3) := by decide +kernel
theorem dX11_fairResult_9 : decode cX11_fairResult 9 = .ok (.ifCond .eq 11, 3) := by decide +kernel
theorem dX11_fairResult_12 : decode cX11_fairResult 12 = .ok (.aload_n 0, 1) := by decide +kernel
theorem dX11_fairResult_13 : decode cX11_fairResult 13 = .ok (.iload_n 1, 1) := by decide +kernel
theorem dX11_fairResult_14 : decode cX11_fairResult 14 = .ok (.invokevirtual 427, 3) := by decide +kernel
theorem dX11_fairResult_17 : decode cX11_fairResult 17 = .ok (.goto 4, 3) := by decide +kernel
theorem dX11_fairResult_20 : decode cX11_fairResult 20 = .ok (.iconst 0, 1) := by decide +kernel
theorem dX11_fairResult_21 : decode cX11_fairResult 21 = .ok (.ireturn, 1) := by decide +kernel
theorem dX11_areDays_0 : decode cX11_areDays 0 = .ok (.iload_n 0, 1) := by decide +kernel
theorem dX11_areDays_1 : decode cX11_areDays 1 = .ok (.i2l, 1) := by decide +kernel
theorem dX11_areDays_2 : decode cX11_areDays 2 = .ok (.lconst 0, 1) := by decide +kernel
theorem dX11_areDays_3 : decode cX11_areDays 3 = .ok (.ldc2_w 430, 3) := by decide +kernel
theorem dX11_areDays_6 : decode cX11_areDays 6 = .ok (.invokestatic 75, 3) := by decide +kernel
theorem dX11_areDays_9 : decode cX11_areDays 9 = .ok (.ireturn, 1) := by decide +kernel
theorem dX11_savingsAfter_0 : decode cX11_savingsAfter 0 = .ok (.aload_n 0, 1) := by decide +kernel
theorem dX11_savingsAfter_1 : decode cX11_savingsAfter 1 = .ok (.aload_n 0, 1) := by decide +kernel
theorem dX11_savingsAfter_2 : decode cX11_savingsAfter 2 = .ok (.iload_n 1, 1) := by decide +kernel
theorem dX11_savingsAfter_3 : decode cX11_savingsAfter 3 = .ok (.invokevirtual 83, 3) := by decide +kernel
theorem dX11_savingsAfter_6 : decode cX11_savingsAfter 6 = .ok (.iload_n 2, 1) := by decide +kernel
theorem dX11_savingsAfter_7 : decode cX11_savingsAfter 7 = .ok (.invokestatic 432, 3) := by decide +kernel
theorem dX11_savingsAfter_10 : decode cX11_savingsAfter 10 = .ok (.invokevirtual 435, 3) := by decide +kernel
theorem dX11_savingsAfter_13 : decode cX11_savingsAfter 13 = .ok (.ifCond .ne 5, 3) := by decide +kernel
theorem dX11_savingsAfter_16 : decode cX11_savingsAfter 16 = .ok (.iconst 0, 1) := by decide +kernel
theorem dX11_savingsAfter_17 : decode cX11_savingsAfter 17 = .ok (.ireturn, 1) := by decide +kernel
theorem dX11_savingsAfter_18 : decode cX11_savingsAfter 18 = .ok (.aload_n 0, 1) := by decide +kernel
theorem dX11_savingsAfter_19 : decode cX11_savingsAfter 19 = .ok (.invokevirtual 421, 3) := by decide +kernel
theorem dX11_savingsAfter_22 : decode cX11_savingsAfter 22 = .ok (.aload_n 0, 1) := by decide +kernel
theorem dX11_savingsAfter_23 : decode cX11_savingsAfter 23 = .ok (.iload_n 2, 1) := by decide +kernel
theorem dX11_savingsAfter_24 : decode cX11_savingsAfter 24 = .ok (.invokevirtual 198, 3) := by decide +kernel
theorem dX11_savingsAfter_27 : decode cX11_savingsAfter 27 = .ok (.aload_n 0, 1) := by decide +kernel
theorem dX11_savingsAfter_28 : decode cX11_savingsAfter 28 = .ok (.aload_n 0, 1) := by decide +kernel
theorem dX11_savingsAfter_29 : decode cX11_savingsAfter 29 = .ok (.iload_n 1, 1) := by decide +kernel
theorem dX11_savingsAfter_30 : decode cX11_savingsAfter 30 = .ok (.bipush 11, 2) := by decide +kernel
theorem dX11_savingsAfter_32 : decode cX11_savingsAfter 32 = .ok (.invokevirtual 86, 3) := by decide +kernel
theorem dX11_savingsAfter_35 : decode cX11_savingsAfter 35 = .ok (.invokevirtual 424, 3) := by decide +kernel
theorem dX11_savingsAfter_38 : decode cX11_savingsAfter 38 = .ok (.ireturn, 1) := by decide +kernel
theorem dX11_purseAfter_0 : decode cX11_purseAfter 0 = .ok (.aload_n 0, 1) := by decide +kernel
theorem dX11_purseAfter_1 : decode cX11_purseAfter 1 = .ok (.aload_n 0, 1) := by decide +kernel
theorem dX11_purseAfter_2 : decode cX11_purseAfter 2 = .ok (.iload_n 1, 1) := by decide +kernel
theorem dX11_purseAfter_3 : decode cX11_purseAfter 3 = .ok (.invokevirtual 79, 3) := by decide +kernel
theorem dX11_purseAfter_6 : decode cX11_purseAfter 6 = .ok (.iload_n 2, 1) := by decide +kernel
theorem dX11_purseAfter_7 : decode cX11_purseAfter 7 = .ok (.invokestatic 432, 3) := by decide +kernel
theorem dX11_purseAfter_10 : decode cX11_purseAfter 10 = .ok (.invokevirtual 435, 3) := by decide +kernel
theorem dX11_purseAfter_13 : decode cX11_purseAfter 13 = .ok (.ifCond .ne 5, 3) := by decide +kernel
theorem dX11_purseAfter_16 : decode cX11_purseAfter 16 = .ok (.iconst 0, 1) := by decide +kernel
theorem dX11_purseAfter_17 : decode cX11_purseAfter 17 = .ok (.ireturn, 1) := by decide +kernel
theorem dX11_purseAfter_18 : decode cX11_purseAfter 18 = .ok (.aload_n 0, 1) := by decide +kernel
theorem dX11_purseAfter_19 : decode cX11_purseAfter 19 = .ok (.invokevirtual 421, 3) := by decide +kernel
theorem dX11_purseAfter_22 : decode cX11_purseAfter 22 = .ok (.aload_n 0, 1) := by decide +kernel
theorem dX11_purseAfter_23 : decode cX11_purseAfter 23 = .ok (.iload_n 2, 1) := by decide +kernel
theorem dX11_purseAfter_24 : decode cX11_purseAfter 24 = .ok (.invokevirtual 198, 3) := by decide +kernel
theorem dX11_purseAfter_27 : decode cX11_purseAfter 27 = .ok (.aload_n 0, 1) := by decide +kernel
theorem dX11_purseAfter_28 : decode cX11_purseAfter 28 = .ok (.aload_n 0, 1) := by decide +kernel
theorem dX11_purseAfter_29 : decode cX11_purseAfter 29 = .ok (.iload_n 1, 1) := by decide +kernel
theorem dX11_purseAfter_30 : decode cX11_purseAfter 30 = .ok (.bipush 10, 2) := by decide +kernel
theorem dX11_purseAfter_32 : decode cX11_purseAfter 32 = .ok (.invokevirtual 90, 3) := by decide +kernel
theorem dX11_purseAfter_35 : decode cX11_purseAfter 35 = .ok (.invokevirtual 424, 3) := by decide +kernel
theorem dX11_purseAfter_38 : decode cX11_purseAfter 38 = .ok (.ireturn, 1) := by decide +kernel
theorem dX11_desertsIn_0 : decode cX11_desertsIn 0 = .ok (.aload_n 0, 1) := by decide +kernel
theorem dX11_desertsIn_1 : decode cX11_desertsIn 1 = .ok (.aload_n 0, 1) := by decide +kernel
theorem dX11_desertsIn_2 : decode cX11_desertsIn 2 = .ok (.iload_n 1, 1) := by decide +kernel
theorem dX11_desertsIn_3 : decode cX11_desertsIn 3 = .ok (.invokevirtual 83, 3) := by decide +kernel
theorem dX11_desertsIn_6 : decode cX11_desertsIn 6 = .ok (.invokevirtual 210, 3) := by decide +kernel
theorem dX11_desertsIn_9 : decode cX11_desertsIn 9 = .ok (.ifCond .ne 5, 3) := by decide +kernel
theorem dX11_desertsIn_12 : decode cX11_desertsIn 12 = .ok (.iconst 0, 1) := by decide +kernel
theorem dX11_desertsIn_13 : decode cX11_desertsIn 13 = .ok (.ireturn, 1) := by decide +kernel
theorem dX11_desertsIn_14 : decode cX11_desertsIn 14 = .ok (.aload_n 0, 1) := by decide +kernel
theorem dX11_desertsIn_15 : decode cX11_desertsIn 15 = .ok (.iload_n 1, 1) := by decide +kernel
theorem dX11_desertsIn_16 : decode cX11_desertsIn 16 = .ok (.bipush 14, 2) := by decide +kernel
theorem dX11_desertsIn_18 : decode cX11_desertsIn 18 = .ok (.invokevirtual 86, 3) := by decide +kernel
theorem dX11_desertsIn_21 : decode cX11_desertsIn 21 = .ok (.istore_n 2, 1) := by decide +kernel
theorem dX11_desertsIn_22 : decode cX11_desertsIn 22 = .ok (.aload_n 0, 1) := by decide +kernel
theorem dX11_desertsIn_23 : decode cX11_desertsIn 23 = .ok (.invokevirtual 421, 3) := by decide +kernel
theorem dX11_desertsIn_26 : decode cX11_desertsIn 26 = .ok (.iconst 1, 1) := by decide +kernel
theorem dX11_desertsIn_27 : decode cX11_desertsIn 27 = .ok (.istore_n 3, 1) := by decide +kernel
theorem dX11_desertsIn_28 : decode cX11_desertsIn 28 = .ok (.iload_n 3, 1) := by decide +kernel
theorem dX11_desertsIn_29 : decode cX11_desertsIn 29 = .ok (.bipush 120, 2) := by decide +kernel
theorem dX11_desertsIn_31 : decode cX11_desertsIn 31 = .ok (.if_icmp .gt 30, 3) := by decide +kernel
theorem dX11_desertsIn_34 : decode cX11_desertsIn 34 = .ok (.aload_n 0, 1) := by decide +kernel
theorem dX11_desertsIn_35 : decode cX11_desertsIn 35 = .ok (.invokevirtual 192, 3) := by decide +kernel
theorem dX11_desertsIn_38 : decode cX11_desertsIn 38 = .ok (.aload_n 0, 1) := by decide +kernel
theorem dX11_desertsIn_39 : decode cX11_desertsIn 39 = .ok (.iload_n 1, 1) := by decide +kernel
theorem dX11_desertsIn_40 : decode cX11_desertsIn 40 = .ok (.bipush 14, 2) := by decide +kernel
theorem dX11_desertsIn_42 : decode cX11_desertsIn 42 = .ok (.invokevirtual 86, 3) := by decide +kernel
theorem dX11_desertsIn_45 : decode cX11_desertsIn 45 = .ok (.iload_n 2, 1) := by decide +kernel
theorem dX11_desertsIn_46 : decode cX11_desertsIn 46 = .ok (.if_icmp .le 9, 3) := by decide +kernel
theorem dX11_desertsIn_49 : decode cX11_desertsIn 49 = .ok (.aload_n 0, 1) := by decide +kernel
theorem dX11_desertsIn_50 : decode cX11_desertsIn 50 = .ok (.iload_n 3, 1) := by decide +kernel
theorem dX11_desertsIn_51 : decode cX11_desertsIn 51 = .ok (.invokevirtual 424, 3) := by decide +kernel
theorem dX11_desertsIn_54 : decode cX11_desertsIn 54 = .ok (.ireturn, 1) := by decide +kernel
theorem dX11_desertsIn_55 : decode cX11_desertsIn 55 = .ok (.iinc 3 1, 3) := by decide +kernel
theorem dX11_desertsIn_58 : decode cX11_desertsIn 58 = .ok (.goto (-30), 3) := by decide +kernel
theorem dX11_desertsIn_61 : decode cX11_desertsIn 61 = .ok (.aload_n 0, 1) := by decide +kernel
theorem dX11_desertsIn_62 : decode cX11_desertsIn 62 = .ok (.iconst (-1), 1) := by decide +kernel
theorem dX11_desertsIn_63 : decode cX11_desertsIn 63 = .ok (.invokevirtual 424, 3) := by decide +kernel
theorem dX11_desertsIn_66 : decode cX11_desertsIn 66 = .ok (.ireturn, 1) := by decide +kernel
theorem dX11_leastWage_0 : decode cX11_leastWage 0 = .ok (.aload_n 0, 1) := by decide +kernel
theorem dX11_leastWage_1 : decode cX11_leastWage 1 = .ok (.aload_n 0, 1) := by decide +kernel
theorem dX11_leastWage_2 : decode cX11_leastWage 2 = .ok (.iload_n 1, 1) := by decide +kernel
theorem dX11_leastWage_3 : decode cX11_leastWage 3 = .ok (.iload_n 2, 1) := by decide +kernel
theorem dX11_leastWage_4 : decode cX11_leastWage 4 = .ok (.invokevirtual 400, 3) := by decide +kernel
theorem dX11_leastWage_7 : decode cX11_leastWage 7 = .ok (.invokevirtual 210, 3) := by decide +kernel
theorem dX11_leastWage_10 : decode cX11_leastWage 10 = .ok (.ifCond .ne 5, 3) := by decide +kernel
theorem dX11_leastWage_13 : decode cX11_leastWage 13 = .ok (.iconst 0, 1) := by decide +kernel
theorem dX11_leastWage_14 : decode cX11_leastWage 14 = .ok (.ireturn, 1) := by decide +kernel
theorem dX11_leastWage_15 : decode cX11_leastWage 15 = .ok (.aload_n 0, 1) := by decide +kernel
theorem dX11_leastWage_16 : decode cX11_leastWage 16 = .ok (.iload_n 1, 1) := by decide +kernel
theorem dX11_leastWage_17 : decode cX11_leastWage 17 = .ok (.bipush 9, 2) := by decide +kernel
theorem dX11_leastWage_19 : decode cX11_leastWage 19 = .ok (.invokevirtual 90, 3) := by decide +kernel
theorem dX11_leastWage_22 : decode cX11_leastWage 22 = .ok (.istore_n 3, 1) := by decide +kernel
theorem dX11_leastWage_23 : decode cX11_leastWage 23 = .ok (.iconst (-1), 1) := by decide +kernel
theorem dX11_leastWage_24 : decode cX11_leastWage 24 = .ok (.istore 4, 2) := by decide +kernel
theorem dX11_leastWage_26 : decode cX11_leastWage 26 = .ok (.iconst 1, 1) := by decide +kernel
theorem dX11_leastWage_27 : decode cX11_leastWage 27 = .ok (.istore 5, 2) := by decide +kernel
theorem dX11_leastWage_29 : decode cX11_leastWage 29 = .ok (.iload 5, 2) := by decide +kernel
theorem dX11_leastWage_31 : decode cX11_leastWage 31 = .ok (.bipush 99, 2) := by decide +kernel
theorem dX11_leastWage_33 : decode cX11_leastWage 33 = .ok (.if_icmp .gt 41, 3) := by decide +kernel
theorem dX11_leastWage_36 : decode cX11_leastWage 36 = .ok (.iload 4, 2) := by decide +kernel
theorem dX11_leastWage_38 : decode cX11_leastWage 38 = .ok (.iconst (-1), 1) := by decide +kernel
theorem dX11_leastWage_39 : decode cX11_leastWage 39 = .ok (.if_icmp .ne 35, 3) := by decide +kernel
theorem dX11_leastWage_42 : decode cX11_leastWage 42 = .ok (.aload_n 0, 1) := by decide +kernel
theorem dX11_leastWage_43 : decode cX11_leastWage 43 = .ok (.iload_n 1, 1) := by decide +kernel
theorem dX11_leastWage_44 : decode cX11_leastWage 44 = .ok (.bipush 9, 2) := by decide +kernel
theorem dX11_leastWage_46 : decode cX11_leastWage 46 = .ok (.iload 5, 2) := by decide +kernel
theorem dX11_leastWage_48 : decode cX11_leastWage 48 = .ok (.invokevirtual 112, 3) := by decide +kernel
theorem dX11_leastWage_51 : decode cX11_leastWage 51 = .ok (.aload_n 0, 1) := by decide +kernel
theorem dX11_leastWage_52 : decode cX11_leastWage 52 = .ok (.iload_n 2, 1) := by decide +kernel
theorem dX11_leastWage_53 : decode cX11_leastWage 53 = .ok (.invokevirtual 427, 3) := by decide +kernel
theorem dX11_leastWage_56 : decode cX11_leastWage 56 = .ok (.iload_n 1, 1) := by decide +kernel
theorem dX11_leastWage_57 : decode cX11_leastWage 57 = .ok (.if_icmp .ne 8, 3) := by decide +kernel
theorem dX11_leastWage_60 : decode cX11_leastWage 60 = .ok (.iload 5, 2) := by decide +kernel
theorem dX11_leastWage_62 : decode cX11_leastWage 62 = .ok (.goto 4, 3) := by decide +kernel
theorem dX11_leastWage_65 : decode cX11_leastWage 65 = .ok (.iconst (-1), 1) := by decide +kernel
theorem dX11_leastWage_66 : decode cX11_leastWage 66 = .ok (.istore 4, 2) := by decide +kernel
theorem dX11_leastWage_68 : decode cX11_leastWage 68 = .ok (.iinc 5 1, 3) := by decide +kernel
theorem dX11_leastWage_71 : decode cX11_leastWage 71 = .ok (.goto (-42), 3) := by decide +kernel
theorem dX11_leastWage_74 : decode cX11_leastWage 74 = .ok (.aload_n 0, 1) := by decide +kernel
theorem dX11_leastWage_75 : decode cX11_leastWage 75 = .ok (.iload_n 1, 1) := by decide +kernel
theorem dX11_leastWage_76 : decode cX11_leastWage 76 = .ok (.bipush 9, 2) := by decide +kernel
theorem dX11_leastWage_78 : decode cX11_leastWage 78 = .ok (.iload_n 3, 1) := by decide +kernel
theorem dX11_leastWage_79 : decode cX11_leastWage 79 = .ok (.invokevirtual 112, 3) := by decide +kernel
theorem dX11_leastWage_82 : decode cX11_leastWage 82 = .ok (.iload 4, 2) := by decide +kernel
theorem dX11_leastWage_84 : decode cX11_leastWage 84 = .ok (.ireturn, 1) := by decide +kernel
theorem dX11_bestTest_0 : decode cX11_bestTest 0 = .ok (.aload_n 0, 1) := by decide +kernel
theorem dX11_bestTest_1 : decode cX11_bestTest 1 = .ok (.aload_n 0, 1) := by decide +kernel
theorem dX11_bestTest_2 : decode cX11_bestTest 2 = .ok (.iload_n 1, 1) := by decide +kernel
theorem dX11_bestTest_3 : decode cX11_bestTest 3 = .ok (.invokevirtual 79, 3) := by decide +kernel
theorem dX11_bestTest_6 : decode cX11_bestTest 6 = .ok (.invokevirtual 210, 3) := by decide +kernel
theorem dX11_bestTest_9 : decode cX11_bestTest 9 = .ok (.ifCond .ne 5, 3) := by decide +kernel
theorem dX11_bestTest_12 : decode cX11_bestTest 12 = .ok (.iconst 0, 1) := by decide +kernel
theorem dX11_bestTest_13 : decode cX11_bestTest 13 = .ok (.ireturn, 1) := by decide +kernel
theorem dX11_bestTest_14 : decode cX11_bestTest 14 = .ok (.iconst (-1), 1) := by decide +kernel
theorem dX11_bestTest_15 : decode cX11_bestTest 15 = .ok (.istore_n 2, 1) := by decide +kernel
theorem dX11_bestTest_16 : decode cX11_bestTest 16 = .ok (.iconst 0, 1) := by decide +kernel
theorem dX11_bestTest_17 : decode cX11_bestTest 17 = .ok (.istore_n 3, 1) := by decide +kernel
theorem dX11_bestTest_18 : decode cX11_bestTest 18 = .ok (.iload_n 3, 1) := by decide +kernel
theorem dX11_bestTest_19 : decode cX11_bestTest 19 = .ok (.aload_n 0, 1) := by decide +kernel
theorem dX11_bestTest_20 : decode cX11_bestTest 20 = .ok (.getfield 7, 3) := by decide +kernel
theorem dX11_bestTest_23 : decode cX11_bestTest 23 = .ok (.iconst 0, 1) := by decide +kernel
theorem dX11_bestTest_24 : decode cX11_bestTest 24 = .ok (.iaload, 1) := by decide +kernel
theorem dX11_bestTest_25 : decode cX11_bestTest 25 = .ok (.if_icmp .ge 40, 3) := by decide +kernel
theorem dX11_bestTest_28 : decode cX11_bestTest 28 = .ok (.aload_n 0, 1) := by decide +kernel
theorem dX11_bestTest_29 : decode cX11_bestTest 29 = .ok (.iload_n 1, 1) := by decide +kernel
theorem dX11_bestTest_30 : decode cX11_bestTest 30 = .ok (.iload_n 3, 1) := by decide +kernel
theorem dX11_bestTest_31 : decode cX11_bestTest 31 = .ok (.invokevirtual 204, 3) := by decide +kernel
theorem dX11_bestTest_34 : decode cX11_bestTest 34 = .ok (.ifCond .eq 25, 3) := by decide +kernel
theorem dX11_bestTest_37 : decode cX11_bestTest 37 = .ok (.iload_n 2, 1) := by decide +kernel
theorem dX11_bestTest_38 : decode cX11_bestTest 38 = .ok (.iconst (-1), 1) := by decide +kernel
theorem dX11_bestTest_39 : decode cX11_bestTest 39 = .ok (.if_icmp .eq 18, 3) := by decide +kernel
theorem dX11_bestTest_42 : decode cX11_bestTest 42 = .ok (.aload_n 0, 1) := by decide +kernel
theorem dX11_bestTest_43 : decode cX11_bestTest 43 = .ok (.iload_n 1, 1) := by decide +kernel
theorem dX11_bestTest_44 : decode cX11_bestTest 44 = .ok (.iload_n 3, 1) := by decide +kernel
theorem dX11_bestTest_45 : decode cX11_bestTest 45 = .ok (.invokevirtual 103, 3) := by decide +kernel
theorem dX11_bestTest_48 : decode cX11_bestTest 48 = .ok (.aload_n 0, 1) := by decide +kernel
theorem dX11_bestTest_49 : decode cX11_bestTest 49 = .ok (.iload_n 1, 1) := by decide +kernel
theorem dX11_bestTest_50 : decode cX11_bestTest 50 = .ok (.iload_n 2, 1) := by decide +kernel
theorem dX11_bestTest_51 : decode cX11_bestTest 51 = .ok (.invokevirtual 103, 3) := by decide +kernel
theorem dX11_bestTest_54 : decode cX11_bestTest 54 = .ok (.if_icmp .le 5, 3) := by decide +kernel
theorem dX11_bestTest_57 : decode cX11_bestTest 57 = .ok (.iload_n 3, 1) := by decide +kernel
theorem dX11_bestTest_58 : decode cX11_bestTest 58 = .ok (.istore_n 2, 1) := by decide +kernel
theorem dX11_bestTest_59 : decode cX11_bestTest 59 = .ok (.iinc 3 1, 3) := by decide +kernel
theorem dX11_bestTest_62 : decode cX11_bestTest 62 = .ok (.goto (-44), 3) := by decide +kernel
theorem dX11_bestTest_65 : decode cX11_bestTest 65 = .ok (.iload_n 2, 1) := by decide +kernel
theorem dX11_bestTest_66 : decode cX11_bestTest 66 = .ok (.ireturn, 1) := by decide +kernel
theorem dX11_richestEcho_0 : decode cX11_richestEcho 0 = .ok (.aload_n 0, 1) := by decide +kernel
theorem dX11_richestEcho_1 : decode cX11_richestEcho 1 = .ok (.iconst 0, 1) := by decide +kernel
theorem dX11_richestEcho_2 : decode cX11_richestEcho 2 = .ok (.putfield 68, 3) := by decide +kernel
theorem dX11_richestEcho_5 : decode cX11_richestEcho 5 = .ok (.iconst 0, 1) := by decide +kernel
theorem dX11_richestEcho_6 : decode cX11_richestEcho 6 = .ok (.istore_n 1, 1) := by decide +kernel
theorem dX11_richestEcho_7 : decode cX11_richestEcho 7 = .ok (.iconst 1, 1) := by decide +kernel
theorem dX11_richestEcho_8 : decode cX11_richestEcho 8 = .ok (.istore_n 2, 1) := by decide +kernel
theorem dX11_richestEcho_9 : decode cX11_richestEcho 9 = .ok (.iload_n 2, 1) := by decide +kernel
theorem dX11_richestEcho_10 : decode cX11_richestEcho 10 = .ok (.aload_n 0, 1) := by decide +kernel
theorem dX11_richestEcho_11 : decode cX11_richestEcho 11 = .ok (.getfield 7, 3) := by decide +kernel
theorem dX11_richestEcho_14 : decode cX11_richestEcho 14 = .ok (.iconst 0, 1) := by decide +kernel
theorem dX11_richestEcho_15 : decode cX11_richestEcho 15 = .ok (.iaload, 1) := by decide +kernel
theorem dX11_richestEcho_16 : decode cX11_richestEcho 16 = .ok (.if_icmp .ge 32, 3) := by decide +kernel
theorem dX11_richestEcho_19 : decode cX11_richestEcho 19 = .ok (.aload_n 0, 1) := by decide +kernel
theorem dX11_richestEcho_20 : decode cX11_richestEcho 20 = .ok (.iload_n 2, 1) := by decide +kernel
theorem dX11_richestEcho_21 : decode cX11_richestEcho 21 = .ok (.bipush 11, 2) := by decide +kernel
theorem dX11_richestEcho_23 : decode cX11_richestEcho 23 = .ok (.invokevirtual 86, 3) := by decide +kernel
theorem dX11_richestEcho_26 : decode cX11_richestEcho 26 = .ok (.aload_n 0, 1) := by decide +kernel
theorem dX11_richestEcho_27 : decode cX11_richestEcho 27 = .ok (.iload_n 1, 1) := by decide +kernel
theorem dX11_richestEcho_28 : decode cX11_richestEcho 28 = .ok (.bipush 11, 2) := by decide +kernel
theorem dX11_richestEcho_30 : decode cX11_richestEcho 30 = .ok (.invokevirtual 86, 3) := by decide +kernel
theorem dX11_richestEcho_33 : decode cX11_richestEcho 33 = .ok (.if_icmp .le 7, 3) := by decide +kernel
theorem dX11_richestEcho_36 : decode cX11_richestEcho 36 = .ok (.iload_n 2, 1) := by decide +kernel
theorem dX11_richestEcho_37 : decode cX11_richestEcho 37 = .ok (.goto 4, 3) := by decide +kernel
theorem dX11_richestEcho_40 : decode cX11_richestEcho 40 = .ok (.iload_n 1, 1) := by decide +kernel
theorem dX11_richestEcho_41 : decode cX11_richestEcho 41 = .ok (.istore_n 1, 1) := by decide +kernel
theorem dX11_richestEcho_42 : decode cX11_richestEcho 42 = .ok (.iinc 2 1, 3) := by decide +kernel
theorem dX11_richestEcho_45 : decode cX11_richestEcho 45 = .ok (.goto (-36), 3) := by decide +kernel
theorem dX11_richestEcho_48 : decode cX11_richestEcho 48 = .ok (.iload_n 1, 1) := by decide +kernel
theorem dX11_richestEcho_49 : decode cX11_richestEcho 49 = .ok (.ireturn, 1) := by decide +kernel
theorem dX11_daysServed_0 : decode cX11_daysServed 0 = .ok (.aload_n 0, 1) := by decide +kernel
theorem dX11_daysServed_1 : decode cX11_daysServed 1 = .ok (.aload_n 0, 1) := by decide +kernel
theorem dX11_daysServed_2 : decode cX11_daysServed 2 = .ok (.iload_n 1, 1) := by decide +kernel
theorem dX11_daysServed_3 : decode cX11_daysServed 3 = .ok (.iload_n 2, 1) := by decide +kernel
theorem dX11_daysServed_4 : decode cX11_daysServed 4 = .ok (.invokevirtual 400, 3) := by decide +kernel
theorem dX11_daysServed_7 : decode cX11_daysServed 7 = .ok (.invokevirtual 210, 3) := by decide +kernel
theorem dX11_daysServed_10 : decode cX11_daysServed 10 = .ok (.ifCond .eq 17, 3) := by decide +kernel
theorem dX11_daysServed_13 : decode cX11_daysServed 13 = .ok (.aload_n 0, 1) := by decide +kernel
theorem dX11_daysServed_14 : decode cX11_daysServed 14 = .ok (.getfield 7, 3) := by decide +kernel
theorem dX11_daysServed_17 : decode cX11_daysServed 17 = .ok (.iload_n 1, 1) := by decide +kernel
theorem dX11_daysServed_18 : decode cX11_daysServed 18 = .ok (.iload_n 2, 1) := by decide +kernel
theorem dX11_daysServed_19 : decode cX11_daysServed 19 = .ok (.iconst 2, 1) := by decide +kernel
theorem dX11_daysServed_20 : decode cX11_daysServed 20 = .ok (.invokestatic 99, 3) := by decide +kernel
theorem dX11_daysServed_23 : decode cX11_daysServed 23 = .ok (.iaload, 1) := by decide +kernel
theorem dX11_daysServed_24 : decode cX11_daysServed 24 = .ok (.goto 4, 3) := by decide +kernel
theorem dX11_daysServed_27 : decode cX11_daysServed 27 = .ok (.iconst 0, 1) := by decide +kernel
theorem dX11_daysServed_28 : decode cX11_daysServed 28 = .ok (.ireturn, 1) := by decide +kernel
theorem dX11_contractsMade_0 : decode cX11_contractsMade 0 = .ok (.aload_n 0, 1) := by decide +kernel
theorem dX11_contractsMade_1 : decode cX11_contractsMade 1 = .ok (.aload_n 0, 1) := by decide +kernel
theorem dX11_contractsMade_2 : decode cX11_contractsMade 2 = .ok (.getfield 7, 3) := by decide +kernel
theorem dX11_contractsMade_5 : decode cX11_contractsMade 5 = .ok (.iconst 5, 1) := by decide +kernel
theorem dX11_contractsMade_6 : decode cX11_contractsMade 6 = .ok (.iaload, 1) := by decide +kernel
theorem dX11_contractsMade_7 : decode cX11_contractsMade 7 = .ok (.invokevirtual 386, 3) := by decide +kernel
theorem dX11_contractsMade_10 : decode cX11_contractsMade 10 = .ok (.ireturn, 1) := by decide +kernel
theorem dX11_contractsEnded_0 : decode cX11_contractsEnded 0 = .ok (.aload_n 0, 1) := by decide +kernel
theorem dX11_contractsEnded_1 : decode cX11_contractsEnded 1 = .ok (.aload_n 0, 1) := by decide +kernel
theorem dX11_contractsEnded_2 : decode cX11_contractsEnded 2 = .ok (.getfield 7, 3) := by decide +kernel
theorem dX11_contractsEnded_5 : decode cX11_contractsEnded 5 = .ok (.bipush 6, 2) := by decide +kernel
theorem dX11_contractsEnded_7 : decode cX11_contractsEnded 7 = .ok (.iaload, 1) := by decide +kernel
theorem dX11_contractsEnded_8 : decode cX11_contractsEnded 8 = .ok (.invokevirtual 386, 3) := by decide +kernel
theorem dX11_contractsEnded_11 : decode cX11_contractsEnded 11 = .ok (.ireturn, 1) := by decide +kernel
theorem dX11_desertions_0 : decode cX11_desertions 0 = .ok (.aload_n 0, 1) := by decide +kernel
theorem dX11_desertions_1 : decode cX11_desertions 1 = .ok (.iload_n 1, 1) := by decide +kernel
theorem dX11_desertions_2 : decode cX11_desertions 2 = .ok (.bipush 14, 2) := by decide +kernel
theorem dX11_desertions_4 : decode cX11_desertions 4 = .ok (.invokevirtual 394, 3) := by decide +kernel
theorem dX11_desertions_7 : decode cX11_desertions 7 = .ok (.ireturn, 1) := by decide +kernel
theorem dX11_repliesHeard_0 : decode cX11_repliesHeard 0 = .ok (.aload_n 0, 1) := by decide +kernel
theorem dX11_repliesHeard_1 : decode cX11_repliesHeard 1 = .ok (.iload_n 1, 1) := by decide +kernel
theorem dX11_repliesHeard_2 : decode cX11_repliesHeard 2 = .ok (.bipush 11, 2) := by decide +kernel
theorem dX11_repliesHeard_4 : decode cX11_repliesHeard 4 = .ok (.invokevirtual 397, 3) := by decide +kernel
theorem dX11_repliesHeard_7 : decode cX11_repliesHeard 7 = .ok (.ireturn, 1) := by decide +kernel
theorem dX11_wagesPaid_0 : decode cX11_wagesPaid 0 = .ok (.aload_n 0, 1) := by decide +kernel
theorem dX11_wagesPaid_1 : decode cX11_wagesPaid 1 = .ok (.iload_n 1, 1) := by decide +kernel
theorem dX11_wagesPaid_2 : decode cX11_wagesPaid 2 = .ok (.bipush 12, 2) := by decide +kernel
theorem dX11_wagesPaid_4 : decode cX11_wagesPaid 4 = .ok (.invokevirtual 397, 3) := by decide +kernel
theorem dX11_wagesPaid_7 : decode cX11_wagesPaid 7 = .ok (.ireturn, 1) := by decide +kernel
theorem dX11_savings_0 : decode cX11_savings 0 = .ok (.iconst 0, 1) := by decide +kernel
theorem dX11_savings_1 : decode cX11_savings 1 = .ok (.istore_n 1, 1) := by decide +kernel
theorem dX11_savings_2 : decode cX11_savings 2 = .ok (.iconst 0, 1) := by decide +kernel
theorem dX11_savings_3 : decode cX11_savings 3 = .ok (.istore_n 2, 1) := by decide +kernel
theorem dX11_savings_4 : decode cX11_savings 4 = .ok (.iload_n 2, 1) := by decide +kernel
theorem dX11_savings_5 : decode cX11_savings 5 = .ok (.aload_n 0, 1) := by decide +kernel
theorem dX11_savings_6 : decode cX11_savings 6 = .ok (.getfield 7, 3) := by decide +kernel
theorem dX11_savings_9 : decode cX11_savings 9 = .ok (.iconst 0, 1) := by decide +kernel
theorem dX11_savings_10 : decode cX11_savings 10 = .ok (.iaload, 1) := by decide +kernel
theorem dX11_savings_11 : decode cX11_savings 11 = .ok (.if_icmp .ge 19, 3) := by decide +kernel
theorem dX11_savings_14 : decode cX11_savings 14 = .ok (.iload_n 1, 1) := by decide +kernel
theorem dX11_savings_15 : decode cX11_savings 15 = .ok (.aload_n 0, 1) := by decide +kernel
theorem dX11_savings_16 : decode cX11_savings 16 = .ok (.iload_n 2, 1) := by decide +kernel
theorem dX11_savings_17 : decode cX11_savings 17 = .ok (.bipush 11, 2) := by decide +kernel
theorem dX11_savings_19 : decode cX11_savings 19 = .ok (.invokevirtual 86, 3) := by decide +kernel
theorem dX11_savings_22 : decode cX11_savings 22 = .ok (.iadd, 1) := by decide +kernel
theorem dX11_savings_23 : decode cX11_savings 23 = .ok (.istore_n 1, 1) := by decide +kernel
theorem dX11_savings_24 : decode cX11_savings 24 = .ok (.iinc 2 1, 3) := by decide +kernel
theorem dX11_savings_27 : decode cX11_savings 27 = .ok (.goto (-23), 3) := by decide +kernel
theorem dX11_savings_30 : decode cX11_savings 30 = .ok (.iload_n 1, 1) := by decide +kernel
theorem dX11_savings_31 : decode cX11_savings 31 = .ok (.ireturn, 1) := by decide +kernel
theorem dX11_purses_0 : decode cX11_purses 0 = .ok (.iconst 0, 1) := by decide +kernel
theorem dX11_purses_1 : decode cX11_purses 1 = .ok (.istore_n 1, 1) := by decide +kernel
theorem dX11_purses_2 : decode cX11_purses 2 = .ok (.iconst 0, 1) := by decide +kernel
theorem dX11_purses_3 : decode cX11_purses 3 = .ok (.istore_n 2, 1) := by decide +kernel
theorem dX11_purses_4 : decode cX11_purses 4 = .ok (.iload_n 2, 1) := by decide +kernel
theorem dX11_purses_5 : decode cX11_purses 5 = .ok (.aload_n 0, 1) := by decide +kernel
theorem dX11_purses_6 : decode cX11_purses 6 = .ok (.getfield 7, 3) := by decide +kernel
theorem dX11_purses_9 : decode cX11_purses 9 = .ok (.iconst 1, 1) := by decide +kernel
theorem dX11_purses_10 : decode cX11_purses 10 = .ok (.iaload, 1) := by decide +kernel
theorem dX11_purses_11 : decode cX11_purses 11 = .ok (.if_icmp .ge 19, 3) := by decide +kernel
theorem dX11_purses_14 : decode cX11_purses 14 = .ok (.iload_n 1, 1) := by decide +kernel
theorem dX11_purses_15 : decode cX11_purses 15 = .ok (.aload_n 0, 1) := by decide +kernel
theorem dX11_purses_16 : decode cX11_purses 16 = .ok (.iload_n 2, 1) := by decide +kernel
theorem dX11_purses_17 : decode cX11_purses 17 = .ok (.bipush 10, 2) := by decide +kernel
theorem dX11_purses_19 : decode cX11_purses 19 = .ok (.invokevirtual 90, 3) := by decide +kernel
theorem dX11_purses_22 : decode cX11_purses 22 = .ok (.iadd, 1) := by decide +kernel
theorem dX11_purses_23 : decode cX11_purses 23 = .ok (.istore_n 1, 1) := by decide +kernel
theorem dX11_purses_24 : decode cX11_purses 24 = .ok (.iinc 2 1, 3) := by decide +kernel
theorem dX11_purses_27 : decode cX11_purses 27 = .ok (.goto (-23), 3) := by decide +kernel
theorem dX11_purses_30 : decode cX11_purses 30 = .ok (.iload_n 1, 1) := by decide +kernel
theorem dX11_purses_31 : decode cX11_purses 31 = .ok (.ireturn, 1) := by decide +kernel
theorem dX11_contracts_0 : decode cX11_contracts 0 = .ok (.iconst 0, 1) := by decide +kernel
theorem dX11_contracts_1 : decode cX11_contracts 1 = .ok (.istore_n 1, 1) := by decide +kernel
theorem dX11_contracts_2 : decode cX11_contracts 2 = .ok (.iconst 0, 1) := by decide +kernel
theorem dX11_contracts_3 : decode cX11_contracts 3 = .ok (.istore_n 2, 1) := by decide +kernel
theorem dX11_contracts_4 : decode cX11_contracts 4 = .ok (.iload_n 2, 1) := by decide +kernel
theorem dX11_contracts_5 : decode cX11_contracts 5 = .ok (.aload_n 0, 1) := by decide +kernel
theorem dX11_contracts_6 : decode cX11_contracts 6 = .ok (.getfield 7, 3) := by decide +kernel
theorem dX11_contracts_9 : decode cX11_contracts 9 = .ok (.iconst 0, 1) := by decide +kernel
theorem dX11_contracts_10 : decode cX11_contracts 10 = .ok (.iaload, 1) := by decide +kernel
theorem dX11_contracts_11 : decode cX11_contracts 11 = .ok (.if_icmp .ge 20, 3) := by decide +kernel
theorem dX11_contracts_14 : decode cX11_contracts 14 = .ok (.iload_n 1, 1) := by decide +kernel
theorem dX11_contracts_15 : decode cX11_contracts 15 = .ok (.aload_n 0, 1) := by decide +kernel
theorem dX11_contracts_16 : decode cX11_contracts 16 = .ok (.iload_n 2, 1) := by decide +kernel
theorem dX11_contracts_17 : decode cX11_contracts 17 = .ok (.invokevirtual 149, 3) := by decide +kernel
theorem dX11_contracts_20 : decode cX11_contracts 20 = .ok (.invokestatic 403, 3) := by decide +kernel
theorem dX11_contracts_23 : decode cX11_contracts 23 = .ok (.iadd, 1) := by decide +kernel
theorem dX11_contracts_24 : decode cX11_contracts 24 = .ok (.istore_n 1, 1) := by decide +kernel
theorem dX11_contracts_25 : decode cX11_contracts 25 = .ok (.iinc 2 1, 3) := by decide +kernel
theorem dX11_contracts_28 : decode cX11_contracts 28 = .ok (.goto (-24), 3) := by decide +kernel
theorem dX11_contracts_31 : decode cX11_contracts 31 = .ok (.iload_n 1, 1) := by decide +kernel
theorem dX11_contracts_32 : decode cX11_contracts 32 = .ok (.ireturn, 1) := by decide +kernel
theorem dX11_moneyImbalance_0 : decode cX11_moneyImbalance 0 = .ok (.aload_n 0, 1) := by decide +kernel
theorem dX11_moneyImbalance_1 : decode cX11_moneyImbalance 1 = .ok (.iconst 0, 1) := by decide +kernel
theorem dX11_moneyImbalance_2 : decode cX11_moneyImbalance 2 = .ok (.putfield 68, 3) := by decide +kernel
theorem dX11_moneyImbalance_5 : decode cX11_moneyImbalance 5 = .ok (.aload_n 0, 1) := by decide +kernel
theorem dX11_moneyImbalance_6 : decode cX11_moneyImbalance 6 = .ok (.getfield 7, 3) := by decide +kernel
theorem dX11_moneyImbalance_9 : decode cX11_moneyImbalance 9 = .ok (.bipush 7, 2) := by decide +kernel
theorem dX11_moneyImbalance_11 : decode cX11_moneyImbalance 11 = .ok (.iaload, 1) := by decide +kernel
theorem dX11_moneyImbalance_12 : decode cX11_moneyImbalance 12 = .ok (.aload_n 0, 1) := by decide +kernel
theorem dX11_moneyImbalance_13 : decode cX11_moneyImbalance 13 = .ok (.getfield 7, 3) := by decide +kernel
theorem dX11_moneyImbalance_16 : decode cX11_moneyImbalance 16 = .ok (.bipush 8, 2) := by decide +kernel
theorem dX11_moneyImbalance_18 : decode cX11_moneyImbalance 18 = .ok (.iaload, 1) := by decide +kernel
theorem dX11_moneyImbalance_19 : decode cX11_moneyImbalance 19 = .ok (.iadd, 1) := by decide +kernel
theorem dX11_moneyImbalance_20 : decode cX11_moneyImbalance 20 = .ok (.aload_n 0, 1) := by decide +kernel
theorem dX11_moneyImbalance_21 : decode cX11_moneyImbalance 21 = .ok (.getfield 7, 3) := by decide +kernel
theorem dX11_moneyImbalance_24 : decode cX11_moneyImbalance 24 = .ok (.bipush 9, 2) := by decide +kernel
theorem dX11_moneyImbalance_26 : decode cX11_moneyImbalance 26 = .ok (.iaload, 1) := by decide +kernel
theorem dX11_moneyImbalance_27 : decode cX11_moneyImbalance 27 = .ok (.iadd, 1) := by decide +kernel
theorem dX11_moneyImbalance_28 : decode cX11_moneyImbalance 28 = .ok (.aload_n 0, 1) := by decide +kernel
theorem dX11_moneyImbalance_29 : decode cX11_moneyImbalance 29 = .ok (.getfield 7, 3) := by decide +kernel
theorem dX11_moneyImbalance_32 : decode cX11_moneyImbalance 32 = .ok (.bipush 10, 2) := by decide +kernel
theorem dX11_moneyImbalance_34 : decode cX11_moneyImbalance 34 = .ok (.iaload, 1) := by decide +kernel
theorem dX11_moneyImbalance_35 : decode cX11_moneyImbalance 35 = .ok (.isub, 1) := by decide +kernel
theorem dX11_moneyImbalance_36 : decode cX11_moneyImbalance 36 = .ok (.aload_n 0, 1) := by decide +kernel
theorem dX11_moneyImbalance_37 : decode cX11_moneyImbalance 37 = .ok (.invokevirtual 439, 3) := by decide +kernel
theorem dX11_moneyImbalance_40 : decode cX11_moneyImbalance 40 = .ok (.isub, 1) := by decide +kernel
theorem dX11_moneyImbalance_41 : decode cX11_moneyImbalance 41 = .ok (.aload_n 0, 1) := by decide +kernel
theorem dX11_moneyImbalance_42 : decode cX11_moneyImbalance 42 = .ok (.invokevirtual 442, 3) := by decide +kernel
theorem dX11_moneyImbalance_45 : decode cX11_moneyImbalance 45 = .ok (.isub, 1) := by decide +kernel
theorem dX11_moneyImbalance_46 : decode cX11_moneyImbalance 46 = .ok (.ireturn, 1) := by decide +kernel
theorem dX11_contractImbalance_0 : decode cX11_contractImbalance 0 = .ok (.aload_n 0, 1) := by decide +kernel
theorem dX11_contractImbalance_1 : decode cX11_contractImbalance 1 = .ok (.iconst 0, 1) := by decide +kernel
theorem dX11_contractImbalance_2 : decode cX11_contractImbalance 2 = .ok (.putfield 68, 3) := by decide +kernel
theorem dX11_contractImbalance_5 : decode cX11_contractImbalance 5 = .ok (.aload_n 0, 1) := by decide +kernel
theorem dX11_contractImbalance_6 : decode cX11_contractImbalance 6 = .ok (.getfield 7, 3) := by decide +kernel
theorem dX11_contractImbalance_9 : decode cX11_contractImbalance 9 = .ok (.iconst 5, 1) := by decide +kernel
theorem dX11_contractImbalance_10 : decode cX11_contractImbalance 10 = .ok (.iaload, 1) := by decide +kernel
theorem dX11_contractImbalance_11 : decode cX11_contractImbalance 11 = .ok (.aload_n 0, 1) := by decide +kernel
theorem dX11_contractImbalance_12 : decode cX11_contractImbalance 12 = .ok (.getfield 7, 3) := by decide +kernel
theorem dX11_contractImbalance_15 : decode cX11_contractImbalance 15 = .ok (.bipush 6, 2) := by decide +kernel
theorem dX11_contractImbalance_17 : decode cX11_contractImbalance 17 = .ok (.iaload, 1) := by decide +kernel
theorem dX11_contractImbalance_18 : decode cX11_contractImbalance 18 = .ok (.isub, 1) := by decide +kernel
theorem dX11_contractImbalance_19 : decode cX11_contractImbalance 19 = .ok (.aload_n 0, 1) := by decide +kernel
theorem dX11_contractImbalance_20 : decode cX11_contractImbalance 20 = .ok (.invokevirtual 445, 3) := by decide +kernel
theorem dX11_contractImbalance_23 : decode cX11_contractImbalance 23 = .ok (.isub, 1) := by decide +kernel
theorem dX11_contractImbalance_24 : decode cX11_contractImbalance 24 = .ok (.ireturn, 1) := by decide +kernel
theorem dX11_servedBy_0 : decode cX11_servedBy 0 = .ok (.iconst 0, 1) := by decide +kernel
theorem dX11_servedBy_1 : decode cX11_servedBy 1 = .ok (.istore_n 2, 1) := by decide +kernel
theorem dX11_servedBy_2 : decode cX11_servedBy 2 = .ok (.iconst 0, 1) := by decide +kernel
theorem dX11_servedBy_3 : decode cX11_servedBy 3 = .ok (.istore_n 3, 1) := by decide +kernel
theorem dX11_servedBy_4 : decode cX11_servedBy 4 = .ok (.iload_n 3, 1) := by decide +kernel
theorem dX11_servedBy_5 : decode cX11_servedBy 5 = .ok (.aload_n 0, 1) := by decide +kernel
theorem dX11_servedBy_6 : decode cX11_servedBy 6 = .ok (.getfield 7, 3) := by decide +kernel
theorem dX11_servedBy_9 : decode cX11_servedBy 9 = .ok (.iconst 1, 1) := by decide +kernel
theorem dX11_servedBy_10 : decode cX11_servedBy 10 = .ok (.iaload, 1) := by decide +kernel
theorem dX11_servedBy_11 : decode cX11_servedBy 11 = .ok (.if_icmp .ge 55, 3) := by decide +kernel
theorem dX11_servedBy_14 : decode cX11_servedBy 14 = .ok (.iconst 0, 1) := by decide +kernel
theorem dX11_servedBy_15 : decode cX11_servedBy 15 = .ok (.istore 4, 2) := by decide +kernel
theorem dX11_servedBy_17 : decode cX11_servedBy 17 = .ok (.iload 4, 2) := by decide +kernel
theorem dX11_servedBy_19 : decode cX11_servedBy 19 = .ok (.aload_n 0, 1) := by decide +kernel
theorem dX11_servedBy_20 : decode cX11_servedBy 20 = .ok (.iload_n 3, 1) := by decide +kernel
theorem dX11_servedBy_21 : decode cX11_servedBy 21 = .ok (.bipush 13, 2) := by decide +kernel
theorem dX11_servedBy_23 : decode cX11_servedBy 23 = .ok (.invokevirtual 90, 3) := by decide +kernel
theorem dX11_servedBy_26 : decode cX11_servedBy 26 = .ok (.if_icmp .ge 34, 3) := by decide +kernel
theorem dX11_servedBy_29 : decode cX11_servedBy 29 = .ok (.iload_n 2, 1) := by decide +kernel
theorem dX11_servedBy_30 : decode cX11_servedBy 30 = .ok (.aload_n 0, 1) := by decide +kernel
theorem dX11_servedBy_31 : decode cX11_servedBy 31 = .ok (.iload_n 3, 1) := by decide +kernel
theorem dX11_servedBy_32 : decode cX11_servedBy 32 = .ok (.bipush 14, 2) := by decide +kernel
theorem dX11_servedBy_34 : decode cX11_servedBy 34 = .ok (.iload 4, 2) := by decide +kernel
theorem dX11_servedBy_36 : decode cX11_servedBy 36 = .ok (.iadd, 1) := by decide +kernel
theorem dX11_servedBy_37 : decode cX11_servedBy 37 = .ok (.invokevirtual 90, 3) := by decide +kernel
theorem dX11_servedBy_40 : decode cX11_servedBy 40 = .ok (.iload_n 1, 1) := by decide +kernel
theorem dX11_servedBy_41 : decode cX11_servedBy 41 = .ok (.if_icmp .ne 7, 3) := by decide +kernel
theorem dX11_servedBy_44 : decode cX11_servedBy 44 = .ok (.iconst 1, 1) := by decide +kernel
theorem dX11_servedBy_45 : decode cX11_servedBy 45 = .ok (.goto 4, 3) := by decide +kernel
theorem dX11_servedBy_48 : decode cX11_servedBy 48 = .ok (.iconst 0, 1) := by decide +kernel
theorem dX11_servedBy_49 : decode cX11_servedBy 49 = .ok (.invokestatic 403, 3) := by decide +kernel
theorem dX11_servedBy_52 : decode cX11_servedBy 52 = .ok (.iadd, 1) := by decide +kernel
theorem dX11_servedBy_53 : decode cX11_servedBy 53 = .ok (.istore_n 2, 1) := by decide +kernel
theorem dX11_servedBy_54 : decode cX11_servedBy 54 = .ok (.iinc 4 1, 3) := by decide +kernel
theorem dX11_servedBy_57 : decode cX11_servedBy 57 = .ok (.goto (-40), 3) := by decide +kernel
theorem dX11_servedBy_60 : decode cX11_servedBy 60 = .ok (.iinc 3 1, 3) := by decide +kernel
theorem dX11_servedBy_63 : decode cX11_servedBy 63 = .ok (.goto (-59), 3) := by decide +kernel
theorem dX11_servedBy_66 : decode cX11_servedBy 66 = .ok (.iload_n 2, 1) := by decide +kernel
theorem dX11_servedBy_67 : decode cX11_servedBy 67 = .ok (.ireturn, 1) := by decide +kernel
theorem dX11_doubleServants_0 : decode cX11_doubleServants 0 = .ok (.aload_n 0, 1) := by decide +kernel
theorem dX11_doubleServants_1 : decode cX11_doubleServants 1 = .ok (.iconst 0, 1) := by decide +kernel
theorem dX11_doubleServants_2 : decode cX11_doubleServants 2 = .ok (.putfield 68, 3) := by decide +kernel
theorem dX11_doubleServants_5 : decode cX11_doubleServants 5 = .ok (.iconst 0, 1) := by decide +kernel
theorem dX11_doubleServants_6 : decode cX11_doubleServants 6 = .ok (.istore_n 1, 1) := by decide +kernel
theorem dX11_doubleServants_7 : decode cX11_doubleServants 7 = .ok (.iconst 0, 1) := by decide +kernel
theorem dX11_doubleServants_8 : decode cX11_doubleServants 8 = .ok (.istore_n 2, 1) := by decide +kernel
theorem dX11_doubleServants_9 : decode cX11_doubleServants 9 = .ok (.iload_n 2, 1) := by decide +kernel
theorem dX11_doubleServants_10 : decode cX11_doubleServants 10 = .ok (.aload_n 0, 1) := by decide +kernel
theorem dX11_doubleServants_11 : decode cX11_doubleServants 11 = .ok (.getfield 7, 3) := by decide +kernel
theorem dX11_doubleServants_14 : decode cX11_doubleServants 14 = .ok (.iconst 0, 1) := by decide +kernel
theorem dX11_doubleServants_15 : decode cX11_doubleServants 15 = .ok (.iaload, 1) := by decide +kernel
theorem dX11_doubleServants_16 : decode cX11_doubleServants 16 = .ok (.if_icmp .ge 29, 3) := by decide +kernel
theorem dX11_doubleServants_19 : decode cX11_doubleServants 19 = .ok (.iload_n 1, 1) := by decide +kernel
theorem dX11_doubleServants_20 : decode cX11_doubleServants 20 = .ok (.aload_n 0, 1) := by decide +kernel
theorem dX11_doubleServants_21 : decode cX11_doubleServants 21 = .ok (.iload_n 2, 1) := by decide +kernel
theorem dX11_doubleServants_22 : decode cX11_doubleServants 22 = .ok (.invokevirtual 448, 3) := by decide +kernel
theorem dX11_doubleServants_25 : decode cX11_doubleServants 25 = .ok (.iconst 1, 1) := by decide +kernel
theorem dX11_doubleServants_26 : decode cX11_doubleServants 26 = .ok (.if_icmp .le 7, 3) := by decide +kernel
theorem dX11_doubleServants_29 : decode cX11_doubleServants 29 = .ok (.iconst 1, 1) := by decide +kernel
theorem dX11_doubleServants_30 : decode cX11_doubleServants 30 = .ok (.goto 4, 3) := by decide +kernel
theorem dX11_doubleServants_33 : decode cX11_doubleServants 33 = .ok (.iconst 0, 1) := by decide +kernel
theorem dX11_doubleServants_34 : decode cX11_doubleServants 34 = .ok (.invokestatic 403, 3) := by decide +kernel
theorem dX11_doubleServants_37 : decode cX11_doubleServants 37 = .ok (.iadd, 1) := by decide +kernel
theorem dX11_doubleServants_38 : decode cX11_doubleServants 38 = .ok (.istore_n 1, 1) := by decide +kernel
theorem dX11_doubleServants_39 : decode cX11_doubleServants 39 = .ok (.iinc 2 1, 3) := by decide +kernel
theorem dX11_doubleServants_42 : decode cX11_doubleServants 42 = .ok (.goto (-33), 3) := by decide +kernel
theorem dX11_doubleServants_45 : decode cX11_doubleServants 45 = .ok (.iload_n 1, 1) := by decide +kernel
theorem dX11_doubleServants_46 : decode cX11_doubleServants 46 = .ok (.ireturn, 1) := by decide +kernel
theorem dX11_meanSavings_0 : decode cX11_meanSavings 0 = .ok (.aload_n 0, 1) := by decide +kernel
theorem dX11_meanSavings_1 : decode cX11_meanSavings 1 = .ok (.iconst 0, 1) := by decide +kernel
theorem dX11_meanSavings_2 : decode cX11_meanSavings 2 = .ok (.putfield 68, 3) := by decide +kernel
theorem dX11_meanSavings_5 : decode cX11_meanSavings 5 = .ok (.aload_n 0, 1) := by decide +kernel
theorem dX11_meanSavings_6 : decode cX11_meanSavings 6 = .ok (.invokevirtual 442, 3) := by decide +kernel
theorem dX11_meanSavings_9 : decode cX11_meanSavings 9 = .ok (.i2d, 1) := by decide +kernel
theorem dX11_meanSavings_10 : decode cX11_meanSavings 10 = .ok (.aload_n 0, 1) := by decide +kernel
theorem dX11_meanSavings_11 : decode cX11_meanSavings 11 = .ok (.getfield 7, 3) := by decide +kernel
theorem dX11_meanSavings_14 : decode cX11_meanSavings 14 = .ok (.iconst 0, 1) := by decide +kernel
theorem dX11_meanSavings_15 : decode cX11_meanSavings 15 = .ok (.iaload, 1) := by decide +kernel
theorem dX11_meanSavings_16 : decode cX11_meanSavings 16 = .ok (.i2d, 1) := by decide +kernel
theorem dX11_meanSavings_17 : decode cX11_meanSavings 17 = .ok (.ddiv, 1) := by decide +kernel
theorem dX11_meanSavings_18 : decode cX11_meanSavings 18 = .ok (.dreturn, 1) := by decide +kernel
theorem dX11_employmentRate_0 : decode cX11_employmentRate 0 = .ok (.aload_n 0, 1) := by decide +kernel
theorem dX11_employmentRate_1 : decode cX11_employmentRate 1 = .ok (.iconst 0, 1) := by decide +kernel
theorem dX11_employmentRate_2 : decode cX11_employmentRate 2 = .ok (.putfield 68, 3) := by decide +kernel
theorem dX11_employmentRate_5 : decode cX11_employmentRate 5 = .ok (.aload_n 0, 1) := by decide +kernel
theorem dX11_employmentRate_6 : decode cX11_employmentRate 6 = .ok (.invokevirtual 445, 3) := by decide +kernel
theorem dX11_employmentRate_9 : decode cX11_employmentRate 9 = .ok (.i2f, 1) := by decide +kernel
theorem dX11_employmentRate_10 : decode cX11_employmentRate 10 = .ok (.aload_n 0, 1) := by decide +kernel
theorem dX11_employmentRate_11 : decode cX11_employmentRate 11 = .ok (.getfield 7, 3) := by decide +kernel
theorem dX11_employmentRate_14 : decode cX11_employmentRate 14 = .ok (.iconst 0, 1) := by decide +kernel
theorem dX11_employmentRate_15 : decode cX11_employmentRate 15 = .ok (.iaload, 1) := by decide +kernel
theorem dX11_employmentRate_16 : decode cX11_employmentRate 16 = .ok (.i2f, 1) := by decide +kernel
theorem dX11_employmentRate_17 : decode cX11_employmentRate 17 = .ok (.fdiv, 1) := by decide +kernel
theorem dX11_employmentRate_18 : decode cX11_employmentRate 18 = .ok (.freturn, 1) := by decide +kernel
theorem dX11_tried_0 : decode cX11_tried 0 = .ok (.iload_n 1, 1) := by decide +kernel
theorem dX11_tried_1 : decode cX11_tried 1 = .ok (.ifCond .eq 16, 3) := by decide +kernel
theorem dX11_tried_4 : decode cX11_tried 4 = .ok (.aload_n 0, 1) := by decide +kernel
theorem dX11_tried_5 : decode cX11_tried 5 = .ok (.getfield 7, 3) := by decide +kernel
theorem dX11_tried_8 : decode cX11_tried 8 = .ok (.iconst 0, 1) := by decide +kernel
theorem dX11_tried_9 : decode cX11_tried 9 = .ok (.aload_n 0, 1) := by decide +kernel
theorem dX11_tried_10 : decode cX11_tried 10 = .ok (.getfield 16, 3) := by decide +kernel
theorem dX11_tried_13 : decode cX11_tried 13 = .ok (.iconst 0, 1) := by decide +kernel
theorem dX11_tried_14 : decode cX11_tried 14 = .ok (.invokestatic 71, 3) := by decide +kernel
theorem dX11_tried_17 : decode cX11_tried 17 = .ok (.iload_n 1, 1) := by decide +kernel
theorem dX11_tried_18 : decode cX11_tried 18 = .ok (.ireturn, 1) := by decide +kernel
theorem dX11_done_0 : decode cX11_done 0 = .ok (.aload_n 0, 1) := by decide +kernel
theorem dX11_done_1 : decode cX11_done 1 = .ok (.aload_n 0, 1) := by decide +kernel
theorem dX11_done_2 : decode cX11_done 2 = .ok (.getfield 16, 3) := by decide +kernel
theorem dX11_done_5 : decode cX11_done 5 = .ok (.invokevirtual 379, 3) := by decide +kernel
theorem dX11_done_8 : decode cX11_done 8 = .ok (.aload_n 0, 1) := by decide +kernel
theorem dX11_done_9 : decode cX11_done 9 = .ok (.getfield 201, 3) := by decide +kernel
theorem dX11_done_12 : decode cX11_done 12 = .ok (.ireturn, 1) := by decide +kernel
theorem dX11_passDays_0 : decode cX11_passDays 0 = .ok (.aload_n 0, 1) := by decide +kernel
theorem dX11_passDays_1 : decode cX11_passDays 1 = .ok (.aload_n 0, 1) := by decide +kernel
theorem dX11_passDays_2 : decode cX11_passDays 2 = .ok (.iload_n 1, 1) := by decide +kernel
theorem dX11_passDays_3 : decode cX11_passDays 3 = .ok (.i2l, 1) := by decide +kernel
theorem dX11_passDays_4 : decode cX11_passDays 4 = .ok (.lconst 1, 1) := by decide +kernel
theorem dX11_passDays_5 : decode cX11_passDays 5 = .ok (.ldc2_w 451, 3) := by decide +kernel
theorem dX11_passDays_8 : decode cX11_passDays 8 = .ok (.invokestatic 75, 3) := by decide +kernel
theorem dX11_passDays_11 : decode cX11_passDays 11 = .ok (.invokevirtual 210, 3) := by decide +kernel
theorem dX11_passDays_14 : decode cX11_passDays 14 = .ok (.invokevirtual 453, 3) := by decide +kernel
theorem dX11_passDays_17 : decode cX11_passDays 17 = .ok (.ifCond .eq 15, 3) := by decide +kernel
theorem dX11_passDays_20 : decode cX11_passDays 20 = .ok (.aload_n 0, 1) := by decide +kernel
theorem dX11_passDays_21 : decode cX11_passDays 21 = .ok (.aload_n 0, 1) := by decide +kernel
theorem dX11_passDays_22 : decode cX11_passDays 22 = .ok (.iload_n 1, 1) := by decide +kernel
theorem dX11_passDays_23 : decode cX11_passDays 23 = .ok (.invokevirtual 355, 3) := by decide +kernel
theorem dX11_passDays_26 : decode cX11_passDays 26 = .ok (.invokevirtual 456, 3) := by decide +kernel
theorem dX11_passDays_29 : decode cX11_passDays 29 = .ok (.goto 4, 3) := by decide +kernel
theorem dX11_passDays_32 : decode cX11_passDays 32 = .ok (.iconst 0, 1) := by decide +kernel
theorem dX11_passDays_33 : decode cX11_passDays 33 = .ok (.ireturn, 1) := by decide +kernel
theorem dX11_holdFair_0 : decode cX11_holdFair 0 = .ok (.aload_n 0, 1) := by decide +kernel
theorem dX11_holdFair_1 : decode cX11_holdFair 1 = .ok (.aload_n 0, 1) := by decide +kernel
theorem dX11_holdFair_2 : decode cX11_holdFair 2 = .ok (.iconst 1, 1) := by decide +kernel
theorem dX11_holdFair_3 : decode cX11_holdFair 3 = .ok (.invokevirtual 210, 3) := by decide +kernel
theorem dX11_holdFair_6 : decode cX11_holdFair 6 = .ok (.invokevirtual 453, 3) := by decide +kernel
theorem dX11_holdFair_9 : decode cX11_holdFair 9 = .ok (.ifCond .eq 14, 3) := by decide +kernel
theorem dX11_holdFair_12 : decode cX11_holdFair 12 = .ok (.aload_n 0, 1) := by decide +kernel
theorem dX11_holdFair_13 : decode cX11_holdFair 13 = .ok (.aload_n 0, 1) := by decide +kernel
theorem dX11_holdFair_14 : decode cX11_holdFair 14 = .ok (.invokevirtual 358, 3) := by decide +kernel
theorem dX11_holdFair_17 : decode cX11_holdFair 17 = .ok (.invokevirtual 456, 3) := by decide +kernel
theorem dX11_holdFair_20 : decode cX11_holdFair 20 = .ok (.goto 4, 3) := by decide +kernel
theorem dX11_holdFair_23 : decode cX11_holdFair 23 = .ok (.iconst 0, 1) := by decide +kernel
theorem dX11_holdFair_24 : decode cX11_holdFair 24 = .ok (.ireturn, 1) := by decide +kernel
theorem dX11_test_0 : decode cX11_test 0 = .ok (.aload_n 0, 1) := by decide +kernel
theorem dX11_test_1 : decode cX11_test 1 = .ok (.iload_n 1, 1) := by decide +kernel
theorem dX11_test_2 : decode cX11_test 2 = .ok (.iload_n 2, 1) := by decide +kernel
theorem dX11_test_3 : decode cX11_test 3 = .ok (.invokevirtual 400, 3) := by decide +kernel
theorem dX11_test_6 : decode cX11_test 6 = .ok (.ifCond .eq 16, 3) := by decide +kernel
theorem dX11_test_9 : decode cX11_test 9 = .ok (.aload_n 0, 1) := by decide +kernel
theorem dX11_test_10 : decode cX11_test 10 = .ok (.iload_n 1, 1) := by decide +kernel
theorem dX11_test_11 : decode cX11_test 11 = .ok (.iload_n 2, 1) := by decide +kernel
theorem dX11_test_12 : decode cX11_test 12 = .ok (.invokevirtual 204, 3) := by decide +kernel
theorem dX11_test_15 : decode cX11_test 15 = .ok (.ifCond .eq 7, 3) := by decide +kernel
theorem dX11_test_18 : decode cX11_test 18 = .ok (.iconst 1, 1) := by decide +kernel
theorem dX11_test_19 : decode cX11_test 19 = .ok (.goto 4, 3) := by decide +kernel
theorem dX11_test_22 : decode cX11_test 22 = .ok (.iconst 0, 1) := by decide +kernel
theorem dX11_test_23 : decode cX11_test 23 = .ok (.istore_n 3, 1) := by decide +kernel
theorem dX11_test_24 : decode cX11_test 24 = .ok (.aload_n 0, 1) := by decide +kernel
theorem dX11_test_25 : decode cX11_test 25 = .ok (.aload_n 0, 1) := by decide +kernel
theorem dX11_test_26 : decode cX11_test 26 = .ok (.aload_n 0, 1) := by decide +kernel
theorem dX11_test_27 : decode cX11_test 27 = .ok (.iload_n 1, 1) := by decide +kernel
theorem dX11_test_28 : decode cX11_test 28 = .ok (.iload_n 2, 1) := by decide +kernel
theorem dX11_test_29 : decode cX11_test 29 = .ok (.invokevirtual 400, 3) := by decide +kernel
theorem dX11_test_32 : decode cX11_test 32 = .ok (.iload_n 3, 1) := by decide +kernel
theorem dX11_test_33 : decode cX11_test 33 = .ok (.invokevirtual 435, 3) := by decide +kernel
theorem dX11_test_36 : decode cX11_test 36 = .ok (.invokevirtual 453, 3) := by decide +kernel
theorem dX11_test_39 : decode cX11_test 39 = .ok (.ifCond .eq 16, 3) := by decide +kernel
theorem dX11_test_42 : decode cX11_test 42 = .ok (.aload_n 0, 1) := by decide +kernel
theorem dX11_test_43 : decode cX11_test 43 = .ok (.aload_n 0, 1) := by decide +kernel
theorem dX11_test_44 : decode cX11_test 44 = .ok (.iload_n 1, 1) := by decide +kernel
theorem dX11_test_45 : decode cX11_test 45 = .ok (.iload_n 2, 1) := by decide +kernel
theorem dX11_test_46 : decode cX11_test 46 = .ok (.invokevirtual 361, 3) := by decide +kernel
theorem dX11_test_49 : decode cX11_test 49 = .ok (.invokevirtual 456, 3) := by decide +kernel
theorem dX11_test_52 : decode cX11_test 52 = .ok (.goto 4, 3) := by decide +kernel
theorem dX11_test_55 : decode cX11_test 55 = .ok (.iconst 0, 1) := by decide +kernel
theorem dX11_test_56 : decode cX11_test 56 = .ok (.ireturn, 1) := by decide +kernel
theorem dX11_dismiss_0 : decode cX11_dismiss 0 = .ok (.aload_n 0, 1) := by decide +kernel
theorem dX11_dismiss_1 : decode cX11_dismiss 1 = .ok (.aload_n 0, 1) := by decide +kernel
theorem dX11_dismiss_2 : decode cX11_dismiss 2 = .ok (.aload_n 0, 1) := by decide +kernel
theorem dX11_dismiss_3 : decode cX11_dismiss 3 = .ok (.iload_n 1, 1) := by decide +kernel
theorem dX11_dismiss_4 : decode cX11_dismiss 4 = .ok (.invokevirtual 83, 3) := by decide +kernel
theorem dX11_dismiss_7 : decode cX11_dismiss 7 = .ok (.aload_n 0, 1) := by decide +kernel
theorem dX11_dismiss_8 : decode cX11_dismiss 8 = .ok (.iload_n 1, 1) := by decide +kernel
theorem dX11_dismiss_9 : decode cX11_dismiss 9 = .ok (.invokevirtual 83, 3) := by decide +kernel
theorem dX11_dismiss_12 : decode cX11_dismiss 12 = .ok (.ifCond .eq 15, 3) := by decide +kernel
theorem dX11_dismiss_15 : decode cX11_dismiss 15 = .ok (.aload_n 0, 1) := by decide +kernel
theorem dX11_dismiss_16 : decode cX11_dismiss 16 = .ok (.iload_n 1, 1) := by decide +kernel
theorem dX11_dismiss_17 : decode cX11_dismiss 17 = .ok (.invokevirtual 149, 3) := by decide +kernel
theorem dX11_dismiss_20 : decode cX11_dismiss 20 = .ok (.ifCond .eq 7, 3) := by decide +kernel
theorem dX11_dismiss_23 : decode cX11_dismiss 23 = .ok (.iconst 1, 1) := by decide +kernel
theorem dX11_dismiss_24 : decode cX11_dismiss 24 = .ok (.goto 4, 3) := by decide +kernel
theorem dX11_dismiss_27 : decode cX11_dismiss 27 = .ok (.iconst 0, 1) := by decide +kernel
theorem dX11_dismiss_28 : decode cX11_dismiss 28 = .ok (.invokevirtual 435, 3) := by decide +kernel
theorem dX11_dismiss_31 : decode cX11_dismiss 31 = .ok (.invokevirtual 453, 3) := by decide +kernel
theorem dX11_dismiss_34 : decode cX11_dismiss 34 = .ok (.ifCond .eq 15, 3) := by decide +kernel
theorem dX11_dismiss_37 : decode cX11_dismiss 37 = .ok (.aload_n 0, 1) := by decide +kernel
theorem dX11_dismiss_38 : decode cX11_dismiss 38 = .ok (.aload_n 0, 1) := by decide +kernel
theorem dX11_dismiss_39 : decode cX11_dismiss 39 = .ok (.iload_n 1, 1) := by decide +kernel
theorem dX11_dismiss_40 : decode cX11_dismiss 40 = .ok (.invokevirtual 364, 3) := by decide +kernel
theorem dX11_dismiss_43 : decode cX11_dismiss 43 = .ok (.invokevirtual 456, 3) := by decide +kernel
theorem dX11_dismiss_46 : decode cX11_dismiss 46 = .ok (.goto 4, 3) := by decide +kernel
theorem dX11_dismiss_49 : decode cX11_dismiss 49 = .ok (.iconst 0, 1) := by decide +kernel
theorem dX11_dismiss_50 : decode cX11_dismiss 50 = .ok (.ireturn, 1) := by decide +kernel
theorem dX11_setWage_0 : decode cX11_setWage 0 = .ok (.aload_n 0, 1) := by decide +kernel
theorem dX11_setWage_1 : decode cX11_setWage 1 = .ok (.aload_n 0, 1) := by decide +kernel
theorem dX11_setWage_2 : decode cX11_setWage 2 = .ok (.aload_n 0, 1) := by decide +kernel
theorem dX11_setWage_3 : decode cX11_setWage 3 = .ok (.iload_n 1, 1) := by decide +kernel
theorem dX11_setWage_4 : decode cX11_setWage 4 = .ok (.invokevirtual 79, 3) := by decide +kernel
theorem dX11_setWage_7 : decode cX11_setWage 7 = .ok (.iload_n 2, 1) := by decide +kernel
theorem dX11_setWage_8 : decode cX11_setWage 8 = .ok (.i2l, 1) := by decide +kernel
theorem dX11_setWage_9 : decode cX11_setWage 9 = .ok (.lconst 1, 1) := by decide +kernel
theorem dX11_setWage_10 : decode cX11_setWage 10 = .ok (.ldc2_w 459, 3) := by decide +kernel
theorem dX11_setWage_13 : decode cX11_setWage 13 = .ok (.invokestatic 75, 3) := by decide +kernel
theorem dX11_setWage_16 : decode cX11_setWage 16 = .ok (.invokevirtual 435, 3) := by decide +kernel
theorem dX11_setWage_19 : decode cX11_setWage 19 = .ok (.invokevirtual 453, 3) := by decide +kernel
theorem dX11_setWage_22 : decode cX11_setWage 22 = .ok (.ifCond .eq 16, 3) := by decide +kernel
theorem dX11_setWage_25 : decode cX11_setWage 25 = .ok (.aload_n 0, 1) := by decide +kernel
theorem dX11_setWage_26 : decode cX11_setWage 26 = .ok (.aload_n 0, 1) := by decide +kernel
theorem dX11_setWage_27 : decode cX11_setWage 27 = .ok (.iload_n 1, 1) := by decide +kernel
theorem dX11_setWage_28 : decode cX11_setWage 28 = .ok (.iload_n 2, 1) := by decide +kernel
theorem dX11_setWage_29 : decode cX11_setWage 29 = .ok (.invokevirtual 367, 3) := by decide +kernel
theorem dX11_setWage_32 : decode cX11_setWage 32 = .ok (.invokevirtual 456, 3) := by decide +kernel
theorem dX11_setWage_35 : decode cX11_setWage 35 = .ok (.goto 4, 3) := by decide +kernel
theorem dX11_setWage_38 : decode cX11_setWage 38 = .ok (.iconst 0, 1) := by decide +kernel
theorem dX11_setWage_39 : decode cX11_setWage 39 = .ok (.ireturn, 1) := by decide +kernel
theorem dX11_fund_0 : decode cX11_fund 0 = .ok (.aload_n 0, 1) := by decide +kernel
theorem dX11_fund_1 : decode cX11_fund 1 = .ok (.aload_n 0, 1) := by decide +kernel
theorem dX11_fund_2 : decode cX11_fund 2 = .ok (.aload_n 0, 1) := by decide +kernel
theorem dX11_fund_3 : decode cX11_fund 3 = .ok (.iload_n 1, 1) := by decide +kernel
theorem dX11_fund_4 : decode cX11_fund 4 = .ok (.invokevirtual 79, 3) := by decide +kernel
theorem dX11_fund_7 : decode cX11_fund 7 = .ok (.iload_n 2, 1) := by decide +kernel
theorem dX11_fund_8 : decode cX11_fund 8 = .ok (.i2l, 1) := by decide +kernel
theorem dX11_fund_9 : decode cX11_fund 9 = .ok (.lconst 1, 1) := by decide +kernel
theorem dX11_fund_10 : decode cX11_fund 10 = .ok (.ldc2_w 461, 3) := by decide +kernel
theorem dX11_fund_13 : decode cX11_fund 13 = .ok (.invokestatic 75, 3) := by decide +kernel
theorem dX11_fund_16 : decode cX11_fund 16 = .ok (.invokevirtual 435, 3) := by decide +kernel
theorem dX11_fund_19 : decode cX11_fund 19 = .ok (.invokevirtual 453, 3) := by decide +kernel
theorem dX11_fund_22 : decode cX11_fund 22 = .ok (.ifCond .eq 16, 3) := by decide +kernel
theorem dX11_fund_25 : decode cX11_fund 25 = .ok (.aload_n 0, 1) := by decide +kernel
theorem dX11_fund_26 : decode cX11_fund 26 = .ok (.aload_n 0, 1) := by decide +kernel
theorem dX11_fund_27 : decode cX11_fund 27 = .ok (.iload_n 1, 1) := by decide +kernel
theorem dX11_fund_28 : decode cX11_fund 28 = .ok (.iload_n 2, 1) := by decide +kernel
theorem dX11_fund_29 : decode cX11_fund 29 = .ok (.invokevirtual 370, 3) := by decide +kernel
theorem dX11_fund_32 : decode cX11_fund 32 = .ok (.invokevirtual 456, 3) := by decide +kernel
theorem dX11_fund_35 : decode cX11_fund 35 = .ok (.goto 4, 3) := by decide +kernel
theorem dX11_fund_38 : decode cX11_fund 38 = .ok (.iconst 0, 1) := by decide +kernel
theorem dX11_fund_39 : decode cX11_fund 39 = .ok (.ireturn, 1) := by decide +kernel
theorem dX11_train_0 : decode cX11_train 0 = .ok (.aload_n 0, 1) := by decide +kernel
theorem dX11_train_1 : decode cX11_train 1 = .ok (.aload_n 0, 1) := by decide +kernel
theorem dX11_train_2 : decode cX11_train 2 = .ok (.aload_n 0, 1) := by decide +kernel
theorem dX11_train_3 : decode cX11_train 3 = .ok (.iload_n 1, 1) := by decide +kernel
theorem dX11_train_4 : decode cX11_train 4 = .ok (.invokevirtual 83, 3) := by decide +kernel
theorem dX11_train_7 : decode cX11_train 7 = .ok (.aload_n 0, 1) := by decide +kernel
theorem dX11_train_8 : decode cX11_train 8 = .ok (.iload_n 1, 1) := by decide +kernel
theorem dX11_train_9 : decode cX11_train 9 = .ok (.invokevirtual 83, 3) := by decide +kernel
theorem dX11_train_12 : decode cX11_train 12 = .ok (.ifCond .eq 15, 3) := by decide +kernel
theorem dX11_train_15 : decode cX11_train 15 = .ok (.aload_n 0, 1) := by decide +kernel
theorem dX11_train_16 : decode cX11_train 16 = .ok (.iload_n 1, 1) := by decide +kernel
theorem dX11_train_17 : decode cX11_train 17 = .ok (.invokevirtual 207, 3) := by decide +kernel
theorem dX11_train_20 : decode cX11_train 20 = .ok (.ifCond .eq 7, 3) := by decide +kernel
theorem dX11_train_23 : decode cX11_train 23 = .ok (.iconst 1, 1) := by decide +kernel
theorem dX11_train_24 : decode cX11_train 24 = .ok (.goto 4, 3) := by decide +kernel
theorem dX11_train_27 : decode cX11_train 27 = .ok (.iconst 0, 1) := by decide +kernel
theorem dX11_train_28 : decode cX11_train 28 = .ok (.invokevirtual 435, 3) := by decide +kernel
theorem dX11_train_31 : decode cX11_train 31 = .ok (.invokevirtual 453, 3) := by decide +kernel
theorem dX11_train_34 : decode cX11_train 34 = .ok (.ifCond .eq 15, 3) := by decide +kernel
theorem dX11_train_37 : decode cX11_train 37 = .ok (.aload_n 0, 1) := by decide +kernel
theorem dX11_train_38 : decode cX11_train 38 = .ok (.aload_n 0, 1) := by decide +kernel
theorem dX11_train_39 : decode cX11_train 39 = .ok (.iload_n 1, 1) := by decide +kernel
theorem dX11_train_40 : decode cX11_train 40 = .ok (.invokevirtual 373, 3) := by decide +kernel
theorem dX11_train_43 : decode cX11_train 43 = .ok (.invokevirtual 456, 3) := by decide +kernel
theorem dX11_train_46 : decode cX11_train 46 = .ok (.goto 4, 3) := by decide +kernel
theorem dX11_train_49 : decode cX11_train 49 = .ok (.iconst 0, 1) := by decide +kernel
theorem dX11_train_50 : decode cX11_train 50 = .ok (.ireturn, 1) := by decide +kernel
theorem dX11_undo_0 : decode cX11_undo 0 = .ok (.aload_n 0, 1) := by decide +kernel
theorem dX11_undo_1 : decode cX11_undo 1 = .ok (.aload_n 0, 1) := by decide +kernel
theorem dX11_undo_2 : decode cX11_undo 2 = .ok (.getfield 328, 3) := by decide +kernel
theorem dX11_undo_5 : decode cX11_undo 5 = .ok (.ifCond .le 7, 3) := by decide +kernel
theorem dX11_undo_8 : decode cX11_undo 8 = .ok (.iconst 1, 1) := by decide +kernel
theorem dX11_undo_9 : decode cX11_undo 9 = .ok (.goto 4, 3) := by decide +kernel
theorem dX11_undo_12 : decode cX11_undo 12 = .ok (.iconst 0, 1) := by decide +kernel
theorem dX11_undo_13 : decode cX11_undo 13 = .ok (.invokevirtual 210, 3) := by decide +kernel
theorem dX11_undo_16 : decode cX11_undo 16 = .ok (.ifCond .ne 5, 3) := by decide +kernel
theorem dX11_undo_19 : decode cX11_undo 19 = .ok (.iconst 0, 1) := by decide +kernel
theorem dX11_undo_20 : decode cX11_undo 20 = .ok (.ireturn, 1) := by decide +kernel
theorem dX11_undo_21 : decode cX11_undo 21 = .ok (.aload_n 0, 1) := by decide +kernel
theorem dX11_undo_22 : decode cX11_undo 22 = .ok (.dup, 1) := by decide +kernel
theorem dX11_undo_23 : decode cX11_undo 23 = .ok (.getfield 328, 3) := by decide +kernel
theorem dX11_undo_26 : decode cX11_undo 26 = .ok (.iconst 1, 1) := by decide +kernel
theorem dX11_undo_27 : decode cX11_undo 27 = .ok (.isub, 1) := by decide +kernel
theorem dX11_undo_28 : decode cX11_undo 28 = .ok (.putfield 328, 3) := by decide +kernel
theorem dX11_undo_31 : decode cX11_undo 31 = .ok (.aload_n 0, 1) := by decide +kernel
theorem dX11_undo_32 : decode cX11_undo 32 = .ok (.getfield 22, 3) := by decide +kernel
theorem dX11_undo_35 : decode cX11_undo 35 = .ok (.sipush 627, 3) := by decide +kernel
theorem dX11_undo_38 : decode cX11_undo 38 = .ok (.aload_n 0, 1) := by decide +kernel
theorem dX11_undo_39 : decode cX11_undo 39 = .ok (.getfield 328, 3) := by decide +kernel
theorem dX11_undo_42 : decode cX11_undo 42 = .ok (.imul, 1) := by decide +kernel
theorem dX11_undo_43 : decode cX11_undo 43 = .ok (.aload_n 0, 1) := by decide +kernel
theorem dX11_undo_44 : decode cX11_undo 44 = .ok (.getfield 7, 3) := by decide +kernel
theorem dX11_undo_47 : decode cX11_undo 47 = .ok (.iconst 0, 1) := by decide +kernel
theorem dX11_undo_48 : decode cX11_undo 48 = .ok (.invokestatic 71, 3) := by decide +kernel
theorem dX11_undo_51 : decode cX11_undo 51 = .ok (.aload_n 0, 1) := by decide +kernel
theorem dX11_undo_52 : decode cX11_undo 52 = .ok (.getfield 328, 3) := by decide +kernel
theorem dX11_undo_55 : decode cX11_undo 55 = .ok (.ireturn, 1) := by decide +kernel
theorem dX11_save_0 : decode cX11_save 0 = .ok (.aload_n 0, 1) := by decide +kernel
theorem dX11_save_1 : decode cX11_save 1 = .ok (.iconst 0, 1) := by decide +kernel
theorem dX11_save_2 : decode cX11_save 2 = .ok (.putfield 68, 3) := by decide +kernel
theorem dX11_save_5 : decode cX11_save 5 = .ok (.aload_n 0, 1) := by decide +kernel
theorem dX11_save_6 : decode cX11_save 6 = .ok (.getfield 7, 3) := by decide +kernel
theorem dX11_save_9 : decode cX11_save 9 = .ok (.iconst 0, 1) := by decide +kernel
theorem dX11_save_10 : decode cX11_save 10 = .ok (.aload_n 0, 1) := by decide +kernel
theorem dX11_save_11 : decode cX11_save 11 = .ok (.getfield 13, 3) := by decide +kernel
theorem dX11_save_14 : decode cX11_save 14 = .ok (.iconst 0, 1) := by decide +kernel
theorem dX11_save_15 : decode cX11_save 15 = .ok (.invokestatic 71, 3) := by decide +kernel
theorem dX11_save_18 : decode cX11_save 18 = .ok (.aload_n 0, 1) := by decide +kernel
theorem dX11_save_19 : decode cX11_save 19 = .ok (.iconst 1, 1) := by decide +kernel
theorem dX11_save_20 : decode cX11_save 20 = .ok (.putfield 463, 3) := by decide +kernel
theorem dX11_save_23 : decode cX11_save 23 = .ok (.aload_n 0, 1) := by decide +kernel
theorem dX11_save_24 : decode cX11_save 24 = .ok (.getfield 7, 3) := by decide +kernel
theorem dX11_save_27 : decode cX11_save 27 = .ok (.iconst 2, 1) := by decide +kernel
theorem dX11_save_28 : decode cX11_save 28 = .ok (.iaload, 1) := by decide +kernel
theorem dX11_save_29 : decode cX11_save 29 = .ok (.ireturn, 1) := by decide +kernel
theorem dX11_restore_0 : decode cX11_restore 0 = .ok (.aload_n 0, 1) := by decide +kernel
theorem dX11_restore_1 : decode cX11_restore 1 = .ok (.aload_n 0, 1) := by decide +kernel
theorem dX11_restore_2 : decode cX11_restore 2 = .ok (.getfield 463, 3) := by decide +kernel
theorem dX11_restore_5 : decode cX11_restore 5 = .ok (.invokevirtual 210, 3) := by decide +kernel
theorem dX11_restore_8 : decode cX11_restore 8 = .ok (.ifCond .ne 5, 3) := by decide +kernel
theorem dX11_restore_11 : decode cX11_restore 11 = .ok (.iconst 0, 1) := by decide +kernel
theorem dX11_restore_12 : decode cX11_restore 12 = .ok (.ireturn, 1) := by decide +kernel
theorem dX11_restore_13 : decode cX11_restore 13 = .ok (.aload_n 0, 1) := by decide +kernel
theorem dX11_restore_14 : decode cX11_restore 14 = .ok (.getfield 13, 3) := by decide +kernel
theorem dX11_restore_17 : decode cX11_restore 17 = .ok (.iconst 0, 1) := by decide +kernel
theorem dX11_restore_18 : decode cX11_restore 18 = .ok (.aload_n 0, 1) := by decide +kernel
theorem dX11_restore_19 : decode cX11_restore 19 = .ok (.getfield 7, 3) := by decide +kernel
theorem dX11_restore_22 : decode cX11_restore 22 = .ok (.iconst 0, 1) := by decide +kernel
theorem dX11_restore_23 : decode cX11_restore 23 = .ok (.invokestatic 71, 3) := by decide +kernel
theorem dX11_restore_26 : decode cX11_restore 26 = .ok (.aload_n 0, 1) := by decide +kernel
theorem dX11_restore_27 : decode cX11_restore 27 = .ok (.iconst 0, 1) := by decide +kernel
theorem dX11_restore_28 : decode cX11_restore 28 = .ok (.putfield 328, 3) := by decide +kernel
theorem dX11_restore_31 : decode cX11_restore 31 = .ok (.aload_n 0, 1) := by decide +kernel
theorem dX11_restore_32 : decode cX11_restore 32 = .ok (.getfield 7, 3) := by decide +kernel
theorem dX11_restore_35 : decode cX11_restore 35 = .ok (.iconst 2, 1) := by decide +kernel
theorem dX11_restore_36 : decode cX11_restore 36 = .ok (.iaload, 1) := by decide +kernel
theorem dX11_restore_37 : decode cX11_restore 37 = .ok (.ireturn, 1) := by decide +kernel
theorem dX11_writes_0 : decode cX11_writes 0 = .ok (.aload_n 0, 1) := by decide +kernel
theorem dX11_writes_1 : decode cX11_writes 1 = .ok (.getfield 48, 3) := by decide +kernel
theorem dX11_writes_4 : decode cX11_writes 4 = .ok (.aload_n 0, 1) := by decide +kernel
theorem dX11_writes_5 : decode cX11_writes 5 = .ok (.getfield 467, 3) := by decide +kernel
theorem dX11_writes_8 : decode cX11_writes 8 = .ok (.iload_n 1, 1) := by decide +kernel
theorem dX11_writes_9 : decode cX11_writes 9 = .ok (.iastore, 1) := by decide +kernel
theorem dX11_writes_10 : decode cX11_writes 10 = .ok (.aload_n 0, 1) := by decide +kernel
theorem dX11_writes_11 : decode cX11_writes 11 = .ok (.dup, 1) := by decide +kernel
theorem dX11_writes_12 : decode cX11_writes 12 = .ok (.getfield 467, 3) := by decide +kernel
theorem dX11_writes_15 : decode cX11_writes 15 = .ok (.iconst 1, 1) := by decide +kernel
theorem dX11_writes_16 : decode cX11_writes 16 = .ok (.iadd, 1) := by decide +kernel
theorem dX11_writes_17 : decode cX11_writes 17 = .ok (.putfield 467, 3) := by decide +kernel
theorem dX11_writes_20 : decode cX11_writes 20 = .ok (.return_, 1) := by decide +kernel
theorem dX11_writesName_0 : decode cX11_writesName 0 = .ok (.iconst 0, 1) := by decide +kernel
theorem dX11_writesName_1 : decode cX11_writesName 1 = .ok (.istore_n 2, 1) := by decide +kernel
theorem dX11_writesName_2 : decode cX11_writesName 2 = .ok (.iload_n 2, 1) := by decide +kernel
theorem dX11_writesName_3 : decode cX11_writesName 3 = .ok (.aload_n 0, 1) := by decide +kernel
theorem dX11_writesName_4 : decode cX11_writesName 4 = .ok (.getfield 7, 3) := by decide +kernel
theorem dX11_writesName_7 : decode cX11_writesName 7 = .ok (.iload_n 1, 1) := by decide +kernel
theorem dX11_writesName_8 : decode cX11_writesName 8 = .ok (.iaload, 1) := by decide +kernel
theorem dX11_writesName_9 : decode cX11_writesName 9 = .ok (.if_icmp .ge 23, 3) := by decide +kernel
theorem dX11_writesName_12 : decode cX11_writesName 12 = .ok (.aload_n 0, 1) := by decide +kernel
theorem dX11_writesName_13 : decode cX11_writesName 13 = .ok (.aload_n 0, 1) := by decide +kernel
theorem dX11_writesName_14 : decode cX11_writesName 14 = .ok (.getfield 7, 3) := by decide +kernel
theorem dX11_writesName_17 : decode cX11_writesName 17 = .ok (.iload_n 1, 1) := by decide +kernel
theorem dX11_writesName_18 : decode cX11_writesName 18 = .ok (.iconst 1, 1) := by decide +kernel
theorem dX11_writesName_19 : decode cX11_writesName 19 = .ok (.iadd, 1) := by decide +kernel
theorem dX11_writesName_20 : decode cX11_writesName 20 = .ok (.iload_n 2, 1) := by decide +kernel
theorem dX11_writesName_21 : decode cX11_writesName 21 = .ok (.iadd, 1) := by decide +kernel
theorem dX11_writesName_22 : decode cX11_writesName 22 = .ok (.iaload, 1) := by decide +kernel
theorem dX11_writesName_23 : decode cX11_writesName 23 = .ok (.invokevirtual 470, 3) := by decide +kernel
theorem dX11_writesName_26 : decode cX11_writesName 26 = .ok (.iinc 2 1, 3) := by decide +kernel
theorem dX11_writesName_29 : decode cX11_writesName 29 = .ok (.goto (-27), 3) := by decide +kernel
theorem dX11_writesName_32 : decode cX11_writesName 32 = .ok (.return_, 1) := by decide +kernel
theorem dX11_formatContracts_0 : decode cX11_formatContracts 0 = .ok (.aload_n 0, 1) := by decide +kernel
theorem dX11_formatContracts_1 : decode cX11_formatContracts 1 = .ok (.iconst 0, 1) := by decide +kernel
theorem dX11_formatContracts_2 : decode cX11_formatContracts 2 = .ok (.putfield 68, 3) := by decide +kernel
theorem dX11_formatContracts_5 : decode cX11_formatContracts 5 = .ok (.aload_n 0, 1) := by decide +kernel
theorem dX11_formatContracts_6 : decode cX11_formatContracts 6 = .ok (.iconst 0, 1) := by decide +kernel
theorem dX11_formatContracts_7 : decode cX11_formatContracts 7 = .ok (.putfield 467, 3) := by decide +kernel
theorem dX11_formatContracts_10 : decode cX11_formatContracts 10 = .ok (.iconst 0, 1) := by decide +kernel
theorem dX11_formatContracts_11 : decode cX11_formatContracts 11 = .ok (.istore_n 1, 1) := by decide +kernel
theorem dX11_formatContracts_12 : decode cX11_formatContracts 12 = .ok (.iload_n 1, 1) := by decide +kernel
theorem dX11_formatContracts_13 : decode cX11_formatContracts 13 = .ok (.aload_n 0, 1) := by decide +kernel
theorem dX11_formatContracts_14 : decode cX11_formatContracts 14 = .ok (.getfield 7, 3) := by decide +kernel
theorem dX11_formatContracts_17 : decode cX11_formatContracts 17 = .ok (.iconst 1, 1) := by decide +kernel
theorem dX11_formatContracts_18 : decode cX11_formatContracts 18 = .ok (.iaload, 1) := by decide +kernel
theorem dX11_formatContracts_19 : decode cX11_formatContracts 19 = .ok (.if_icmp .ge 80, 3) := by decide +kernel
theorem dX11_formatContracts_22 : decode cX11_formatContracts 22 = .ok (.iload_n 1, 1) := by decide +kernel
theorem dX11_formatContracts_23 : decode cX11_formatContracts 23 = .ok (.ifCond .le 9, 3) := by decide +kernel
theorem dX11_formatContracts_26 : decode cX11_formatContracts 26 = .ok (.aload_n 0, 1) := by decide +kernel
theorem dX11_formatContracts_27 : decode cX11_formatContracts 27 = .ok (.bipush 32, 2) := by decide +kernel
theorem dX11_formatContracts_29 : decode cX11_formatContracts 29 = .ok (.invokevirtual 470, 3) := by decide +kernel
theorem dX11_formatContracts_32 : decode cX11_formatContracts 32 = .ok (.aload_n 0, 1) := by decide +kernel
theorem dX11_formatContracts_33 : decode cX11_formatContracts 33 = .ok (.iload_n 1, 1) := by decide +kernel
theorem dX11_formatContracts_34 : decode cX11_formatContracts 34 = .ok (.iconst 1, 1) := by decide +kernel
theorem dX11_formatContracts_35 : decode cX11_formatContracts 35 = .ok (.invokestatic 259, 3) := by decide +kernel
theorem dX11_formatContracts_38 : decode cX11_formatContracts 38 = .ok (.invokevirtual 473, 3) := by decide +kernel
theorem dX11_formatContracts_41 : decode cX11_formatContracts 41 = .ok (.aload_n 0, 1) := by decide +kernel
theorem dX11_formatContracts_42 : decode cX11_formatContracts 42 = .ok (.bipush 61, 2) := by decide +kernel
theorem dX11_formatContracts_44 : decode cX11_formatContracts 44 = .ok (.invokevirtual 470, 3) := by decide +kernel
theorem dX11_formatContracts_47 : decode cX11_formatContracts 47 = .ok (.iconst 0, 1) := by decide +kernel
theorem dX11_formatContracts_48 : decode cX11_formatContracts 48 = .ok (.istore_n 2, 1) := by decide +kernel
theorem dX11_formatContracts_49 : decode cX11_formatContracts 49 = .ok (.iload_n 2, 1) := by decide +kernel
theorem dX11_formatContracts_50 : decode cX11_formatContracts 50 = .ok (.aload_n 0, 1) := by decide +kernel
theorem dX11_formatContracts_51 : decode cX11_formatContracts 51 = .ok (.iload_n 1, 1) := by decide +kernel
theorem dX11_formatContracts_52 : decode cX11_formatContracts 52 = .ok (.bipush 13, 2) := by decide +kernel
theorem dX11_formatContracts_54 : decode cX11_formatContracts 54 = .ok (.invokevirtual 90, 3) := by decide +kernel
theorem dX11_formatContracts_57 : decode cX11_formatContracts 57 = .ok (.if_icmp .ge 36, 3) := by decide +kernel
theorem dX11_formatContracts_60 : decode cX11_formatContracts 60 = .ok (.iload_n 2, 1) := by decide +kernel
theorem dX11_formatContracts_61 : decode cX11_formatContracts 61 = .ok (.ifCond .le 9, 3) := by decide +kernel
theorem dX11_formatContracts_64 : decode cX11_formatContracts 64 = .ok (.aload_n 0, 1) := by decide +kernel
theorem dX11_formatContracts_65 : decode cX11_formatContracts 65 = .ok (.bipush 43, 2) := by decide +kernel
theorem dX11_formatContracts_67 : decode cX11_formatContracts 67 = .ok (.invokevirtual 470, 3) := by decide +kernel
theorem dX11_formatContracts_70 : decode cX11_formatContracts 70 = .ok (.aload_n 0, 1) := by decide +kernel
theorem dX11_formatContracts_71 : decode cX11_formatContracts 71 = .ok (.aload_n 0, 1) := by decide +kernel
theorem dX11_formatContracts_72 : decode cX11_formatContracts 72 = .ok (.iload_n 1, 1) := by decide +kernel
theorem dX11_formatContracts_73 : decode cX11_formatContracts 73 = .ok (.bipush 14, 2) := by decide +kernel
theorem dX11_formatContracts_75 : decode cX11_formatContracts 75 = .ok (.iload_n 2, 1) := by decide +kernel
theorem dX11_formatContracts_76 : decode cX11_formatContracts 76 = .ok (.iadd, 1) := by decide +kernel
theorem dX11_formatContracts_77 : decode cX11_formatContracts 77 = .ok (.invokevirtual 90, 3) := by decide +kernel
theorem dX11_formatContracts_80 : decode cX11_formatContracts 80 = .ok (.iconst 0, 1) := by decide +kernel
theorem dX11_formatContracts_81 : decode cX11_formatContracts 81 = .ok (.invokestatic 259, 3) := by decide +kernel
theorem dX11_formatContracts_84 : decode cX11_formatContracts 84 = .ok (.invokevirtual 473, 3) := by decide +kernel
theorem dX11_formatContracts_87 : decode cX11_formatContracts 87 = .ok (.iinc 2 1, 3) := by decide +kernel
theorem dX11_formatContracts_90 : decode cX11_formatContracts 90 = .ok (.goto (-41), 3) := by decide +kernel
theorem dX11_formatContracts_93 : decode cX11_formatContracts 93 = .ok (.iinc 1 1, 3) := by decide +kernel
theorem dX11_formatContracts_96 : decode cX11_formatContracts 96 = .ok (.goto (-84), 3) := by decide +kernel
theorem dX11_formatContracts_99 : decode cX11_formatContracts 99 = .ok (.aload_n 0, 1) := by decide +kernel
theorem dX11_formatContracts_100 : decode cX11_formatContracts 100 = .ok (.getfield 467, 3) := by decide +kernel
theorem dX11_formatContracts_103 : decode cX11_formatContracts 103 = .ok (.ireturn, 1) := by decide +kernel
theorem dX11_outputByte_0 : decode cX11_outputByte 0 = .ok (.aload_n 0, 1) := by decide +kernel
theorem dX11_outputByte_1 : decode cX11_outputByte 1 = .ok (.iconst 0, 1) := by decide +kernel
theorem dX11_outputByte_2 : decode cX11_outputByte 2 = .ok (.putfield 68, 3) := by decide +kernel
theorem dX11_outputByte_5 : decode cX11_outputByte 5 = .ok (.iload_n 1, 1) := by decide +kernel
theorem dX11_outputByte_6 : decode cX11_outputByte 6 = .ok (.i2l, 1) := by decide +kernel
theorem dX11_outputByte_7 : decode cX11_outputByte 7 = .ok (.lconst 0, 1) := by decide +kernel
theorem dX11_outputByte_8 : decode cX11_outputByte 8 = .ok (.aload_n 0, 1) := by decide +kernel
theorem dX11_outputByte_9 : decode cX11_outputByte 9 = .ok (.getfield 467, 3) := by decide +kernel
theorem dX11_outputByte_12 : decode cX11_outputByte 12 = .ok (.iconst 1, 1) := by decide +kernel
theorem dX11_outputByte_13 : decode cX11_outputByte 13 = .ok (.isub, 1) := by decide +kernel
theorem dX11_outputByte_14 : decode cX11_outputByte 14 = .ok (.i2l, 1) := by decide +kernel
theorem dX11_outputByte_15 : decode cX11_outputByte 15 = .ok (.invokestatic 75, 3) := by decide +kernel
theorem dX11_outputByte_18 : decode cX11_outputByte 18 = .ok (.ifCond .eq 12, 3) := by decide +kernel
theorem dX11_outputByte_21 : decode cX11_outputByte 21 = .ok (.aload_n 0, 1) := by decide +kernel
theorem dX11_outputByte_22 : decode cX11_outputByte 22 = .ok (.getfield 48, 3) := by decide +kernel
theorem dX11_outputByte_25 : decode cX11_outputByte 25 = .ok (.iload_n 1, 1) := by decide +kernel
theorem dX11_outputByte_26 : decode cX11_outputByte 26 = .ok (.iaload, 1) := by decide +kernel
theorem dX11_outputByte_27 : decode cX11_outputByte 27 = .ok (.goto 4, 3) := by decide +kernel
theorem dX11_outputByte_30 : decode cX11_outputByte 30 = .ok (.iconst (-1), 1) := by decide +kernel
theorem dX11_outputByte_31 : decode cX11_outputByte 31 = .ok (.ireturn, 1) := by decide +kernel
theorem dJ9_floorMod_7cf53_0 : decode cJ9_floorMod_7cf53 0 = .ok (.iload_n 0, 1) := by decide +kernel
theorem dJ9_floorMod_7cf53_1 : decode cJ9_floorMod_7cf53 1 = .ok (.iload_n 1, 1) := by decide +kernel
theorem dJ9_floorMod_7cf53_2 : decode cJ9_floorMod_7cf53 2 = .ok (.irem, 1) := by decide +kernel
theorem dJ9_floorMod_7cf53_3 : decode cJ9_floorMod_7cf53 3 = .ok (.istore_n 2, 1) := by decide +kernel
theorem dJ9_floorMod_7cf53_4 : decode cJ9_floorMod_7cf53 4 = .ok (.iload_n 0, 1) := by decide +kernel
theorem dJ9_floorMod_7cf53_5 : decode cJ9_floorMod_7cf53 5 = .ok (.iload_n 1, 1) := by decide +kernel
theorem dJ9_floorMod_7cf53_6 : decode cJ9_floorMod_7cf53 6 = .ok (.ixor, 1) := by decide +kernel
theorem dJ9_floorMod_7cf53_7 : decode cJ9_floorMod_7cf53 7 = .ok (.ifCond .ge 11, 3) := by decide +kernel
theorem dJ9_floorMod_7cf53_10 : decode cJ9_floorMod_7cf53 10 = .ok (.iload_n 2, 1) := by decide +kernel
theorem dJ9_floorMod_7cf53_11 : decode cJ9_floorMod_7cf53 11 = .ok (.ifCond .eq 7, 3) := by decide +kernel
theorem dJ9_floorMod_7cf53_14 : decode cJ9_floorMod_7cf53 14 = .ok (.iload_n 2, 1) := by decide +kernel
theorem dJ9_floorMod_7cf53_15 : decode cJ9_floorMod_7cf53 15 = .ok (.iload_n 1, 1) := by decide +kernel
theorem dJ9_floorMod_7cf53_16 : decode cJ9_floorMod_7cf53 16 = .ok (.iadd, 1) := by decide +kernel
theorem dJ9_floorMod_7cf53_17 : decode cJ9_floorMod_7cf53 17 = .ok (.ireturn, 1) := by decide +kernel
theorem dJ9_floorMod_7cf53_18 : decode cJ9_floorMod_7cf53 18 = .ok (.iload_n 2, 1) := by decide +kernel
theorem dJ9_floorMod_7cf53_19 : decode cJ9_floorMod_7cf53 19 = .ok (.ireturn, 1) := by decide +kernel
theorem dJ9_abs_0f7a4_0 : decode cJ9_abs_0f7a4 0 = .ok (.iload_n 0, 1) := by decide +kernel
theorem dJ9_abs_0f7a4_1 : decode cJ9_abs_0f7a4 1 = .ok (.ifCond .ge 8, 3) := by decide +kernel
theorem dJ9_abs_0f7a4_4 : decode cJ9_abs_0f7a4 4 = .ok (.iload_n 0, 1) := by decide +kernel
theorem dJ9_abs_0f7a4_5 : decode cJ9_abs_0f7a4 5 = .ok (.ineg, 1) := by decide +kernel
theorem dJ9_abs_0f7a4_6 : decode cJ9_abs_0f7a4 6 = .ok (.goto 4, 3) := by decide +kernel
theorem dJ9_abs_0f7a4_9 : decode cJ9_abs_0f7a4 9 = .ok (.iload_n 0, 1) := by decide +kernel
theorem dJ9_abs_0f7a4_10 : decode cJ9_abs_0f7a4 10 = .ok (.ireturn, 1) := by decide +kernel
theorem dJ9_max_7cf53_0 : decode cJ9_max_7cf53 0 = .ok (.iload_n 0, 1) := by decide +kernel
theorem dJ9_max_7cf53_1 : decode cJ9_max_7cf53 1 = .ok (.iload_n 1, 1) := by decide +kernel
theorem dJ9_max_7cf53_2 : decode cJ9_max_7cf53 2 = .ok (.if_icmp .lt 7, 3) := by decide +kernel
theorem dJ9_max_7cf53_5 : decode cJ9_max_7cf53 5 = .ok (.iload_n 0, 1) := by decide +kernel
theorem dJ9_max_7cf53_6 : decode cJ9_max_7cf53 6 = .ok (.goto 4, 3) := by decide +kernel
theorem dJ9_max_7cf53_9 : decode cJ9_max_7cf53 9 = .ok (.iload_n 1, 1) := by decide +kernel
theorem dJ9_max_7cf53_10 : decode cJ9_max_7cf53 10 = .ok (.ireturn, 1) := by decide +kernel
theorem dJ0_length_8abf5_0 : decode cJ0_length_8abf5 0 = .ok (.aload_n 0, 1) := by decide +kernel
theorem dJ0_length_8abf5_1 : decode cJ0_length_8abf5 1 = .ok (.getfield 9, 3) := by decide +kernel
theorem dJ0_length_8abf5_4 : decode cJ0_length_8abf5 4 = .ok (.arraylength, 1) := by decide +kernel
theorem dJ0_length_8abf5_5 : decode cJ0_length_8abf5 5 = .ok (.aload_n 0, 1) := by decide +kernel
theorem dJ0_length_8abf5_6 : decode cJ0_length_8abf5 6 = .ok (.invokevirtual 335, 3) := by decide +kernel
theorem dJ0_length_8abf5_9 : decode cJ0_length_8abf5 9 = .ok (.ishr, 1) := by decide +kernel
theorem dJ0_length_8abf5_10 : decode cJ0_length_8abf5 10 = .ok (.ireturn, 1) := by decide +kernel
theorem dJ0_charAt_5068e_0 : decode cJ0_charAt_5068e 0 = .ok (.aload_n 0, 1) := by decide +kernel
theorem dJ0_charAt_5068e_1 : decode cJ0_charAt_5068e 1 = .ok (.invokevirtual 492, 3) := by decide +kernel
theorem dJ0_charAt_5068e_4 : decode cJ0_charAt_5068e 4 = .ok (.ifCond .eq 12, 3) := by decide +kernel
theorem dJ0_charAt_5068e_7 : decode cJ0_charAt_5068e 7 = .ok (.aload_n 0, 1) := by decide +kernel
theorem dJ0_charAt_5068e_8 : decode cJ0_charAt_5068e 8 = .ok (.getfield 9, 3) := by decide +kernel
theorem dJ0_charAt_5068e_11 : decode cJ0_charAt_5068e 11 = .ok (.iload_n 1, 1) := by decide +kernel
theorem dJ0_charAt_5068e_12 : decode cJ0_charAt_5068e 12 = .ok (.invokestatic 495, 3) := by decide +kernel
theorem dJ0_charAt_5068e_15 : decode cJ0_charAt_5068e 15 = .ok (.ireturn, 1) := by decide +kernel
theorem dJ0_charAt_5068e_16 : decode cJ0_charAt_5068e 16 = .ok (.aload_n 0, 1) := by decide +kernel
theorem dJ0_charAt_5068e_17 : decode cJ0_charAt_5068e 17 = .ok (.getfield 9, 3) := by decide +kernel
theorem dJ0_charAt_5068e_20 : decode cJ0_charAt_5068e 20 = .ok (.iload_n 1, 1) := by decide +kernel
theorem dJ0_charAt_5068e_21 : decode cJ0_charAt_5068e 21 = .ok (.invokestatic 498, 3) := by decide +kernel
theorem dJ0_charAt_5068e_24 : decode cJ0_charAt_5068e 24 = .ok (.ireturn, 1) := by decide +kernel
theorem dJ0_coder_7d493_0 : decode cJ0_coder_7d493 0 = .ok (.getstatic 38, 3) := by decide +kernel
theorem dJ0_coder_7d493_3 : decode cJ0_coder_7d493 3 = .ok (.ifCond .eq 10, 3) := by decide +kernel
theorem dJ0_coder_7d493_6 : decode cJ0_coder_7d493 6 = .ok (.aload_n 0, 1) := by decide +kernel
theorem dJ0_coder_7d493_7 : decode cJ0_coder_7d493 7 = .ok (.getfield 15, 3) := by decide +kernel
theorem dJ0_coder_7d493_10 : decode cJ0_coder_7d493 10 = .ok (.goto 4, 3) := by decide +kernel
theorem dJ0_coder_7d493_13 : decode cJ0_coder_7d493 13 = .ok (.iconst 1, 1) := by decide +kernel
theorem dJ0_coder_7d493_14 : decode cJ0_coder_7d493 14 = .ok (.ireturn, 1) := by decide +kernel
theorem dJ0_isLatin1_aae02_0 : decode cJ0_isLatin1_aae02 0 = .ok (.getstatic 38, 3) := by decide +kernel
theorem dJ0_isLatin1_aae02_3 : decode cJ0_isLatin1_aae02 3 = .ok (.ifCond .eq 14, 3) := by decide +kernel
theorem dJ0_isLatin1_aae02_6 : decode cJ0_isLatin1_aae02 6 = .ok (.aload_n 0, 1) := by decide +kernel
theorem dJ0_isLatin1_aae02_7 : decode cJ0_isLatin1_aae02 7 = .ok (.getfield 15, 3) := by decide +kernel
theorem dJ0_isLatin1_aae02_10 : decode cJ0_isLatin1_aae02 10 = .ok (.ifCond .ne 7, 3) := by decide +kernel
theorem dJ0_isLatin1_aae02_13 : decode cJ0_isLatin1_aae02 13 = .ok (.iconst 1, 1) := by decide +kernel
theorem dJ0_isLatin1_aae02_14 : decode cJ0_isLatin1_aae02 14 = .ok (.goto 4, 3) := by decide +kernel
theorem dJ0_isLatin1_aae02_17 : decode cJ0_isLatin1_aae02 17 = .ok (.iconst 0, 1) := by decide +kernel
theorem dJ0_isLatin1_aae02_18 : decode cJ0_isLatin1_aae02 18 = .ok (.ireturn, 1) := by decide +kernel
theorem dJ0_checkIndex_df160_0 : decode cJ0_checkIndex_df160 0 = .ok (.iload_n 0, 1) := by decide +kernel
theorem dJ0_checkIndex_df160_1 : decode cJ0_checkIndex_df160 1 = .ok (.iload_n 1, 1) := by decide +kernel
theorem dJ0_checkIndex_df160_2 : decode cJ0_checkIndex_df160 2 = .ok (.getstatic 1053, 3) := by decide +kernel
theorem dJ0_checkIndex_df160_5 : decode cJ0_checkIndex_df160 5 = .ok (.invokestatic 1059, 3) := by decide +kernel
theorem dJ0_checkIndex_df160_8 : decode cJ0_checkIndex_df160 8 = .ok (.pop, 1) := by decide +kernel
theorem dJ0_checkIndex_df160_9 : decode cJ0_checkIndex_df160 9 = .ok (.return_, 1) := by decide +kernel
theorem dJ1_charAt_3b067_0 : decode cJ1_charAt_3b067 0 = .ok (.iload_n 1, 1) := by decide +kernel
theorem dJ1_charAt_3b067_1 : decode cJ1_charAt_3b067 1 = .ok (.aload_n 0, 1) := by decide +kernel
theorem dJ1_charAt_3b067_2 : decode cJ1_charAt_3b067 2 = .ok (.arraylength, 1) := by decide +kernel
theorem dJ1_charAt_3b067_3 : decode cJ1_charAt_3b067 3 = .ok (.invokestatic 9, 3) := by decide +kernel
theorem dJ1_charAt_3b067_6 : decode cJ1_charAt_3b067 6 = .ok (.aload_n 0, 1) := by decide +kernel
theorem dJ1_charAt_3b067_7 : decode cJ1_charAt_3b067 7 = .ok (.iload_n 1, 1) := by decide +kernel
theorem dJ1_charAt_3b067_8 : decode cJ1_charAt_3b067 8 = .ok (.baload, 1) := by decide +kernel
theorem dJ1_charAt_3b067_9 : decode cJ1_charAt_3b067 9 = .ok (.sipush 255, 3) := by decide +kernel
theorem dJ1_charAt_3b067_12 : decode cJ1_charAt_3b067 12 = .ok (.iand, 1) := by decide +kernel
theorem dJ1_charAt_3b067_13 : decode cJ1_charAt_3b067 13 = .ok (.i2c, 1) := by decide +kernel
theorem dJ1_charAt_3b067_14 : decode cJ1_charAt_3b067 14 = .ok (.ireturn, 1) := by decide +kernel
theorem dJ2_getChar_3b067_0 : decode cJ2_getChar_3b067 0 = .ok (.getstatic 44, 3) := by decide +kernel
theorem dJ2_getChar_3b067_3 : decode cJ2_getChar_3b067 3 = .ok (.ifCond .ne 25, 3) := by decide +kernel
theorem dJ2_getChar_3b067_6 : decode cJ2_getChar_3b067 6 = .ok (.iload_n 1, 1) := by decide +kernel
theorem dJ2_getChar_3b067_7 : decode cJ2_getChar_3b067 7 = .ok (.ifCond .lt 11, 3) := by decide +kernel
theorem dJ2_getChar_3b067_10 : decode cJ2_getChar_3b067 10 = .ok (.iload_n 1, 1) := by decide +kernel
theorem dJ2_getChar_3b067_11 : decode cJ2_getChar_3b067 11 = .ok (.aload_n 0, 1) := by decide +kernel
theorem dJ2_getChar_3b067_12 : decode cJ2_getChar_3b067 12 = .ok (.invokestatic 48, 3) := by decide +kernel
theorem dJ2_getChar_3b067_15 : decode cJ2_getChar_3b067 15 = .ok (.if_icmp .lt 13, 3) := by decide +kernel
theorem dJ2_getChar_3b067_18 : decode cJ2_getChar_3b067 18 = .ok (.new 52, 3) := by decide +kernel
theorem dJ2_getChar_3b067_21 : decode cJ2_getChar_3b067 21 = .ok (.dup, 1) := by decide +kernel
theorem dJ2_getChar_3b067_22 : decode cJ2_getChar_3b067 22 = .ok (.ldc 54, 2) := by decide +kernel
theorem dJ2_getChar_3b067_24 : decode cJ2_getChar_3b067 24 = .ok (.invokespecial 56, 3) := by decide +kernel
theorem dJ2_getChar_3b067_27 : decode cJ2_getChar_3b067 27 = .ok (.athrow, 1) := by decide +kernel
theorem dJ2_getChar_3b067_28 : decode cJ2_getChar_3b067 28 = .ok (.iload_n 1, 1) := by decide +kernel
theorem dJ2_getChar_3b067_29 : decode cJ2_getChar_3b067 29 = .ok (.iconst 1, 1) := by decide +kernel
theorem dJ2_getChar_3b067_30 : decode cJ2_getChar_3b067 30 = .ok (.ishl, 1) := by decide +kernel
theorem dJ2_getChar_3b067_31 : decode cJ2_getChar_3b067 31 = .ok (.istore_n 1, 1) := by decide +kernel
theorem dJ2_getChar_3b067_32 : decode cJ2_getChar_3b067 32 = .ok (.aload_n 0, 1) := by decide +kernel
theorem dJ2_getChar_3b067_33 : decode cJ2_getChar_3b067 33 = .ok (.iload_n 1, 1) := by decide +kernel
theorem dJ2_getChar_3b067_34 : decode cJ2_getChar_3b067 34 = .ok (.iinc 1 1, 3) := by decide +kernel
theorem dJ2_getChar_3b067_37 : decode cJ2_getChar_3b067 37 = .ok (.baload, 1) := by decide +kernel
theorem dJ2_getChar_3b067_38 : decode cJ2_getChar_3b067 38 = .ok (.sipush 255, 3) := by decide +kernel
theorem dJ2_getChar_3b067_41 : decode cJ2_getChar_3b067 41 = .ok (.iand, 1) := by decide +kernel
theorem dJ2_getChar_3b067_42 : decode cJ2_getChar_3b067 42 = .ok (.getstatic 59, 3) := by decide +kernel
theorem dJ2_getChar_3b067_45 : decode cJ2_getChar_3b067 45 = .ok (.ishl, 1) := by decide +kernel
theorem dJ2_getChar_3b067_46 : decode cJ2_getChar_3b067 46 = .ok (.aload_n 0, 1) := by decide +kernel
theorem dJ2_getChar_3b067_47 : decode cJ2_getChar_3b067 47 = .ok (.iload_n 1, 1) := by decide +kernel
theorem dJ2_getChar_3b067_48 : decode cJ2_getChar_3b067 48 = .ok (.baload, 1) := by decide +kernel
theorem dJ2_getChar_3b067_49 : decode cJ2_getChar_3b067 49 = .ok (.sipush 255, 3) := by decide +kernel
theorem dJ2_getChar_3b067_52 : decode cJ2_getChar_3b067 52 = .ok (.iand, 1) := by decide +kernel
theorem dJ2_getChar_3b067_53 : decode cJ2_getChar_3b067 53 = .ok (.getstatic 63, 3) := by decide +kernel
theorem dJ2_getChar_3b067_56 : decode cJ2_getChar_3b067 56 = .ok (.ishl, 1) := by decide +kernel
theorem dJ2_getChar_3b067_57 : decode cJ2_getChar_3b067 57 = .ok (.ior, 1) := by decide +kernel
theorem dJ2_getChar_3b067_58 : decode cJ2_getChar_3b067 58 = .ok (.i2c, 1) := by decide +kernel
theorem dJ2_getChar_3b067_59 : decode cJ2_getChar_3b067 59 = .ok (.ireturn, 1) := by decide +kernel
theorem dJ2_length_9d52b_0 : decode cJ2_length_9d52b 0 = .ok (.aload_n 0, 1) := by decide +kernel
theorem dJ2_length_9d52b_1 : decode cJ2_length_9d52b 1 = .ok (.arraylength, 1) := by decide +kernel
theorem dJ2_length_9d52b_2 : decode cJ2_length_9d52b 2 = .ok (.iconst 1, 1) := by decide +kernel
theorem dJ2_length_9d52b_3 : decode cJ2_length_9d52b 3 = .ok (.ishr, 1) := by decide +kernel
theorem dJ2_length_9d52b_4 : decode cJ2_length_9d52b 4 = .ok (.ireturn, 1) := by decide +kernel
theorem dJ2_charAt_3b067_0 : decode cJ2_charAt_3b067 0 = .ok (.iload_n 1, 1) := by decide +kernel
theorem dJ2_charAt_3b067_1 : decode cJ2_charAt_3b067 1 = .ok (.aload_n 0, 1) := by decide +kernel
theorem dJ2_charAt_3b067_2 : decode cJ2_charAt_3b067 2 = .ok (.invokestatic 67, 3) := by decide +kernel
theorem dJ2_charAt_3b067_5 : decode cJ2_charAt_3b067 5 = .ok (.aload_n 0, 1) := by decide +kernel
theorem dJ2_charAt_3b067_6 : decode cJ2_charAt_3b067 6 = .ok (.iload_n 1, 1) := by decide +kernel
theorem dJ2_charAt_3b067_7 : decode cJ2_charAt_3b067 7 = .ok (.invokestatic 71, 3) := by decide +kernel
theorem dJ2_charAt_3b067_10 : decode cJ2_charAt_3b067 10 = .ok (.ireturn, 1) := by decide +kernel
theorem dJ2_checkIndex_2214a_0 : decode cJ2_checkIndex_2214a 0 = .ok (.iload_n 0, 1) := by decide +kernel
theorem dJ2_checkIndex_2214a_1 : decode cJ2_checkIndex_2214a 1 = .ok (.aload_n 1, 1) := by decide +kernel
theorem dJ2_checkIndex_2214a_2 : decode cJ2_checkIndex_2214a 2 = .ok (.invokestatic 48, 3) := by decide +kernel
theorem dJ2_checkIndex_2214a_5 : decode cJ2_checkIndex_2214a 5 = .ok (.invokestatic 414, 3) := by decide +kernel
theorem dJ2_checkIndex_2214a_8 : decode cJ2_checkIndex_2214a 8 = .ok (.return_, 1) := by decide +kernel
theorem dJ3_checkIndex_8e157_0 : decode cJ3_checkIndex_8e157 0 = .ok (.iload_n 0, 1) := by decide +kernel
theorem dJ3_checkIndex_8e157_1 : decode cJ3_checkIndex_8e157 1 = .ok (.ifCond .lt 8, 3) := by decide +kernel
theorem dJ3_checkIndex_8e157_4 : decode cJ3_checkIndex_8e157 4 = .ok (.iload_n 0, 1) := by decide +kernel
theorem dJ3_checkIndex_8e157_5 : decode cJ3_checkIndex_8e157 5 = .ok (.iload_n 1, 1) := by decide +kernel
theorem dJ3_checkIndex_8e157_6 : decode cJ3_checkIndex_8e157 6 = .ok (.if_icmp .lt 10, 3) := by decide +kernel
theorem dJ3_checkIndex_8e157_9 : decode cJ3_checkIndex_8e157 9 = .ok (.aload_n 2, 1) := by decide +kernel
theorem dJ3_checkIndex_8e157_10 : decode cJ3_checkIndex_8e157 10 = .ok (.iload_n 0, 1) := by decide +kernel
theorem dJ3_checkIndex_8e157_11 : decode cJ3_checkIndex_8e157 11 = .ok (.iload_n 1, 1) := by decide +kernel
theorem dJ3_checkIndex_8e157_12 : decode cJ3_checkIndex_8e157 12 = .ok (.invokestatic 95, 3) := by decide +kernel
theorem dJ3_checkIndex_8e157_15 : decode cJ3_checkIndex_8e157 15 = .ok (.athrow, 1) := by decide +kernel
theorem dJ3_checkIndex_8e157_16 : decode cJ3_checkIndex_8e157 16 = .ok (.iload_n 0, 1) := by decide +kernel
theorem dJ3_checkIndex_8e157_17 : decode cJ3_checkIndex_8e157 17 = .ok (.ireturn, 1) := by decide +kernel
theorem dL_append_0 : decode cL_append 0 = .ok (.aload 6, 2) := by decide +kernel
theorem dL_append_2 : decode cL_append 2 = .ok (.iconst 0, 1) := by decide +kernel
theorem dL_append_3 : decode cL_append 3 = .ok (.aload_n 0, 1) := by decide +kernel
theorem dL_append_4 : decode cL_append 4 = .ok (.iload_n 1, 1) := by decide +kernel
theorem dL_append_5 : decode cL_append 5 = .ok (.iload_n 2, 1) := by decide +kernel
theorem dL_append_6 : decode cL_append 6 = .ok (.iload_n 3, 1) := by decide +kernel
theorem dL_append_7 : decode cL_append 7 = .ok (.iload 4, 2) := by decide +kernel
theorem dL_append_9 : decode cL_append 9 = .ok (.iload 5, 2) := by decide +kernel
theorem dL_append_11 : decode cL_append 11 = .ok (.invokevirtual 7, 3) := by decide +kernel
theorem dL_append_14 : decode cL_append 14 = .ok (.i2l, 1) := by decide +kernel
theorem dL_append_15 : decode cL_append 15 = .ok (.lastore, 1) := by decide +kernel
theorem dL_append_16 : decode cL_append 16 = .ok (.goto 7, 3) := by decide +kernel
theorem dL_append_19 : decode cL_append 19 = .ok (.astore 7, 2) := by decide +kernel
theorem dL_append_21 : decode cL_append 21 = .ok (.iconst 1, 1) := by decide +kernel
theorem dL_append_22 : decode cL_append 22 = .ok (.ireturn, 1) := by decide +kernel
theorem dL_append_23 : decode cL_append 23 = .ok (.iconst 0, 1) := by decide +kernel
theorem dL_append_24 : decode cL_append 24 = .ok (.ireturn, 1) := by decide +kernel
theorem dL_truncate_0 : decode cL_truncate 0 = .ok (.aload_n 2, 1) := by decide +kernel
theorem dL_truncate_1 : decode cL_truncate 1 = .ok (.iconst 0, 1) := by decide +kernel
theorem dL_truncate_2 : decode cL_truncate 2 = .ok (.aload_n 0, 1) := by decide +kernel
theorem dL_truncate_3 : decode cL_truncate 3 = .ok (.iload_n 1, 1) := by decide +kernel
theorem dL_truncate_4 : decode cL_truncate 4 = .ok (.invokevirtual 15, 3) := by decide +kernel
theorem dL_truncate_7 : decode cL_truncate 7 = .ok (.i2l, 1) := by decide +kernel
theorem dL_truncate_8 : decode cL_truncate 8 = .ok (.lastore, 1) := by decide +kernel
theorem dL_truncate_9 : decode cL_truncate 9 = .ok (.goto 6, 3) := by decide +kernel
theorem dL_truncate_12 : decode cL_truncate 12 = .ok (.astore_n 3, 1) := by decide +kernel
theorem dL_truncate_13 : decode cL_truncate 13 = .ok (.iconst 1, 1) := by decide +kernel
theorem dL_truncate_14 : decode cL_truncate 14 = .ok (.ireturn, 1) := by decide +kernel
theorem dL_truncate_15 : decode cL_truncate 15 = .ok (.iconst 0, 1) := by decide +kernel
theorem dL_truncate_16 : decode cL_truncate 16 = .ok (.ireturn, 1) := by decide +kernel
theorem dL_load_0 : decode cL_load 0 = .ok (.aload_n 1, 1) := by decide +kernel
theorem dL_load_1 : decode cL_load 1 = .ok (.iconst 0, 1) := by decide +kernel
theorem dL_load_2 : decode cL_load 2 = .ok (.aload_n 0, 1) := by decide +kernel
theorem dL_load_3 : decode cL_load 3 = .ok (.invokevirtual 21, 3) := by decide +kernel
theorem dL_load_6 : decode cL_load 6 = .ok (.i2l, 1) := by decide +kernel
theorem dL_load_7 : decode cL_load 7 = .ok (.lastore, 1) := by decide +kernel
theorem dL_load_8 : decode cL_load 8 = .ok (.goto 6, 3) := by decide +kernel
theorem dL_load_11 : decode cL_load 11 = .ok (.astore_n 2, 1) := by decide +kernel
theorem dL_load_12 : decode cL_load 12 = .ok (.iconst 1, 1) := by decide +kernel
theorem dL_load_13 : decode cL_load 13 = .ok (.ireturn, 1) := by decide +kernel
theorem dL_load_14 : decode cL_load 14 = .ok (.iconst 0, 1) := by decide +kernel
theorem dL_load_15 : decode cL_load 15 = .ok (.ireturn, 1) := by decide +kernel
theorem dL_executeCommands_0 : decode cL_executeCommands 0 = .ok (.aload_n 1, 1) := by decide +kernel
theorem dL_executeCommands_1 : decode cL_executeCommands 1 = .ok (.iconst 0, 1) := by decide +kernel
theorem dL_executeCommands_2 : decode cL_executeCommands 2 = .ok (.aload_n 0, 1) := by decide +kernel
theorem dL_executeCommands_3 : decode cL_executeCommands 3 = .ok (.invokevirtual 25, 3) := by decide +kernel
theorem dL_executeCommands_6 : decode cL_executeCommands 6 = .ok (.i2l, 1) := by decide +kernel
theorem dL_executeCommands_7 : decode cL_executeCommands 7 = .ok (.lastore, 1) := by decide +kernel
theorem dL_executeCommands_8 : decode cL_executeCommands 8 = .ok (.goto 6, 3) := by decide +kernel
theorem dL_executeCommands_11 : decode cL_executeCommands 11 = .ok (.astore_n 2, 1) := by decide +kernel
theorem dL_executeCommands_12 : decode cL_executeCommands 12 = .ok (.iconst 1, 1) := by decide +kernel
theorem dL_executeCommands_13 : decode cL_executeCommands 13 = .ok (.ireturn, 1) := by decide +kernel
theorem dL_executeCommands_14 : decode cL_executeCommands 14 = .ok (.iconst 0, 1) := by decide +kernel
theorem dL_executeCommands_15 : decode cL_executeCommands 15 = .ok (.ireturn, 1) := by decide +kernel
theorem dL_fogOf_0 : decode cL_fogOf 0 = .ok (.aload_n 2, 1) := by decide +kernel
theorem dL_fogOf_1 : decode cL_fogOf 1 = .ok (.iconst 0, 1) := by decide +kernel
theorem dL_fogOf_2 : decode cL_fogOf 2 = .ok (.aload_n 0, 1) := by decide +kernel
theorem dL_fogOf_3 : decode cL_fogOf 3 = .ok (.iload_n 1, 1) := by decide +kernel
theorem dL_fogOf_4 : decode cL_fogOf 4 = .ok (.invokevirtual 28, 3) := by decide +kernel
theorem dL_fogOf_7 : decode cL_fogOf 7 = .ok (.i2l, 1) := by decide +kernel
theorem dL_fogOf_8 : decode cL_fogOf 8 = .ok (.lastore, 1) := by decide +kernel
theorem dL_fogOf_9 : decode cL_fogOf 9 = .ok (.goto 6, 3) := by decide +kernel
theorem dL_fogOf_12 : decode cL_fogOf 12 = .ok (.astore_n 3, 1) := by decide +kernel
theorem dL_fogOf_13 : decode cL_fogOf 13 = .ok (.iconst 1, 1) := by decide +kernel
theorem dL_fogOf_14 : decode cL_fogOf 14 = .ok (.ireturn, 1) := by decide +kernel
theorem dL_fogOf_15 : decode cL_fogOf 15 = .ok (.iconst 0, 1) := by decide +kernel
theorem dL_fogOf_16 : decode cL_fogOf 16 = .ok (.ireturn, 1) := by decide +kernel
theorem dL_delayOf_0 : decode cL_delayOf 0 = .ok (.aload_n 2, 1) := by decide +kernel
theorem dL_delayOf_1 : decode cL_delayOf 1 = .ok (.iconst 0, 1) := by decide +kernel
theorem dL_delayOf_2 : decode cL_delayOf 2 = .ok (.aload_n 0, 1) := by decide +kernel
theorem dL_delayOf_3 : decode cL_delayOf 3 = .ok (.iload_n 1, 1) := by decide +kernel
theorem dL_delayOf_4 : decode cL_delayOf 4 = .ok (.invokevirtual 31, 3) := by decide +kernel
theorem dL_delayOf_7 : decode cL_delayOf 7 = .ok (.i2l, 1) := by decide +kernel
theorem dL_delayOf_8 : decode cL_delayOf 8 = .ok (.lastore, 1) := by decide +kernel
theorem dL_delayOf_9 : decode cL_delayOf 9 = .ok (.goto 6, 3) := by decide +kernel
theorem dL_delayOf_12 : decode cL_delayOf 12 = .ok (.astore_n 3, 1) := by decide +kernel
theorem dL_delayOf_13 : decode cL_delayOf 13 = .ok (.iconst 1, 1) := by decide +kernel
theorem dL_delayOf_14 : decode cL_delayOf 14 = .ok (.ireturn, 1) := by decide +kernel
theorem dL_delayOf_15 : decode cL_delayOf 15 = .ok (.iconst 0, 1) := by decide +kernel
theorem dL_delayOf_16 : decode cL_delayOf 16 = .ok (.ireturn, 1) := by decide +kernel
theorem dL_repeatsOf_0 : decode cL_repeatsOf 0 = .ok (.aload_n 2, 1) := by decide +kernel
theorem dL_repeatsOf_1 : decode cL_repeatsOf 1 = .ok (.iconst 0, 1) := by decide +kernel
theorem dL_repeatsOf_2 : decode cL_repeatsOf 2 = .ok (.aload_n 0, 1) := by decide +kernel
theorem dL_repeatsOf_3 : decode cL_repeatsOf 3 = .ok (.iload_n 1, 1) := by decide +kernel
theorem dL_repeatsOf_4 : decode cL_repeatsOf 4 = .ok (.invokevirtual 36, 3) := by decide +kernel
theorem dL_repeatsOf_7 : decode cL_repeatsOf 7 = .ok (.i2l, 1) := by decide +kernel
theorem dL_repeatsOf_8 : decode cL_repeatsOf 8 = .ok (.lastore, 1) := by decide +kernel
theorem dL_repeatsOf_9 : decode cL_repeatsOf 9 = .ok (.goto 6, 3) := by decide +kernel
theorem dL_repeatsOf_12 : decode cL_repeatsOf 12 = .ok (.astore_n 3, 1) := by decide +kernel
theorem dL_repeatsOf_13 : decode cL_repeatsOf 13 = .ok (.iconst 1, 1) := by decide +kernel
theorem dL_repeatsOf_14 : decode cL_repeatsOf 14 = .ok (.ireturn, 1) := by decide +kernel
theorem dL_repeatsOf_15 : decode cL_repeatsOf 15 = .ok (.iconst 0, 1) := by decide +kernel
theorem dL_repeatsOf_16 : decode cL_repeatsOf 16 = .ok (.ireturn, 1) := by decide +kernel
theorem dL_reserveWage_0 : decode cL_reserveWage 0 = .ok (.aload_n 2, 1) := by decide +kernel
theorem dL_reserveWage_1 : decode cL_reserveWage 1 = .ok (.iconst 0, 1) := by decide +kernel
theorem dL_reserveWage_2 : decode cL_reserveWage 2 = .ok (.aload_n 0, 1) := by decide +kernel
theorem dL_reserveWage_3 : decode cL_reserveWage 3 = .ok (.iload_n 1, 1) := by decide +kernel
theorem dL_reserveWage_4 : decode cL_reserveWage 4 = .ok (.invokevirtual 39, 3) := by decide +kernel
theorem dL_reserveWage_7 : decode cL_reserveWage 7 = .ok (.i2l, 1) := by decide +kernel
theorem dL_reserveWage_8 : decode cL_reserveWage 8 = .ok (.lastore, 1) := by decide +kernel
theorem dL_reserveWage_9 : decode cL_reserveWage 9 = .ok (.goto 6, 3) := by decide +kernel
theorem dL_reserveWage_12 : decode cL_reserveWage 12 = .ok (.astore_n 3, 1) := by decide +kernel
theorem dL_reserveWage_13 : decode cL_reserveWage 13 = .ok (.iconst 1, 1) := by decide +kernel
theorem dL_reserveWage_14 : decode cL_reserveWage 14 = .ok (.ireturn, 1) := by decide +kernel
theorem dL_reserveWage_15 : decode cL_reserveWage 15 = .ok (.iconst 0, 1) := by decide +kernel
theorem dL_reserveWage_16 : decode cL_reserveWage 16 = .ok (.ireturn, 1) := by decide +kernel
theorem dL_resistanceOf_0 : decode cL_resistanceOf 0 = .ok (.aload_n 2, 1) := by decide +kernel
theorem dL_resistanceOf_1 : decode cL_resistanceOf 1 = .ok (.iconst 0, 1) := by decide +kernel
theorem dL_resistanceOf_2 : decode cL_resistanceOf 2 = .ok (.aload_n 0, 1) := by decide +kernel
theorem dL_resistanceOf_3 : decode cL_resistanceOf 3 = .ok (.iload_n 1, 1) := by decide +kernel
theorem dL_resistanceOf_4 : decode cL_resistanceOf 4 = .ok (.invokevirtual 42, 3) := by decide +kernel
theorem dL_resistanceOf_7 : decode cL_resistanceOf 7 = .ok (.i2l, 1) := by decide +kernel
theorem dL_resistanceOf_8 : decode cL_resistanceOf 8 = .ok (.lastore, 1) := by decide +kernel
theorem dL_resistanceOf_9 : decode cL_resistanceOf 9 = .ok (.goto 6, 3) := by decide +kernel
theorem dL_resistanceOf_12 : decode cL_resistanceOf 12 = .ok (.astore_n 3, 1) := by decide +kernel
theorem dL_resistanceOf_13 : decode cL_resistanceOf 13 = .ok (.iconst 1, 1) := by decide +kernel
theorem dL_resistanceOf_14 : decode cL_resistanceOf 14 = .ok (.ireturn, 1) := by decide +kernel
theorem dL_resistanceOf_15 : decode cL_resistanceOf 15 = .ok (.iconst 0, 1) := by decide +kernel
theorem dL_resistanceOf_16 : decode cL_resistanceOf 16 = .ok (.ireturn, 1) := by decide +kernel
theorem dL_savingsOf_0 : decode cL_savingsOf 0 = .ok (.aload_n 2, 1) := by decide +kernel
theorem dL_savingsOf_1 : decode cL_savingsOf 1 = .ok (.iconst 0, 1) := by decide +kernel
theorem dL_savingsOf_2 : decode cL_savingsOf 2 = .ok (.aload_n 0, 1) := by decide +kernel
theorem dL_savingsOf_3 : decode cL_savingsOf 3 = .ok (.iload_n 1, 1) := by decide +kernel
theorem dL_savingsOf_4 : decode cL_savingsOf 4 = .ok (.invokevirtual 45, 3) := by decide +kernel
theorem dL_savingsOf_7 : decode cL_savingsOf 7 = .ok (.i2l, 1) := by decide +kernel
theorem dL_savingsOf_8 : decode cL_savingsOf 8 = .ok (.lastore, 1) := by decide +kernel
theorem dL_savingsOf_9 : decode cL_savingsOf 9 = .ok (.goto 6, 3) := by decide +kernel
theorem dL_savingsOf_12 : decode cL_savingsOf 12 = .ok (.astore_n 3, 1) := by decide +kernel
theorem dL_savingsOf_13 : decode cL_savingsOf 13 = .ok (.iconst 1, 1) := by decide +kernel
theorem dL_savingsOf_14 : decode cL_savingsOf 14 = .ok (.ireturn, 1) := by decide +kernel
theorem dL_savingsOf_15 : decode cL_savingsOf 15 = .ok (.iconst 0, 1) := by decide +kernel
theorem dL_savingsOf_16 : decode cL_savingsOf 16 = .ok (.ireturn, 1) := by decide +kernel
theorem dL_unpaidDays_0 : decode cL_unpaidDays 0 = .ok (.aload_n 2, 1) := by decide +kernel
theorem dL_unpaidDays_1 : decode cL_unpaidDays 1 = .ok (.iconst 0, 1) := by decide +kernel
theorem dL_unpaidDays_2 : decode cL_unpaidDays 2 = .ok (.aload_n 0, 1) := by decide +kernel
theorem dL_unpaidDays_3 : decode cL_unpaidDays 3 = .ok (.iload_n 1, 1) := by decide +kernel
theorem dL_unpaidDays_4 : decode cL_unpaidDays 4 = .ok (.invokevirtual 48, 3) := by decide +kernel
theorem dL_unpaidDays_7 : decode cL_unpaidDays 7 = .ok (.i2l, 1) := by decide +kernel
theorem dL_unpaidDays_8 : decode cL_unpaidDays 8 = .ok (.lastore, 1) := by decide +kernel
theorem dL_unpaidDays_9 : decode cL_unpaidDays 9 = .ok (.goto 6, 3) := by decide +kernel
theorem dL_unpaidDays_12 : decode cL_unpaidDays 12 = .ok (.astore_n 3, 1) := by decide +kernel
theorem dL_unpaidDays_13 : decode cL_unpaidDays 13 = .ok (.iconst 1, 1) := by decide +kernel
theorem dL_unpaidDays_14 : decode cL_unpaidDays 14 = .ok (.ireturn, 1) := by decide +kernel
theorem dL_unpaidDays_15 : decode cL_unpaidDays 15 = .ok (.iconst 0, 1) := by decide +kernel
theorem dL_unpaidDays_16 : decode cL_unpaidDays 16 = .ok (.ireturn, 1) := by decide +kernel
theorem dL_employerOf_0 : decode cL_employerOf 0 = .ok (.aload_n 2, 1) := by decide +kernel
theorem dL_employerOf_1 : decode cL_employerOf 1 = .ok (.iconst 0, 1) := by decide +kernel
theorem dL_employerOf_2 : decode cL_employerOf 2 = .ok (.aload_n 0, 1) := by decide +kernel
theorem dL_employerOf_3 : decode cL_employerOf 3 = .ok (.iload_n 1, 1) := by decide +kernel
theorem dL_employerOf_4 : decode cL_employerOf 4 = .ok (.invokevirtual 51, 3) := by decide +kernel
theorem dL_employerOf_7 : decode cL_employerOf 7 = .ok (.i2l, 1) := by decide +kernel
theorem dL_employerOf_8 : decode cL_employerOf 8 = .ok (.lastore, 1) := by decide +kernel
theorem dL_employerOf_9 : decode cL_employerOf 9 = .ok (.goto 6, 3) := by decide +kernel
theorem dL_employerOf_12 : decode cL_employerOf 12 = .ok (.astore_n 3, 1) := by decide +kernel
theorem dL_employerOf_13 : decode cL_employerOf 13 = .ok (.iconst 1, 1) := by decide +kernel
theorem dL_employerOf_14 : decode cL_employerOf 14 = .ok (.ireturn, 1) := by decide +kernel
theorem dL_employerOf_15 : decode cL_employerOf 15 = .ok (.iconst 0, 1) := by decide +kernel
theorem dL_employerOf_16 : decode cL_employerOf 16 = .ok (.ireturn, 1) := by decide +kernel
theorem dL_widthOf_0 : decode cL_widthOf 0 = .ok (.aload_n 2, 1) := by decide +kernel
theorem dL_widthOf_1 : decode cL_widthOf 1 = .ok (.iconst 0, 1) := by decide +kernel
theorem dL_widthOf_2 : decode cL_widthOf 2 = .ok (.aload_n 0, 1) := by decide +kernel
theorem dL_widthOf_3 : decode cL_widthOf 3 = .ok (.iload_n 1, 1) := by decide +kernel
theorem dL_widthOf_4 : decode cL_widthOf 4 = .ok (.invokevirtual 54, 3) := by decide +kernel
theorem dL_widthOf_7 : decode cL_widthOf 7 = .ok (.i2l, 1) := by decide +kernel
theorem dL_widthOf_8 : decode cL_widthOf 8 = .ok (.lastore, 1) := by decide +kernel
theorem dL_widthOf_9 : decode cL_widthOf 9 = .ok (.goto 6, 3) := by decide +kernel
theorem dL_widthOf_12 : decode cL_widthOf 12 = .ok (.astore_n 3, 1) := by decide +kernel
theorem dL_widthOf_13 : decode cL_widthOf 13 = .ok (.iconst 1, 1) := by decide +kernel
theorem dL_widthOf_14 : decode cL_widthOf 14 = .ok (.ireturn, 1) := by decide +kernel
theorem dL_widthOf_15 : decode cL_widthOf 15 = .ok (.iconst 0, 1) := by decide +kernel
theorem dL_widthOf_16 : decode cL_widthOf 16 = .ok (.ireturn, 1) := by decide +kernel
theorem dL_postsOf_0 : decode cL_postsOf 0 = .ok (.aload_n 2, 1) := by decide +kernel
theorem dL_postsOf_1 : decode cL_postsOf 1 = .ok (.iconst 0, 1) := by decide +kernel
theorem dL_postsOf_2 : decode cL_postsOf 2 = .ok (.aload_n 0, 1) := by decide +kernel
theorem dL_postsOf_3 : decode cL_postsOf 3 = .ok (.iload_n 1, 1) := by decide +kernel
theorem dL_postsOf_4 : decode cL_postsOf 4 = .ok (.invokevirtual 57, 3) := by decide +kernel
theorem dL_postsOf_7 : decode cL_postsOf 7 = .ok (.i2l, 1) := by decide +kernel
theorem dL_postsOf_8 : decode cL_postsOf 8 = .ok (.lastore, 1) := by decide +kernel
theorem dL_postsOf_9 : decode cL_postsOf 9 = .ok (.goto 6, 3) := by decide +kernel
theorem dL_postsOf_12 : decode cL_postsOf 12 = .ok (.astore_n 3, 1) := by decide +kernel
theorem dL_postsOf_13 : decode cL_postsOf 13 = .ok (.iconst 1, 1) := by decide +kernel
theorem dL_postsOf_14 : decode cL_postsOf 14 = .ok (.ireturn, 1) := by decide +kernel
theorem dL_postsOf_15 : decode cL_postsOf 15 = .ok (.iconst 0, 1) := by decide +kernel
theorem dL_postsOf_16 : decode cL_postsOf 16 = .ok (.ireturn, 1) := by decide +kernel
theorem dL_wageOf_0 : decode cL_wageOf 0 = .ok (.aload_n 2, 1) := by decide +kernel
theorem dL_wageOf_1 : decode cL_wageOf 1 = .ok (.iconst 0, 1) := by decide +kernel
theorem dL_wageOf_2 : decode cL_wageOf 2 = .ok (.aload_n 0, 1) := by decide +kernel
theorem dL_wageOf_3 : decode cL_wageOf 3 = .ok (.iload_n 1, 1) := by decide +kernel
theorem dL_wageOf_4 : decode cL_wageOf 4 = .ok (.invokevirtual 60, 3) := by decide +kernel
theorem dL_wageOf_7 : decode cL_wageOf 7 = .ok (.i2l, 1) := by decide +kernel
theorem dL_wageOf_8 : decode cL_wageOf 8 = .ok (.lastore, 1) := by decide +kernel
theorem dL_wageOf_9 : decode cL_wageOf 9 = .ok (.goto 6, 3) := by decide +kernel
theorem dL_wageOf_12 : decode cL_wageOf 12 = .ok (.astore_n 3, 1) := by decide +kernel
theorem dL_wageOf_13 : decode cL_wageOf 13 = .ok (.iconst 1, 1) := by decide +kernel
theorem dL_wageOf_14 : decode cL_wageOf 14 = .ok (.ireturn, 1) := by decide +kernel
theorem dL_wageOf_15 : decode cL_wageOf 15 = .ok (.iconst 0, 1) := by decide +kernel
theorem dL_wageOf_16 : decode cL_wageOf 16 = .ok (.ireturn, 1) := by decide +kernel
theorem dL_purseOf_0 : decode cL_purseOf 0 = .ok (.aload_n 2, 1) := by decide +kernel
theorem dL_purseOf_1 : decode cL_purseOf 1 = .ok (.iconst 0, 1) := by decide +kernel
theorem dL_purseOf_2 : decode cL_purseOf 2 = .ok (.aload_n 0, 1) := by decide +kernel
theorem dL_purseOf_3 : decode cL_purseOf 3 = .ok (.iload_n 1, 1) := by decide +kernel
theorem dL_purseOf_4 : decode cL_purseOf 4 = .ok (.invokevirtual 63, 3) := by decide +kernel
theorem dL_purseOf_7 : decode cL_purseOf 7 = .ok (.i2l, 1) := by decide +kernel
theorem dL_purseOf_8 : decode cL_purseOf 8 = .ok (.lastore, 1) := by decide +kernel
theorem dL_purseOf_9 : decode cL_purseOf 9 = .ok (.goto 6, 3) := by decide +kernel
theorem dL_purseOf_12 : decode cL_purseOf 12 = .ok (.astore_n 3, 1) := by decide +kernel
theorem dL_purseOf_13 : decode cL_purseOf 13 = .ok (.iconst 1, 1) := by decide +kernel
theorem dL_purseOf_14 : decode cL_purseOf 14 = .ok (.ireturn, 1) := by decide +kernel
theorem dL_purseOf_15 : decode cL_purseOf 15 = .ok (.iconst 0, 1) := by decide +kernel
theorem dL_purseOf_16 : decode cL_purseOf 16 = .ok (.ireturn, 1) := by decide +kernel
theorem dL_staffCount_0 : decode cL_staffCount 0 = .ok (.aload_n 2, 1) := by decide +kernel
theorem dL_staffCount_1 : decode cL_staffCount 1 = .ok (.iconst 0, 1) := by decide +kernel
theorem dL_staffCount_2 : decode cL_staffCount 2 = .ok (.aload_n 0, 1) := by decide +kernel
theorem dL_staffCount_3 : decode cL_staffCount 3 = .ok (.iload_n 1, 1) := by decide +kernel
theorem dL_staffCount_4 : decode cL_staffCount 4 = .ok (.invokevirtual 66, 3) := by decide +kernel
theorem dL_staffCount_7 : decode cL_staffCount 7 = .ok (.i2l, 1) := by decide +kernel
theorem dL_staffCount_8 : decode cL_staffCount 8 = .ok (.lastore, 1) := by decide +kernel
theorem dL_staffCount_9 : decode cL_staffCount 9 = .ok (.goto 6, 3) := by decide +kernel
theorem dL_staffCount_12 : decode cL_staffCount 12 = .ok (.astore_n 3, 1) := by decide +kernel
theorem dL_staffCount_13 : decode cL_staffCount 13 = .ok (.iconst 1, 1) := by decide +kernel
theorem dL_staffCount_14 : decode cL_staffCount 14 = .ok (.ireturn, 1) := by decide +kernel
theorem dL_staffCount_15 : decode cL_staffCount 15 = .ok (.iconst 0, 1) := by decide +kernel
theorem dL_staffCount_16 : decode cL_staffCount 16 = .ok (.ireturn, 1) := by decide +kernel
theorem dL_staffMember_0 : decode cL_staffMember 0 = .ok (.aload_n 3, 1) := by decide +kernel
theorem dL_staffMember_1 : decode cL_staffMember 1 = .ok (.iconst 0, 1) := by decide +kernel
theorem dL_staffMember_2 : decode cL_staffMember 2 = .ok (.aload_n 0, 1) := by decide +kernel
theorem dL_staffMember_3 : decode cL_staffMember 3 = .ok (.iload_n 1, 1) := by decide +kernel
theorem dL_staffMember_4 : decode cL_staffMember 4 = .ok (.iload_n 2, 1) := by decide +kernel
theorem dL_staffMember_5 : decode cL_staffMember 5 = .ok (.invokevirtual 69, 3) := by decide +kernel
theorem dL_staffMember_8 : decode cL_staffMember 8 = .ok (.i2l, 1) := by decide +kernel
theorem dL_staffMember_9 : decode cL_staffMember 9 = .ok (.lastore, 1) := by decide +kernel
theorem dL_staffMember_10 : decode cL_staffMember 10 = .ok (.goto 7, 3) := by decide +kernel
theorem dL_staffMember_13 : decode cL_staffMember 13 = .ok (.astore 4, 2) := by decide +kernel
theorem dL_staffMember_15 : decode cL_staffMember 15 = .ok (.iconst 1, 1) := by decide +kernel
theorem dL_staffMember_16 : decode cL_staffMember 16 = .ok (.ireturn, 1) := by decide +kernel
theorem dL_staffMember_17 : decode cL_staffMember 17 = .ok (.iconst 0, 1) := by decide +kernel
theorem dL_staffMember_18 : decode cL_staffMember 18 = .ok (.ireturn, 1) := by decide +kernel
theorem dL_isTested_0 : decode cL_isTested 0 = .ok (.aload_n 3, 1) := by decide +kernel
theorem dL_isTested_1 : decode cL_isTested 1 = .ok (.iconst 0, 1) := by decide +kernel
theorem dL_isTested_2 : decode cL_isTested 2 = .ok (.aload_n 0, 1) := by decide +kernel
theorem dL_isTested_3 : decode cL_isTested 3 = .ok (.iload_n 1, 1) := by decide +kernel
theorem dL_isTested_4 : decode cL_isTested 4 = .ok (.iload_n 2, 1) := by decide +kernel
theorem dL_isTested_5 : decode cL_isTested 5 = .ok (.invokevirtual 73, 3) := by decide +kernel
theorem dL_isTested_8 : decode cL_isTested 8 = .ok (.ifCond .eq 7, 3) := by decide +kernel
theorem dL_isTested_11 : decode cL_isTested 11 = .ok (.lconst 1, 1) := by decide +kernel
theorem dL_isTested_12 : decode cL_isTested 12 = .ok (.goto 4, 3) := by decide +kernel
theorem dL_isTested_15 : decode cL_isTested 15 = .ok (.lconst 0, 1) := by decide +kernel
theorem dL_isTested_16 : decode cL_isTested 16 = .ok (.lastore, 1) := by decide +kernel
theorem dL_isTested_17 : decode cL_isTested 17 = .ok (.goto 7, 3) := by decide +kernel
theorem dL_isTested_20 : decode cL_isTested 20 = .ok (.astore 4, 2) := by decide +kernel
theorem dL_isTested_22 : decode cL_isTested 22 = .ok (.iconst 1, 1) := by decide +kernel
theorem dL_isTested_23 : decode cL_isTested 23 = .ok (.ireturn, 1) := by decide +kernel
theorem dL_isTested_24 : decode cL_isTested 24 = .ok (.iconst 0, 1) := by decide +kernel
theorem dL_isTested_25 : decode cL_isTested 25 = .ok (.ireturn, 1) := by decide +kernel
theorem dL_seenScore_0 : decode cL_seenScore 0 = .ok (.aload_n 3, 1) := by decide +kernel
theorem dL_seenScore_1 : decode cL_seenScore 1 = .ok (.iconst 0, 1) := by decide +kernel
theorem dL_seenScore_2 : decode cL_seenScore 2 = .ok (.aload_n 0, 1) := by decide +kernel
theorem dL_seenScore_3 : decode cL_seenScore 3 = .ok (.iload_n 1, 1) := by decide +kernel
theorem dL_seenScore_4 : decode cL_seenScore 4 = .ok (.iload_n 2, 1) := by decide +kernel
theorem dL_seenScore_5 : decode cL_seenScore 5 = .ok (.invokevirtual 77, 3) := by decide +kernel
theorem dL_seenScore_8 : decode cL_seenScore 8 = .ok (.i2l, 1) := by decide +kernel
theorem dL_seenScore_9 : decode cL_seenScore 9 = .ok (.lastore, 1) := by decide +kernel
theorem dL_seenScore_10 : decode cL_seenScore 10 = .ok (.goto 7, 3) := by decide +kernel
theorem dL_seenScore_13 : decode cL_seenScore 13 = .ok (.astore 4, 2) := by decide +kernel
theorem dL_seenScore_15 : decode cL_seenScore 15 = .ok (.iconst 1, 1) := by decide +kernel
theorem dL_seenScore_16 : decode cL_seenScore 16 = .ok (.ireturn, 1) := by decide +kernel
theorem dL_seenScore_17 : decode cL_seenScore 17 = .ok (.iconst 0, 1) := by decide +kernel
theorem dL_seenScore_18 : decode cL_seenScore 18 = .ok (.ireturn, 1) := by decide +kernel
theorem dL_pairReason_0 : decode cL_pairReason 0 = .ok (.aload_n 3, 1) := by decide +kernel
theorem dL_pairReason_1 : decode cL_pairReason 1 = .ok (.iconst 0, 1) := by decide +kernel
theorem dL_pairReason_2 : decode cL_pairReason 2 = .ok (.aload_n 0, 1) := by decide +kernel
theorem dL_pairReason_3 : decode cL_pairReason 3 = .ok (.iload_n 1, 1) := by decide +kernel
theorem dL_pairReason_4 : decode cL_pairReason 4 = .ok (.iload_n 2, 1) := by decide +kernel
theorem dL_pairReason_5 : decode cL_pairReason 5 = .ok (.invokevirtual 80, 3) := by decide +kernel
theorem dL_pairReason_8 : decode cL_pairReason 8 = .ok (.i2l, 1) := by decide +kernel
theorem dL_pairReason_9 : decode cL_pairReason 9 = .ok (.lastore, 1) := by decide +kernel
theorem dL_pairReason_10 : decode cL_pairReason 10 = .ok (.goto 7, 3) := by decide +kernel
theorem dL_pairReason_13 : decode cL_pairReason 13 = .ok (.astore 4, 2) := by decide +kernel
theorem dL_pairReason_15 : decode cL_pairReason 15 = .ok (.iconst 1, 1) := by decide +kernel
theorem dL_pairReason_16 : decode cL_pairReason 16 = .ok (.ireturn, 1) := by decide +kernel
theorem dL_pairReason_17 : decode cL_pairReason 17 = .ok (.iconst 0, 1) := by decide +kernel
theorem dL_pairReason_18 : decode cL_pairReason 18 = .ok (.ireturn, 1) := by decide +kernel
theorem dL_preferredValley_0 : decode cL_preferredValley 0 = .ok (.aload_n 3, 1) := by decide +kernel
theorem dL_preferredValley_1 : decode cL_preferredValley 1 = .ok (.iconst 0, 1) := by decide +kernel
theorem dL_preferredValley_2 : decode cL_preferredValley 2 = .ok (.aload_n 0, 1) := by decide +kernel
theorem dL_preferredValley_3 : decode cL_preferredValley 3 = .ok (.iload_n 1, 1) := by decide +kernel
theorem dL_preferredValley_4 : decode cL_preferredValley 4 = .ok (.iload_n 2, 1) := by decide +kernel
theorem dL_preferredValley_5 : decode cL_preferredValley 5 = .ok (.invokevirtual 83, 3) := by decide +kernel
theorem dL_preferredValley_8 : decode cL_preferredValley 8 = .ok (.i2l, 1) := by decide +kernel
theorem dL_preferredValley_9 : decode cL_preferredValley 9 = .ok (.lastore, 1) := by decide +kernel
theorem dL_preferredValley_10 : decode cL_preferredValley 10 = .ok (.goto 7, 3) := by decide +kernel
theorem dL_preferredValley_13 : decode cL_preferredValley 13 = .ok (.astore 4, 2) := by decide +kernel
theorem dL_preferredValley_15 : decode cL_preferredValley 15 = .ok (.iconst 1, 1) := by decide +kernel
theorem dL_preferredValley_16 : decode cL_preferredValley 16 = .ok (.ireturn, 1) := by decide +kernel
theorem dL_preferredValley_17 : decode cL_preferredValley 17 = .ok (.iconst 0, 1) := by decide +kernel
theorem dL_preferredValley_18 : decode cL_preferredValley 18 = .ok (.ireturn, 1) := by decide +kernel
theorem dL_preferredEcho_0 : decode cL_preferredEcho 0 = .ok (.aload_n 3, 1) := by decide +kernel
theorem dL_preferredEcho_1 : decode cL_preferredEcho 1 = .ok (.iconst 0, 1) := by decide +kernel
theorem dL_preferredEcho_2 : decode cL_preferredEcho 2 = .ok (.aload_n 0, 1) := by decide +kernel
theorem dL_preferredEcho_3 : decode cL_preferredEcho 3 = .ok (.iload_n 1, 1) := by decide +kernel
theorem dL_preferredEcho_4 : decode cL_preferredEcho 4 = .ok (.iload_n 2, 1) := by decide +kernel
theorem dL_preferredEcho_5 : decode cL_preferredEcho 5 = .ok (.invokevirtual 86, 3) := by decide +kernel
theorem dL_preferredEcho_8 : decode cL_preferredEcho 8 = .ok (.i2l, 1) := by decide +kernel
theorem dL_preferredEcho_9 : decode cL_preferredEcho 9 = .ok (.lastore, 1) := by decide +kernel
theorem dL_preferredEcho_10 : decode cL_preferredEcho 10 = .ok (.goto 7, 3) := by decide +kernel
theorem dL_preferredEcho_13 : decode cL_preferredEcho 13 = .ok (.astore 4, 2) := by decide +kernel
theorem dL_preferredEcho_15 : decode cL_preferredEcho 15 = .ok (.iconst 1, 1) := by decide +kernel
theorem dL_preferredEcho_16 : decode cL_preferredEcho 16 = .ok (.ireturn, 1) := by decide +kernel
theorem dL_preferredEcho_17 : decode cL_preferredEcho 17 = .ok (.iconst 0, 1) := by decide +kernel
theorem dL_preferredEcho_18 : decode cL_preferredEcho 18 = .ok (.ireturn, 1) := by decide +kernel
theorem dL_fairResult_0 : decode cL_fairResult 0 = .ok (.aload_n 2, 1) := by decide +kernel
theorem dL_fairResult_1 : decode cL_fairResult 1 = .ok (.iconst 0, 1) := by decide +kernel
theorem dL_fairResult_2 : decode cL_fairResult 2 = .ok (.aload_n 0, 1) := by decide +kernel
theorem dL_fairResult_3 : decode cL_fairResult 3 = .ok (.iload_n 1, 1) := by decide +kernel
theorem dL_fairResult_4 : decode cL_fairResult 4 = .ok (.invokevirtual 89, 3) := by decide +kernel
theorem dL_fairResult_7 : decode cL_fairResult 7 = .ok (.i2l, 1) := by decide +kernel
theorem dL_fairResult_8 : decode cL_fairResult 8 = .ok (.lastore, 1) := by decide +kernel
theorem dL_fairResult_9 : decode cL_fairResult 9 = .ok (.goto 6, 3) := by decide +kernel
theorem dL_fairResult_12 : decode cL_fairResult 12 = .ok (.astore_n 3, 1) := by decide +kernel
theorem dL_fairResult_13 : decode cL_fairResult 13 = .ok (.iconst 1, 1) := by decide +kernel
theorem dL_fairResult_14 : decode cL_fairResult 14 = .ok (.ireturn, 1) := by decide +kernel
theorem dL_fairResult_15 : decode cL_fairResult 15 = .ok (.iconst 0, 1) := by decide +kernel
theorem dL_fairResult_16 : decode cL_fairResult 16 = .ok (.ireturn, 1) := by decide +kernel
theorem dL_savingsAfter_0 : decode cL_savingsAfter 0 = .ok (.aload_n 3, 1) := by decide +kernel
theorem dL_savingsAfter_1 : decode cL_savingsAfter 1 = .ok (.iconst 0, 1) := by decide +kernel
theorem dL_savingsAfter_2 : decode cL_savingsAfter 2 = .ok (.aload_n 0, 1) := by decide +kernel
theorem dL_savingsAfter_3 : decode cL_savingsAfter 3 = .ok (.iload_n 1, 1) := by decide +kernel
theorem dL_savingsAfter_4 : decode cL_savingsAfter 4 = .ok (.iload_n 2, 1) := by decide +kernel
theorem dL_savingsAfter_5 : decode cL_savingsAfter 5 = .ok (.invokevirtual 92, 3) := by decide +kernel
theorem dL_savingsAfter_8 : decode cL_savingsAfter 8 = .ok (.i2l, 1) := by decide +kernel
theorem dL_savingsAfter_9 : decode cL_savingsAfter 9 = .ok (.lastore, 1) := by decide +kernel
theorem dL_savingsAfter_10 : decode cL_savingsAfter 10 = .ok (.goto 11, 3) := by decide +kernel
theorem dL_savingsAfter_13 : decode cL_savingsAfter 13 = .ok (.astore 4, 2) := by decide +kernel
theorem dL_savingsAfter_15 : decode cL_savingsAfter 15 = .ok (.iconst 1, 1) := by decide +kernel
theorem dL_savingsAfter_16 : decode cL_savingsAfter 16 = .ok (.ireturn, 1) := by decide +kernel
theorem dL_savingsAfter_17 : decode cL_savingsAfter 17 = .ok (.astore 4, 2) := by decide +kernel
theorem dL_savingsAfter_19 : decode cL_savingsAfter 19 = .ok (.iconst 2, 1) := by decide +kernel
theorem dL_savingsAfter_20 : decode cL_savingsAfter 20 = .ok (.ireturn, 1) := by decide +kernel
theorem dL_savingsAfter_21 : decode cL_savingsAfter 21 = .ok (.iconst 0, 1) := by decide +kernel
theorem dL_savingsAfter_22 : decode cL_savingsAfter 22 = .ok (.ireturn, 1) := by decide +kernel
theorem dL_purseAfter_0 : decode cL_purseAfter 0 = .ok (.aload_n 3, 1) := by decide +kernel
theorem dL_purseAfter_1 : decode cL_purseAfter 1 = .ok (.iconst 0, 1) := by decide +kernel
theorem dL_purseAfter_2 : decode cL_purseAfter 2 = .ok (.aload_n 0, 1) := by decide +kernel
theorem dL_purseAfter_3 : decode cL_purseAfter 3 = .ok (.iload_n 1, 1) := by decide +kernel
theorem dL_purseAfter_4 : decode cL_purseAfter 4 = .ok (.iload_n 2, 1) := by decide +kernel
theorem dL_purseAfter_5 : decode cL_purseAfter 5 = .ok (.invokevirtual 95, 3) := by decide +kernel
theorem dL_purseAfter_8 : decode cL_purseAfter 8 = .ok (.i2l, 1) := by decide +kernel
theorem dL_purseAfter_9 : decode cL_purseAfter 9 = .ok (.lastore, 1) := by decide +kernel
theorem dL_purseAfter_10 : decode cL_purseAfter 10 = .ok (.goto 11, 3) := by decide +kernel
theorem dL_purseAfter_13 : decode cL_purseAfter 13 = .ok (.astore 4, 2) := by decide +kernel
theorem dL_purseAfter_15 : decode cL_purseAfter 15 = .ok (.iconst 1, 1) := by decide +kernel
theorem dL_purseAfter_16 : decode cL_purseAfter 16 = .ok (.ireturn, 1) := by decide +kernel
theorem dL_purseAfter_17 : decode cL_purseAfter 17 = .ok (.astore 4, 2) := by decide +kernel
theorem dL_purseAfter_19 : decode cL_purseAfter 19 = .ok (.iconst 2, 1) := by decide +kernel
theorem dL_purseAfter_20 : decode cL_purseAfter 20 = .ok (.ireturn, 1) := by decide +kernel
theorem dL_purseAfter_21 : decode cL_purseAfter 21 = .ok (.iconst 0, 1) := by decide +kernel
theorem dL_purseAfter_22 : decode cL_purseAfter 22 = .ok (.ireturn, 1) := by decide +kernel
theorem dL_desertsIn_0 : decode cL_desertsIn 0 = .ok (.aload_n 2, 1) := by decide +kernel
theorem dL_desertsIn_1 : decode cL_desertsIn 1 = .ok (.iconst 0, 1) := by decide +kernel
theorem dL_desertsIn_2 : decode cL_desertsIn 2 = .ok (.aload_n 0, 1) := by decide +kernel
theorem dL_desertsIn_3 : decode cL_desertsIn 3 = .ok (.iload_n 1, 1) := by decide +kernel
theorem dL_desertsIn_4 : decode cL_desertsIn 4 = .ok (.invokevirtual 98, 3) := by decide +kernel
theorem dL_desertsIn_7 : decode cL_desertsIn 7 = .ok (.i2l, 1) := by decide +kernel
theorem dL_desertsIn_8 : decode cL_desertsIn 8 = .ok (.lastore, 1) := by decide +kernel
theorem dL_desertsIn_9 : decode cL_desertsIn 9 = .ok (.goto 6, 3) := by decide +kernel
theorem dL_desertsIn_12 : decode cL_desertsIn 12 = .ok (.astore_n 3, 1) := by decide +kernel
theorem dL_desertsIn_13 : decode cL_desertsIn 13 = .ok (.iconst 1, 1) := by decide +kernel
theorem dL_desertsIn_14 : decode cL_desertsIn 14 = .ok (.ireturn, 1) := by decide +kernel
theorem dL_desertsIn_15 : decode cL_desertsIn 15 = .ok (.iconst 0, 1) := by decide +kernel
theorem dL_desertsIn_16 : decode cL_desertsIn 16 = .ok (.ireturn, 1) := by decide +kernel
theorem dL_leastWage_0 : decode cL_leastWage 0 = .ok (.aload_n 3, 1) := by decide +kernel
theorem dL_leastWage_1 : decode cL_leastWage 1 = .ok (.iconst 0, 1) := by decide +kernel
theorem dL_leastWage_2 : decode cL_leastWage 2 = .ok (.aload_n 0, 1) := by decide +kernel
theorem dL_leastWage_3 : decode cL_leastWage 3 = .ok (.iload_n 1, 1) := by decide +kernel
theorem dL_leastWage_4 : decode cL_leastWage 4 = .ok (.iload_n 2, 1) := by decide +kernel
theorem dL_leastWage_5 : decode cL_leastWage 5 = .ok (.invokevirtual 101, 3) := by decide +kernel
theorem dL_leastWage_8 : decode cL_leastWage 8 = .ok (.i2l, 1) := by decide +kernel
theorem dL_leastWage_9 : decode cL_leastWage 9 = .ok (.lastore, 1) := by decide +kernel
theorem dL_leastWage_10 : decode cL_leastWage 10 = .ok (.goto 7, 3) := by decide +kernel
theorem dL_leastWage_13 : decode cL_leastWage 13 = .ok (.astore 4, 2) := by decide +kernel
theorem dL_leastWage_15 : decode cL_leastWage 15 = .ok (.iconst 1, 1) := by decide +kernel
theorem dL_leastWage_16 : decode cL_leastWage 16 = .ok (.ireturn, 1) := by decide +kernel
theorem dL_leastWage_17 : decode cL_leastWage 17 = .ok (.iconst 0, 1) := by decide +kernel
theorem dL_leastWage_18 : decode cL_leastWage 18 = .ok (.ireturn, 1) := by decide +kernel
theorem dL_bestTest_0 : decode cL_bestTest 0 = .ok (.aload_n 2, 1) := by decide +kernel
theorem dL_bestTest_1 : decode cL_bestTest 1 = .ok (.iconst 0, 1) := by decide +kernel
theorem dL_bestTest_2 : decode cL_bestTest 2 = .ok (.aload_n 0, 1) := by decide +kernel
theorem dL_bestTest_3 : decode cL_bestTest 3 = .ok (.iload_n 1, 1) := by decide +kernel
theorem dL_bestTest_4 : decode cL_bestTest 4 = .ok (.invokevirtual 104, 3) := by decide +kernel
theorem dL_bestTest_7 : decode cL_bestTest 7 = .ok (.i2l, 1) := by decide +kernel
theorem dL_bestTest_8 : decode cL_bestTest 8 = .ok (.lastore, 1) := by decide +kernel
theorem dL_bestTest_9 : decode cL_bestTest 9 = .ok (.goto 6, 3) := by decide +kernel
theorem dL_bestTest_12 : decode cL_bestTest 12 = .ok (.astore_n 3, 1) := by decide +kernel
theorem dL_bestTest_13 : decode cL_bestTest 13 = .ok (.iconst 1, 1) := by decide +kernel
theorem dL_bestTest_14 : decode cL_bestTest 14 = .ok (.ireturn, 1) := by decide +kernel
theorem dL_bestTest_15 : decode cL_bestTest 15 = .ok (.iconst 0, 1) := by decide +kernel
theorem dL_bestTest_16 : decode cL_bestTest 16 = .ok (.ireturn, 1) := by decide +kernel
theorem dL_daysServed_0 : decode cL_daysServed 0 = .ok (.aload_n 3, 1) := by decide +kernel
theorem dL_daysServed_1 : decode cL_daysServed 1 = .ok (.iconst 0, 1) := by decide +kernel
theorem dL_daysServed_2 : decode cL_daysServed 2 = .ok (.aload_n 0, 1) := by decide +kernel
theorem dL_daysServed_3 : decode cL_daysServed 3 = .ok (.iload_n 1, 1) := by decide +kernel
theorem dL_daysServed_4 : decode cL_daysServed 4 = .ok (.iload_n 2, 1) := by decide +kernel
theorem dL_daysServed_5 : decode cL_daysServed 5 = .ok (.invokevirtual 107, 3) := by decide +kernel
theorem dL_daysServed_8 : decode cL_daysServed 8 = .ok (.i2l, 1) := by decide +kernel
theorem dL_daysServed_9 : decode cL_daysServed 9 = .ok (.lastore, 1) := by decide +kernel
theorem dL_daysServed_10 : decode cL_daysServed 10 = .ok (.goto 7, 3) := by decide +kernel
theorem dL_daysServed_13 : decode cL_daysServed 13 = .ok (.astore 4, 2) := by decide +kernel
theorem dL_daysServed_15 : decode cL_daysServed 15 = .ok (.iconst 1, 1) := by decide +kernel
theorem dL_daysServed_16 : decode cL_daysServed 16 = .ok (.ireturn, 1) := by decide +kernel
theorem dL_daysServed_17 : decode cL_daysServed 17 = .ok (.iconst 0, 1) := by decide +kernel
theorem dL_daysServed_18 : decode cL_daysServed 18 = .ok (.ireturn, 1) := by decide +kernel
theorem dL_desertions_0 : decode cL_desertions 0 = .ok (.aload_n 2, 1) := by decide +kernel
theorem dL_desertions_1 : decode cL_desertions 1 = .ok (.iconst 0, 1) := by decide +kernel
theorem dL_desertions_2 : decode cL_desertions 2 = .ok (.aload_n 0, 1) := by decide +kernel
theorem dL_desertions_3 : decode cL_desertions 3 = .ok (.iload_n 1, 1) := by decide +kernel
theorem dL_desertions_4 : decode cL_desertions 4 = .ok (.invokevirtual 110, 3) := by decide +kernel
theorem dL_desertions_7 : decode cL_desertions 7 = .ok (.i2l, 1) := by decide +kernel
theorem dL_desertions_8 : decode cL_desertions 8 = .ok (.lastore, 1) := by decide +kernel
theorem dL_desertions_9 : decode cL_desertions 9 = .ok (.goto 6, 3) := by decide +kernel
theorem dL_desertions_12 : decode cL_desertions 12 = .ok (.astore_n 3, 1) := by decide +kernel
theorem dL_desertions_13 : decode cL_desertions 13 = .ok (.iconst 1, 1) := by decide +kernel
theorem dL_desertions_14 : decode cL_desertions 14 = .ok (.ireturn, 1) := by decide +kernel
theorem dL_desertions_15 : decode cL_desertions 15 = .ok (.iconst 0, 1) := by decide +kernel
theorem dL_desertions_16 : decode cL_desertions 16 = .ok (.ireturn, 1) := by decide +kernel
theorem dL_repliesHeard_0 : decode cL_repliesHeard 0 = .ok (.aload_n 2, 1) := by decide +kernel
theorem dL_repliesHeard_1 : decode cL_repliesHeard 1 = .ok (.iconst 0, 1) := by decide +kernel
theorem dL_repliesHeard_2 : decode cL_repliesHeard 2 = .ok (.aload_n 0, 1) := by decide +kernel
theorem dL_repliesHeard_3 : decode cL_repliesHeard 3 = .ok (.iload_n 1, 1) := by decide +kernel
theorem dL_repliesHeard_4 : decode cL_repliesHeard 4 = .ok (.invokevirtual 113, 3) := by decide +kernel
theorem dL_repliesHeard_7 : decode cL_repliesHeard 7 = .ok (.i2l, 1) := by decide +kernel
theorem dL_repliesHeard_8 : decode cL_repliesHeard 8 = .ok (.lastore, 1) := by decide +kernel
theorem dL_repliesHeard_9 : decode cL_repliesHeard 9 = .ok (.goto 6, 3) := by decide +kernel
theorem dL_repliesHeard_12 : decode cL_repliesHeard 12 = .ok (.astore_n 3, 1) := by decide +kernel
theorem dL_repliesHeard_13 : decode cL_repliesHeard 13 = .ok (.iconst 1, 1) := by decide +kernel
theorem dL_repliesHeard_14 : decode cL_repliesHeard 14 = .ok (.ireturn, 1) := by decide +kernel
theorem dL_repliesHeard_15 : decode cL_repliesHeard 15 = .ok (.iconst 0, 1) := by decide +kernel
theorem dL_repliesHeard_16 : decode cL_repliesHeard 16 = .ok (.ireturn, 1) := by decide +kernel
theorem dL_wagesPaid_0 : decode cL_wagesPaid 0 = .ok (.aload_n 2, 1) := by decide +kernel
theorem dL_wagesPaid_1 : decode cL_wagesPaid 1 = .ok (.iconst 0, 1) := by decide +kernel
theorem dL_wagesPaid_2 : decode cL_wagesPaid 2 = .ok (.aload_n 0, 1) := by decide +kernel
theorem dL_wagesPaid_3 : decode cL_wagesPaid 3 = .ok (.iload_n 1, 1) := by decide +kernel
theorem dL_wagesPaid_4 : decode cL_wagesPaid 4 = .ok (.invokevirtual 116, 3) := by decide +kernel
theorem dL_wagesPaid_7 : decode cL_wagesPaid 7 = .ok (.i2l, 1) := by decide +kernel
theorem dL_wagesPaid_8 : decode cL_wagesPaid 8 = .ok (.lastore, 1) := by decide +kernel
theorem dL_wagesPaid_9 : decode cL_wagesPaid 9 = .ok (.goto 6, 3) := by decide +kernel
theorem dL_wagesPaid_12 : decode cL_wagesPaid 12 = .ok (.astore_n 3, 1) := by decide +kernel
theorem dL_wagesPaid_13 : decode cL_wagesPaid 13 = .ok (.iconst 1, 1) := by decide +kernel
theorem dL_wagesPaid_14 : decode cL_wagesPaid 14 = .ok (.ireturn, 1) := by decide +kernel
theorem dL_wagesPaid_15 : decode cL_wagesPaid 15 = .ok (.iconst 0, 1) := by decide +kernel
theorem dL_wagesPaid_16 : decode cL_wagesPaid 16 = .ok (.ireturn, 1) := by decide +kernel
theorem dL_passDays_0 : decode cL_passDays 0 = .ok (.aload_n 2, 1) := by decide +kernel
theorem dL_passDays_1 : decode cL_passDays 1 = .ok (.iconst 0, 1) := by decide +kernel
theorem dL_passDays_2 : decode cL_passDays 2 = .ok (.aload_n 0, 1) := by decide +kernel
theorem dL_passDays_3 : decode cL_passDays 3 = .ok (.iload_n 1, 1) := by decide +kernel
theorem dL_passDays_4 : decode cL_passDays 4 = .ok (.invokevirtual 119, 3) := by decide +kernel
theorem dL_passDays_7 : decode cL_passDays 7 = .ok (.i2l, 1) := by decide +kernel
theorem dL_passDays_8 : decode cL_passDays 8 = .ok (.lastore, 1) := by decide +kernel
theorem dL_passDays_9 : decode cL_passDays 9 = .ok (.goto 6, 3) := by decide +kernel
theorem dL_passDays_12 : decode cL_passDays 12 = .ok (.astore_n 3, 1) := by decide +kernel
theorem dL_passDays_13 : decode cL_passDays 13 = .ok (.iconst 1, 1) := by decide +kernel
theorem dL_passDays_14 : decode cL_passDays 14 = .ok (.ireturn, 1) := by decide +kernel
theorem dL_passDays_15 : decode cL_passDays 15 = .ok (.iconst 0, 1) := by decide +kernel
theorem dL_passDays_16 : decode cL_passDays 16 = .ok (.ireturn, 1) := by decide +kernel
theorem dL_test_0 : decode cL_test 0 = .ok (.aload_n 3, 1) := by decide +kernel
theorem dL_test_1 : decode cL_test 1 = .ok (.iconst 0, 1) := by decide +kernel
theorem dL_test_2 : decode cL_test 2 = .ok (.aload_n 0, 1) := by decide +kernel
theorem dL_test_3 : decode cL_test 3 = .ok (.iload_n 1, 1) := by decide +kernel
theorem dL_test_4 : decode cL_test 4 = .ok (.iload_n 2, 1) := by decide +kernel
theorem dL_test_5 : decode cL_test 5 = .ok (.invokevirtual 122, 3) := by decide +kernel
theorem dL_test_8 : decode cL_test 8 = .ok (.i2l, 1) := by decide +kernel
theorem dL_test_9 : decode cL_test 9 = .ok (.lastore, 1) := by decide +kernel
theorem dL_test_10 : decode cL_test 10 = .ok (.goto 11, 3) := by decide +kernel
theorem dL_test_13 : decode cL_test 13 = .ok (.astore 4, 2) := by decide +kernel
theorem dL_test_15 : decode cL_test 15 = .ok (.iconst 1, 1) := by decide +kernel
theorem dL_test_16 : decode cL_test 16 = .ok (.ireturn, 1) := by decide +kernel
theorem dL_test_17 : decode cL_test 17 = .ok (.astore 4, 2) := by decide +kernel
theorem dL_test_19 : decode cL_test 19 = .ok (.iconst 2, 1) := by decide +kernel
theorem dL_test_20 : decode cL_test 20 = .ok (.ireturn, 1) := by decide +kernel
theorem dL_test_21 : decode cL_test 21 = .ok (.iconst 0, 1) := by decide +kernel
theorem dL_test_22 : decode cL_test 22 = .ok (.ireturn, 1) := by decide +kernel
theorem dL_dismiss_0 : decode cL_dismiss 0 = .ok (.aload_n 2, 1) := by decide +kernel
theorem dL_dismiss_1 : decode cL_dismiss 1 = .ok (.iconst 0, 1) := by decide +kernel
theorem dL_dismiss_2 : decode cL_dismiss 2 = .ok (.aload_n 0, 1) := by decide +kernel
theorem dL_dismiss_3 : decode cL_dismiss 3 = .ok (.iload_n 1, 1) := by decide +kernel
theorem dL_dismiss_4 : decode cL_dismiss 4 = .ok (.invokevirtual 125, 3) := by decide +kernel
theorem dL_dismiss_7 : decode cL_dismiss 7 = .ok (.i2l, 1) := by decide +kernel
theorem dL_dismiss_8 : decode cL_dismiss 8 = .ok (.lastore, 1) := by decide +kernel
theorem dL_dismiss_9 : decode cL_dismiss 9 = .ok (.goto 9, 3) := by decide +kernel
theorem dL_dismiss_12 : decode cL_dismiss 12 = .ok (.astore_n 3, 1) := by decide +kernel
theorem dL_dismiss_13 : decode cL_dismiss 13 = .ok (.iconst 1, 1) := by decide +kernel
theorem dL_dismiss_14 : decode cL_dismiss 14 = .ok (.ireturn, 1) := by decide +kernel
theorem dL_dismiss_15 : decode cL_dismiss 15 = .ok (.astore_n 3, 1) := by decide +kernel
theorem dL_dismiss_16 : decode cL_dismiss 16 = .ok (.iconst 2, 1) := by decide +kernel
theorem dL_dismiss_17 : decode cL_dismiss 17 = .ok (.ireturn, 1) := by decide +kernel
theorem dL_dismiss_18 : decode cL_dismiss 18 = .ok (.iconst 0, 1) := by decide +kernel
theorem dL_dismiss_19 : decode cL_dismiss 19 = .ok (.ireturn, 1) := by decide +kernel
theorem dL_setWage_0 : decode cL_setWage 0 = .ok (.aload_n 3, 1) := by decide +kernel
theorem dL_setWage_1 : decode cL_setWage 1 = .ok (.iconst 0, 1) := by decide +kernel
theorem dL_setWage_2 : decode cL_setWage 2 = .ok (.aload_n 0, 1) := by decide +kernel
theorem dL_setWage_3 : decode cL_setWage 3 = .ok (.iload_n 1, 1) := by decide +kernel
theorem dL_setWage_4 : decode cL_setWage 4 = .ok (.iload_n 2, 1) := by decide +kernel
theorem dL_setWage_5 : decode cL_setWage 5 = .ok (.invokevirtual 128, 3) := by decide +kernel
theorem dL_setWage_8 : decode cL_setWage 8 = .ok (.i2l, 1) := by decide +kernel
theorem dL_setWage_9 : decode cL_setWage 9 = .ok (.lastore, 1) := by decide +kernel
theorem dL_setWage_10 : decode cL_setWage 10 = .ok (.goto 11, 3) := by decide +kernel
theorem dL_setWage_13 : decode cL_setWage 13 = .ok (.astore 4, 2) := by decide +kernel
theorem dL_setWage_15 : decode cL_setWage 15 = .ok (.iconst 1, 1) := by decide +kernel
theorem dL_setWage_16 : decode cL_setWage 16 = .ok (.ireturn, 1) := by decide +kernel
theorem dL_setWage_17 : decode cL_setWage 17 = .ok (.astore 4, 2) := by decide +kernel
theorem dL_setWage_19 : decode cL_setWage 19 = .ok (.iconst 2, 1) := by decide +kernel
theorem dL_setWage_20 : decode cL_setWage 20 = .ok (.ireturn, 1) := by decide +kernel
theorem dL_setWage_21 : decode cL_setWage 21 = .ok (.iconst 0, 1) := by decide +kernel
theorem dL_setWage_22 : decode cL_setWage 22 = .ok (.ireturn, 1) := by decide +kernel
theorem dL_fund_0 : decode cL_fund 0 = .ok (.aload_n 3, 1) := by decide +kernel
theorem dL_fund_1 : decode cL_fund 1 = .ok (.iconst 0, 1) := by decide +kernel
theorem dL_fund_2 : decode cL_fund 2 = .ok (.aload_n 0, 1) := by decide +kernel
theorem dL_fund_3 : decode cL_fund 3 = .ok (.iload_n 1, 1) := by decide +kernel
theorem dL_fund_4 : decode cL_fund 4 = .ok (.iload_n 2, 1) := by decide +kernel
theorem dL_fund_5 : decode cL_fund 5 = .ok (.invokevirtual 131, 3) := by decide +kernel
theorem dL_fund_8 : decode cL_fund 8 = .ok (.i2l, 1) := by decide +kernel
theorem dL_fund_9 : decode cL_fund 9 = .ok (.lastore, 1) := by decide +kernel
theorem dL_fund_10 : decode cL_fund 10 = .ok (.goto 11, 3) := by decide +kernel
theorem dL_fund_13 : decode cL_fund 13 = .ok (.astore 4, 2) := by decide +kernel
theorem dL_fund_15 : decode cL_fund 15 = .ok (.iconst 1, 1) := by decide +kernel
theorem dL_fund_16 : decode cL_fund 16 = .ok (.ireturn, 1) := by decide +kernel
theorem dL_fund_17 : decode cL_fund 17 = .ok (.astore 4, 2) := by decide +kernel
theorem dL_fund_19 : decode cL_fund 19 = .ok (.iconst 2, 1) := by decide +kernel
theorem dL_fund_20 : decode cL_fund 20 = .ok (.ireturn, 1) := by decide +kernel
theorem dL_fund_21 : decode cL_fund 21 = .ok (.iconst 0, 1) := by decide +kernel
theorem dL_fund_22 : decode cL_fund 22 = .ok (.ireturn, 1) := by decide +kernel
theorem dL_train_0 : decode cL_train 0 = .ok (.aload_n 2, 1) := by decide +kernel
theorem dL_train_1 : decode cL_train 1 = .ok (.iconst 0, 1) := by decide +kernel
theorem dL_train_2 : decode cL_train 2 = .ok (.aload_n 0, 1) := by decide +kernel
theorem dL_train_3 : decode cL_train 3 = .ok (.iload_n 1, 1) := by decide +kernel
theorem dL_train_4 : decode cL_train 4 = .ok (.invokevirtual 134, 3) := by decide +kernel
theorem dL_train_7 : decode cL_train 7 = .ok (.i2l, 1) := by decide +kernel
theorem dL_train_8 : decode cL_train 8 = .ok (.lastore, 1) := by decide +kernel
theorem dL_train_9 : decode cL_train 9 = .ok (.goto 9, 3) := by decide +kernel
theorem dL_train_12 : decode cL_train 12 = .ok (.astore_n 3, 1) := by decide +kernel
theorem dL_train_13 : decode cL_train 13 = .ok (.iconst 1, 1) := by decide +kernel
theorem dL_train_14 : decode cL_train 14 = .ok (.ireturn, 1) := by decide +kernel
theorem dL_train_15 : decode cL_train 15 = .ok (.astore_n 3, 1) := by decide +kernel
theorem dL_train_16 : decode cL_train 16 = .ok (.iconst 2, 1) := by decide +kernel
theorem dL_train_17 : decode cL_train 17 = .ok (.ireturn, 1) := by decide +kernel
theorem dL_train_18 : decode cL_train 18 = .ok (.iconst 0, 1) := by decide +kernel
theorem dL_train_19 : decode cL_train 19 = .ok (.ireturn, 1) := by decide +kernel
theorem dL_undo_0 : decode cL_undo 0 = .ok (.aload_n 1, 1) := by decide +kernel
theorem dL_undo_1 : decode cL_undo 1 = .ok (.iconst 0, 1) := by decide +kernel
theorem dL_undo_2 : decode cL_undo 2 = .ok (.aload_n 0, 1) := by decide +kernel
theorem dL_undo_3 : decode cL_undo 3 = .ok (.invokevirtual 137, 3) := by decide +kernel
theorem dL_undo_6 : decode cL_undo 6 = .ok (.i2l, 1) := by decide +kernel
theorem dL_undo_7 : decode cL_undo 7 = .ok (.lastore, 1) := by decide +kernel
theorem dL_undo_8 : decode cL_undo 8 = .ok (.goto 6, 3) := by decide +kernel
theorem dL_undo_11 : decode cL_undo 11 = .ok (.astore_n 2, 1) := by decide +kernel
theorem dL_undo_12 : decode cL_undo 12 = .ok (.iconst 1, 1) := by decide +kernel
theorem dL_undo_13 : decode cL_undo 13 = .ok (.ireturn, 1) := by decide +kernel
theorem dL_undo_14 : decode cL_undo 14 = .ok (.iconst 0, 1) := by decide +kernel
theorem dL_undo_15 : decode cL_undo 15 = .ok (.ireturn, 1) := by decide +kernel
theorem dL_restore_0 : decode cL_restore 0 = .ok (.aload_n 1, 1) := by decide +kernel
theorem dL_restore_1 : decode cL_restore 1 = .ok (.iconst 0, 1) := by decide +kernel
theorem dL_restore_2 : decode cL_restore 2 = .ok (.aload_n 0, 1) := by decide +kernel
theorem dL_restore_3 : decode cL_restore 3 = .ok (.invokevirtual 140, 3) := by decide +kernel
theorem dL_restore_6 : decode cL_restore 6 = .ok (.i2l, 1) := by decide +kernel
theorem dL_restore_7 : decode cL_restore 7 = .ok (.lastore, 1) := by decide +kernel
theorem dL_restore_8 : decode cL_restore 8 = .ok (.goto 6, 3) := by decide +kernel
theorem dL_restore_11 : decode cL_restore 11 = .ok (.astore_n 2, 1) := by decide +kernel
theorem dL_restore_12 : decode cL_restore 12 = .ok (.iconst 1, 1) := by decide +kernel
theorem dL_restore_13 : decode cL_restore 13 = .ok (.ireturn, 1) := by decide +kernel
theorem dL_restore_14 : decode cL_restore 14 = .ok (.iconst 0, 1) := by decide +kernel
theorem dL_restore_15 : decode cL_restore 15 = .ok (.ireturn, 1) := by decide +kernel
theorem dL_law_0 : decode cL_law 0 = .ok (.new 8, 3) := by decide +kernel
theorem dL_law_3 : decode cL_law 3 = .ok (.dup, 1) := by decide +kernel
theorem dL_law_4 : decode cL_law 4 = .ok (.invokespecial 143, 3) := by decide +kernel
theorem dL_law_7 : decode cL_law 7 = .ok (.astore_n 1, 1) := by decide +kernel
theorem dL_law_8 : decode cL_law 8 = .ok (.new 144, 3) := by decide +kernel
theorem dL_law_11 : decode cL_law 11 = .ok (.dup, 1) := by decide +kernel
theorem dL_law_12 : decode cL_law 12 = .ok (.invokespecial 146, 3) := by decide +kernel
theorem dL_law_15 : decode cL_law 15 = .ok (.astore_n 2, 1) := by decide +kernel
theorem dL_law_16 : decode cL_law 16 = .ok (.iconst 1, 1) := by decide +kernel
theorem dL_law_17 : decode cL_law 17 = .ok (.newarray .long, 2) := by decide +kernel
theorem dL_law_19 : decode cL_law 19 = .ok (.astore_n 3, 1) := by decide +kernel
theorem dL_law_20 : decode cL_law 20 = .ok (.iconst 0, 1) := by decide +kernel
theorem dL_law_21 : decode cL_law 21 = .ok (.istore 4, 2) := by decide +kernel
theorem dL_law_23 : decode cL_law 23 = .ok (.iload 4, 2) := by decide +kernel
theorem dL_law_25 : decode cL_law 25 = .ok (.aload_n 0, 1) := by decide +kernel
theorem dL_law_26 : decode cL_law 26 = .ok (.arraylength, 1) := by decide +kernel
theorem dL_law_27 : decode cL_law 27 = .ok (.bipush 6, 2) := by decide +kernel
theorem dL_law_29 : decode cL_law 29 = .ok (.isub, 1) := by decide +kernel
theorem dL_law_30 : decode cL_law 30 = .ok (.if_icmp .gt 3082, 3) := by decide +kernel
theorem dL_law_33 : decode cL_law 33 = .ok (.aload_n 0, 1) := by decide +kernel
theorem dL_law_34 : decode cL_law 34 = .ok (.iload 4, 2) := by decide +kernel
theorem dL_law_36 : decode cL_law 36 = .ok (.iaload, 1) := by decide +kernel
theorem dL_law_37 : decode cL_law 37 = .ok (.bipush 63, 2) := by decide +kernel
theorem dL_law_39 : decode cL_law 39 = .ok (.iand, 1) := by decide +kernel
theorem dL_law_40 : decode cL_law 40 = .ok (.tableswitch 3066 0 61 #[264, 368, 424, 468, 512, 525, 538, 551, 564, 577, 590, 646, 659, 672, 728, 784, 840, 896, 952, 1008, 1064, 1120, 1176, 1232, 1288, 1344, 1412, 1487, 1555, 1623, 1691, 1759, 1772, 1828, 1896, 1964, 2020, 2088, 2144, 2157, 2225, 2238, 2251, 2307, 2363, 2419, 2432, 2445, 2458, 2499, 2542, 2598, 2611, 2679, 2735, 2803, 2871, 2927, 2971, 2984, 3028, 3041], 264) := by decide +kernel
theorem dL_law_304 : decode cL_law 304 = .ok (.aload_n 1, 1) := by decide +kernel
theorem dL_law_305 : decode cL_law 305 = .ok (.aload_n 0, 1) := by decide +kernel
theorem dL_law_306 : decode cL_law 306 = .ok (.iload 4, 2) := by decide +kernel
theorem dL_law_308 : decode cL_law 308 = .ok (.iconst 1, 1) := by decide +kernel
theorem dL_law_309 : decode cL_law 309 = .ok (.iadd, 1) := by decide +kernel
theorem dL_law_310 : decode cL_law 310 = .ok (.iaload, 1) := by decide +kernel
theorem dL_law_311 : decode cL_law 311 = .ok (.aload_n 0, 1) := by decide +kernel
theorem dL_law_312 : decode cL_law 312 = .ok (.iload 4, 2) := by decide +kernel
theorem dL_law_314 : decode cL_law 314 = .ok (.iconst 2, 1) := by decide +kernel
theorem dL_law_315 : decode cL_law 315 = .ok (.iadd, 1) := by decide +kernel
theorem dL_law_316 : decode cL_law 316 = .ok (.iaload, 1) := by decide +kernel
theorem dL_law_317 : decode cL_law 317 = .ok (.aload_n 0, 1) := by decide +kernel
theorem dL_law_318 : decode cL_law 318 = .ok (.iload 4, 2) := by decide +kernel
theorem dL_law_320 : decode cL_law 320 = .ok (.iconst 3, 1) := by decide +kernel
theorem dL_law_321 : decode cL_law 321 = .ok (.iadd, 1) := by decide +kernel
theorem dL_law_322 : decode cL_law 322 = .ok (.iaload, 1) := by decide +kernel
theorem dL_law_323 : decode cL_law 323 = .ok (.aload_n 0, 1) := by decide +kernel
theorem dL_law_324 : decode cL_law 324 = .ok (.iload 4, 2) := by decide +kernel
theorem dL_law_326 : decode cL_law 326 = .ok (.iconst 4, 1) := by decide +kernel
theorem dL_law_327 : decode cL_law 327 = .ok (.iadd, 1) := by decide +kernel
theorem dL_law_328 : decode cL_law 328 = .ok (.iaload, 1) := by decide +kernel
theorem dL_law_329 : decode cL_law 329 = .ok (.aload_n 0, 1) := by decide +kernel
theorem dL_law_330 : decode cL_law 330 = .ok (.iload 4, 2) := by decide +kernel
theorem dL_law_332 : decode cL_law 332 = .ok (.iconst 5, 1) := by decide +kernel
theorem dL_law_333 : decode cL_law 333 = .ok (.iadd, 1) := by decide +kernel
theorem dL_law_334 : decode cL_law 334 = .ok (.iaload, 1) := by decide +kernel
theorem dL_law_335 : decode cL_law 335 = .ok (.aload_n 3, 1) := by decide +kernel
theorem dL_law_336 : decode cL_law 336 = .ok (.invokestatic 147, 3) := by decide +kernel
theorem dL_law_339 : decode cL_law 339 = .ok (.istore 5, 2) := by decide +kernel
theorem dL_law_341 : decode cL_law 341 = .ok (.aload_n 2, 1) := by decide +kernel
theorem dL_law_342 : decode cL_law 342 = .ok (.aload_n 0, 1) := by decide +kernel
theorem dL_law_343 : decode cL_law 343 = .ok (.iload 4, 2) := by decide +kernel
theorem dL_law_345 : decode cL_law 345 = .ok (.iconst 1, 1) := by decide +kernel
theorem dL_law_346 : decode cL_law 346 = .ok (.iadd, 1) := by decide +kernel
theorem dL_law_347 : decode cL_law 347 = .ok (.iaload, 1) := by decide +kernel
theorem dL_law_348 : decode cL_law 348 = .ok (.aload_n 0, 1) := by decide +kernel
theorem dL_law_349 : decode cL_law 349 = .ok (.iload 4, 2) := by decide +kernel
theorem dL_law_351 : decode cL_law 351 = .ok (.iconst 2, 1) := by decide +kernel
theorem dL_law_352 : decode cL_law 352 = .ok (.iadd, 1) := by decide +kernel
theorem dL_law_353 : decode cL_law 353 = .ok (.iaload, 1) := by decide +kernel
theorem dL_law_354 : decode cL_law 354 = .ok (.aload_n 0, 1) := by decide +kernel
theorem dL_law_355 : decode cL_law 355 = .ok (.iload 4, 2) := by decide +kernel
theorem dL_law_357 : decode cL_law 357 = .ok (.iconst 3, 1) := by decide +kernel
theorem dL_law_358 : decode cL_law 358 = .ok (.iadd, 1) := by decide +kernel
theorem dL_law_359 : decode cL_law 359 = .ok (.iaload, 1) := by decide +kernel
theorem dL_law_360 : decode cL_law 360 = .ok (.aload_n 0, 1) := by decide +kernel
theorem dL_law_361 : decode cL_law 361 = .ok (.iload 4, 2) := by decide +kernel
theorem dL_law_363 : decode cL_law 363 = .ok (.iconst 4, 1) := by decide +kernel
theorem dL_law_364 : decode cL_law 364 = .ok (.iadd, 1) := by decide +kernel
theorem dL_law_365 : decode cL_law 365 = .ok (.iaload, 1) := by decide +kernel
theorem dL_law_366 : decode cL_law 366 = .ok (.aload_n 0, 1) := by decide +kernel
theorem dL_law_367 : decode cL_law 367 = .ok (.iload 4, 2) := by decide +kernel
theorem dL_law_369 : decode cL_law 369 = .ok (.iconst 5, 1) := by decide +kernel
theorem dL_law_370 : decode cL_law 370 = .ok (.iadd, 1) := by decide +kernel
theorem dL_law_371 : decode cL_law 371 = .ok (.iaload, 1) := by decide +kernel
theorem dL_law_372 : decode cL_law 372 = .ok (.invokevirtual 152, 3) := by decide +kernel
theorem dL_law_375 : decode cL_law 375 = .ok (.istore 6, 2) := by decide +kernel
theorem dL_law_377 : decode cL_law 377 = .ok (.aload_n 2, 1) := by decide +kernel
theorem dL_law_378 : decode cL_law 378 = .ok (.invokevirtual 153, 3) := by decide +kernel
theorem dL_law_381 : decode cL_law 381 = .ok (.iload 5, 2) := by decide +kernel
theorem dL_law_383 : decode cL_law 383 = .ok (.if_icmp .eq 5, 3) := by decide +kernel
theorem dL_law_386 : decode cL_law 386 = .ok (.iconst 0, 1) := by decide +kernel
theorem dL_law_387 : decode cL_law 387 = .ok (.ireturn, 1) := by decide +kernel
theorem dL_law_388 : decode cL_law 388 = .ok (.iload 5, 2) := by decide +kernel
theorem dL_law_390 : decode cL_law 390 = .ok (.ifCond .ne 15, 3) := by decide +kernel
theorem dL_law_393 : decode cL_law 393 = .ok (.aload_n 3, 1) := by decide +kernel
theorem dL_law_394 : decode cL_law 394 = .ok (.iconst 0, 1) := by decide +kernel
theorem dL_law_395 : decode cL_law 395 = .ok (.laload, 1) := by decide +kernel
theorem dL_law_396 : decode cL_law 396 = .ok (.iload 6, 2) := by decide +kernel
theorem dL_law_398 : decode cL_law 398 = .ok (.i2l, 1) := by decide +kernel
theorem dL_law_399 : decode cL_law 399 = .ok (.lcmp, 1) := by decide +kernel
theorem dL_law_400 : decode cL_law 400 = .ok (.ifCond .eq 5, 3) := by decide +kernel
theorem dL_law_403 : decode cL_law 403 = .ok (.iconst 0, 1) := by decide +kernel
theorem dL_law_404 : decode cL_law 404 = .ok (.ireturn, 1) := by decide +kernel
theorem dL_law_405 : decode cL_law 405 = .ok (.goto 2701, 3) := by decide +kernel
theorem dL_law_408 : decode cL_law 408 = .ok (.aload_n 1, 1) := by decide +kernel
theorem dL_law_409 : decode cL_law 409 = .ok (.aload_n 0, 1) := by decide +kernel
theorem dL_law_410 : decode cL_law 410 = .ok (.iload 4, 2) := by decide +kernel
theorem dL_law_412 : decode cL_law 412 = .ok (.iconst 1, 1) := by decide +kernel
theorem dL_law_413 : decode cL_law 413 = .ok (.iadd, 1) := by decide +kernel
theorem dL_law_414 : decode cL_law 414 = .ok (.iaload, 1) := by decide +kernel
theorem dL_law_415 : decode cL_law 415 = .ok (.aload_n 3, 1) := by decide +kernel
theorem dL_law_416 : decode cL_law 416 = .ok (.invokestatic 156, 3) := by decide +kernel
theorem dL_law_419 : decode cL_law 419 = .ok (.istore 5, 2) := by decide +kernel
theorem dL_law_421 : decode cL_law 421 = .ok (.aload_n 2, 1) := by decide +kernel
theorem dL_law_422 : decode cL_law 422 = .ok (.aload_n 0, 1) := by decide +kernel
theorem dL_law_423 : decode cL_law 423 = .ok (.iload 4, 2) := by decide +kernel
theorem dL_law_425 : decode cL_law 425 = .ok (.iconst 1, 1) := by decide +kernel
theorem dL_law_426 : decode cL_law 426 = .ok (.iadd, 1) := by decide +kernel
theorem dL_law_427 : decode cL_law 427 = .ok (.iaload, 1) := by decide +kernel
theorem dL_law_428 : decode cL_law 428 = .ok (.invokevirtual 159, 3) := by decide +kernel
theorem dL_law_431 : decode cL_law 431 = .ok (.istore 6, 2) := by decide +kernel
theorem dL_law_433 : decode cL_law 433 = .ok (.aload_n 2, 1) := by decide +kernel
theorem dL_law_434 : decode cL_law 434 = .ok (.invokevirtual 153, 3) := by decide +kernel
theorem dL_law_437 : decode cL_law 437 = .ok (.iload 5, 2) := by decide +kernel
theorem dL_law_439 : decode cL_law 439 = .ok (.if_icmp .eq 5, 3) := by decide +kernel
theorem dL_law_442 : decode cL_law 442 = .ok (.iconst 0, 1) := by decide +kernel
theorem dL_law_443 : decode cL_law 443 = .ok (.ireturn, 1) := by decide +kernel
theorem dL_law_444 : decode cL_law 444 = .ok (.iload 5, 2) := by decide +kernel
theorem dL_law_446 : decode cL_law 446 = .ok (.ifCond .ne 15, 3) := by decide +kernel
theorem dL_law_449 : decode cL_law 449 = .ok (.aload_n 3, 1) := by decide +kernel
theorem dL_law_450 : decode cL_law 450 = .ok (.iconst 0, 1) := by decide +kernel
theorem dL_law_451 : decode cL_law 451 = .ok (.laload, 1) := by decide +kernel
theorem dL_law_452 : decode cL_law 452 = .ok (.iload 6, 2) := by decide +kernel
theorem dL_law_454 : decode cL_law 454 = .ok (.i2l, 1) := by decide +kernel
theorem dL_law_455 : decode cL_law 455 = .ok (.lcmp, 1) := by decide +kernel
theorem dL_law_456 : decode cL_law 456 = .ok (.ifCond .eq 5, 3) := by decide +kernel
theorem dL_law_459 : decode cL_law 459 = .ok (.iconst 0, 1) := by decide +kernel
theorem dL_law_460 : decode cL_law 460 = .ok (.ireturn, 1) := by decide +kernel
theorem dL_law_461 : decode cL_law 461 = .ok (.goto 2645, 3) := by decide +kernel
theorem dL_law_464 : decode cL_law 464 = .ok (.aload_n 1, 1) := by decide +kernel
theorem dL_law_465 : decode cL_law 465 = .ok (.aload_n 3, 1) := by decide +kernel
theorem dL_law_466 : decode cL_law 466 = .ok (.invokestatic 160, 3) := by decide +kernel
theorem dL_law_469 : decode cL_law 469 = .ok (.istore 5, 2) := by decide +kernel
theorem dL_law_471 : decode cL_law 471 = .ok (.aload_n 2, 1) := by decide +kernel
theorem dL_law_472 : decode cL_law 472 = .ok (.invokevirtual 163, 3) := by decide +kernel
theorem dL_law_475 : decode cL_law 475 = .ok (.istore 6, 2) := by decide +kernel
theorem dL_law_477 : decode cL_law 477 = .ok (.aload_n 2, 1) := by decide +kernel
theorem dL_law_478 : decode cL_law 478 = .ok (.invokevirtual 153, 3) := by decide +kernel
theorem dL_law_481 : decode cL_law 481 = .ok (.iload 5, 2) := by decide +kernel
theorem dL_law_483 : decode cL_law 483 = .ok (.if_icmp .eq 5, 3) := by decide +kernel
theorem dL_law_486 : decode cL_law 486 = .ok (.iconst 0, 1) := by decide +kernel
theorem dL_law_487 : decode cL_law 487 = .ok (.ireturn, 1) := by decide +kernel
theorem dL_law_488 : decode cL_law 488 = .ok (.iload 5, 2) := by decide +kernel
theorem dL_law_490 : decode cL_law 490 = .ok (.ifCond .ne 15, 3) := by decide +kernel
theorem dL_law_493 : decode cL_law 493 = .ok (.aload_n 3, 1) := by decide +kernel
theorem dL_law_494 : decode cL_law 494 = .ok (.iconst 0, 1) := by decide +kernel
theorem dL_law_495 : decode cL_law 495 = .ok (.laload, 1) := by decide +kernel
theorem dL_law_496 : decode cL_law 496 = .ok (.iload 6, 2) := by decide +kernel
theorem dL_law_498 : decode cL_law 498 = .ok (.i2l, 1) := by decide +kernel
theorem dL_law_499 : decode cL_law 499 = .ok (.lcmp, 1) := by decide +kernel
theorem dL_law_500 : decode cL_law 500 = .ok (.ifCond .eq 5, 3) := by decide +kernel
theorem dL_law_503 : decode cL_law 503 = .ok (.iconst 0, 1) := by decide +kernel
theorem dL_law_504 : decode cL_law 504 = .ok (.ireturn, 1) := by decide +kernel
theorem dL_law_505 : decode cL_law 505 = .ok (.goto 2601, 3) := by decide +kernel
theorem dL_law_508 : decode cL_law 508 = .ok (.aload_n 1, 1) := by decide +kernel
theorem dL_law_509 : decode cL_law 509 = .ok (.aload_n 3, 1) := by decide +kernel
theorem dL_law_510 : decode cL_law 510 = .ok (.invokestatic 164, 3) := by decide +kernel
theorem dL_law_513 : decode cL_law 513 = .ok (.istore 5, 2) := by decide +kernel
theorem dL_law_515 : decode cL_law 515 = .ok (.aload_n 2, 1) := by decide +kernel
theorem dL_law_516 : decode cL_law 516 = .ok (.invokevirtual 166, 3) := by decide +kernel
theorem dL_law_519 : decode cL_law 519 = .ok (.istore 6, 2) := by decide +kernel
theorem dL_law_521 : decode cL_law 521 = .ok (.aload_n 2, 1) := by decide +kernel
theorem dL_law_522 : decode cL_law 522 = .ok (.invokevirtual 153, 3) := by decide +kernel
theorem dL_law_525 : decode cL_law 525 = .ok (.iload 5, 2) := by decide +kernel
theorem dL_law_527 : decode cL_law 527 = .ok (.if_icmp .eq 5, 3) := by decide +kernel
theorem dL_law_530 : decode cL_law 530 = .ok (.iconst 0, 1) := by decide +kernel
theorem dL_law_531 : decode cL_law 531 = .ok (.ireturn, 1) := by decide +kernel
theorem dL_law_532 : decode cL_law 532 = .ok (.iload 5, 2) := by decide +kernel
theorem dL_law_534 : decode cL_law 534 = .ok (.ifCond .ne 15, 3) := by decide +kernel
theorem dL_law_537 : decode cL_law 537 = .ok (.aload_n 3, 1) := by decide +kernel
theorem dL_law_538 : decode cL_law 538 = .ok (.iconst 0, 1) := by decide +kernel
theorem dL_law_539 : decode cL_law 539 = .ok (.laload, 1) := by decide +kernel
theorem dL_law_540 : decode cL_law 540 = .ok (.iload 6, 2) := by decide +kernel
theorem dL_law_542 : decode cL_law 542 = .ok (.i2l, 1) := by decide +kernel
theorem dL_law_543 : decode cL_law 543 = .ok (.lcmp, 1) := by decide +kernel
theorem dL_law_544 : decode cL_law 544 = .ok (.ifCond .eq 5, 3) := by decide +kernel
theorem dL_law_547 : decode cL_law 547 = .ok (.iconst 0, 1) := by decide +kernel
theorem dL_law_548 : decode cL_law 548 = .ok (.ireturn, 1) := by decide +kernel
theorem dL_law_549 : decode cL_law 549 = .ok (.goto 2557, 3) := by decide +kernel
theorem dL_law_552 : decode cL_law 552 = .ok (.aload_n 1, 1) := by decide +kernel
theorem dL_law_553 : decode cL_law 553 = .ok (.invokevirtual 167, 3) := by decide +kernel
theorem dL_law_556 : decode cL_law 556 = .ok (.aload_n 2, 1) := by decide +kernel
theorem dL_law_557 : decode cL_law 557 = .ok (.invokevirtual 170, 3) := by decide +kernel
theorem dL_law_560 : decode cL_law 560 = .ok (.if_icmp .eq 2546, 3) := by decide +kernel
theorem dL_law_563 : decode cL_law 563 = .ok (.iconst 0, 1) := by decide +kernel
theorem dL_law_564 : decode cL_law 564 = .ok (.ireturn, 1) := by decide +kernel
theorem dL_law_565 : decode cL_law 565 = .ok (.aload_n 1, 1) := by decide +kernel
theorem dL_law_566 : decode cL_law 566 = .ok (.invokevirtual 171, 3) := by decide +kernel
theorem dL_law_569 : decode cL_law 569 = .ok (.aload_n 2, 1) := by decide +kernel
theorem dL_law_570 : decode cL_law 570 = .ok (.invokevirtual 174, 3) := by decide +kernel
theorem dL_law_573 : decode cL_law 573 = .ok (.if_icmp .eq 2533, 3) := by decide +kernel
theorem dL_law_576 : decode cL_law 576 = .ok (.iconst 0, 1) := by decide +kernel
theorem dL_law_577 : decode cL_law 577 = .ok (.ireturn, 1) := by decide +kernel
theorem dL_law_578 : decode cL_law 578 = .ok (.aload_n 1, 1) := by decide +kernel
theorem dL_law_579 : decode cL_law 579 = .ok (.invokevirtual 175, 3) := by decide +kernel
theorem dL_law_582 : decode cL_law 582 = .ok (.aload_n 2, 1) := by decide +kernel
theorem dL_law_583 : decode cL_law 583 = .ok (.invokevirtual 178, 3) := by decide +kernel
theorem dL_law_586 : decode cL_law 586 = .ok (.if_icmp .eq 2520, 3) := by decide +kernel
theorem dL_law_589 : decode cL_law 589 = .ok (.iconst 0, 1) := by decide +kernel
theorem dL_law_590 : decode cL_law 590 = .ok (.ireturn, 1) := by decide +kernel
theorem dL_law_591 : decode cL_law 591 = .ok (.aload_n 1, 1) := by decide +kernel
theorem dL_law_592 : decode cL_law 592 = .ok (.invokevirtual 179, 3) := by decide +kernel
theorem dL_law_595 : decode cL_law 595 = .ok (.aload_n 2, 1) := by decide +kernel
theorem dL_law_596 : decode cL_law 596 = .ok (.invokevirtual 182, 3) := by decide +kernel
theorem dL_law_599 : decode cL_law 599 = .ok (.if_icmp .eq 2507, 3) := by decide +kernel
theorem dL_law_602 : decode cL_law 602 = .ok (.iconst 0, 1) := by decide +kernel
theorem dL_law_603 : decode cL_law 603 = .ok (.ireturn, 1) := by decide +kernel
theorem dL_law_604 : decode cL_law 604 = .ok (.aload_n 1, 1) := by decide +kernel
theorem dL_law_605 : decode cL_law 605 = .ok (.invokevirtual 183, 3) := by decide +kernel
theorem dL_law_608 : decode cL_law 608 = .ok (.aload_n 2, 1) := by decide +kernel
theorem dL_law_609 : decode cL_law 609 = .ok (.invokevirtual 186, 3) := by decide +kernel
theorem dL_law_612 : decode cL_law 612 = .ok (.if_icmp .eq 2494, 3) := by decide +kernel
theorem dL_law_615 : decode cL_law 615 = .ok (.iconst 0, 1) := by decide +kernel
theorem dL_law_616 : decode cL_law 616 = .ok (.ireturn, 1) := by decide +kernel
theorem dL_law_617 : decode cL_law 617 = .ok (.aload_n 1, 1) := by decide +kernel
theorem dL_law_618 : decode cL_law 618 = .ok (.invokevirtual 187, 3) := by decide +kernel
theorem dL_law_621 : decode cL_law 621 = .ok (.aload_n 2, 1) := by decide +kernel
theorem dL_law_622 : decode cL_law 622 = .ok (.invokevirtual 190, 3) := by decide +kernel
theorem dL_law_625 : decode cL_law 625 = .ok (.if_icmp .eq 2481, 3) := by decide +kernel
theorem dL_law_628 : decode cL_law 628 = .ok (.iconst 0, 1) := by decide +kernel
theorem dL_law_629 : decode cL_law 629 = .ok (.ireturn, 1) := by decide +kernel
theorem dL_law_630 : decode cL_law 630 = .ok (.aload_n 1, 1) := by decide +kernel
theorem dL_law_631 : decode cL_law 631 = .ok (.aload_n 0, 1) := by decide +kernel
theorem dL_law_632 : decode cL_law 632 = .ok (.iload 4, 2) := by decide +kernel
theorem dL_law_634 : decode cL_law 634 = .ok (.iconst 1, 1) := by decide +kernel
theorem dL_law_635 : decode cL_law 635 = .ok (.iadd, 1) := by decide +kernel
theorem dL_law_636 : decode cL_law 636 = .ok (.iaload, 1) := by decide +kernel
theorem dL_law_637 : decode cL_law 637 = .ok (.aload_n 3, 1) := by decide +kernel
theorem dL_law_638 : decode cL_law 638 = .ok (.invokestatic 191, 3) := by decide +kernel
theorem dL_law_641 : decode cL_law 641 = .ok (.istore 5, 2) := by decide +kernel
theorem dL_law_643 : decode cL_law 643 = .ok (.aload_n 2, 1) := by decide +kernel
theorem dL_law_644 : decode cL_law 644 = .ok (.aload_n 0, 1) := by decide +kernel
theorem dL_law_645 : decode cL_law 645 = .ok (.iload 4, 2) := by decide +kernel
theorem dL_law_647 : decode cL_law 647 = .ok (.iconst 1, 1) := by decide +kernel
theorem dL_law_648 : decode cL_law 648 = .ok (.iadd, 1) := by decide +kernel
theorem dL_law_649 : decode cL_law 649 = .ok (.iaload, 1) := by decide +kernel
theorem dL_law_650 : decode cL_law 650 = .ok (.invokevirtual 193, 3) := by decide +kernel
theorem dL_law_653 : decode cL_law 653 = .ok (.istore 6, 2) := by decide +kernel
theorem dL_law_655 : decode cL_law 655 = .ok (.aload_n 2, 1) := by decide +kernel
theorem dL_law_656 : decode cL_law 656 = .ok (.invokevirtual 153, 3) := by decide +kernel
theorem dL_law_659 : decode cL_law 659 = .ok (.iload 5, 2) := by decide +kernel
theorem dL_law_661 : decode cL_law 661 = .ok (.if_icmp .eq 5, 3) := by decide +kernel
theorem dL_law_664 : decode cL_law 664 = .ok (.iconst 0, 1) := by decide +kernel
theorem dL_law_665 : decode cL_law 665 = .ok (.ireturn, 1) := by decide +kernel
theorem dL_law_666 : decode cL_law 666 = .ok (.iload 5, 2) := by decide +kernel
theorem dL_law_668 : decode cL_law 668 = .ok (.ifCond .ne 15, 3) := by decide +kernel
theorem dL_law_671 : decode cL_law 671 = .ok (.aload_n 3, 1) := by decide +kernel
theorem dL_law_672 : decode cL_law 672 = .ok (.iconst 0, 1) := by decide +kernel
theorem dL_law_673 : decode cL_law 673 = .ok (.laload, 1) := by decide +kernel
theorem dL_law_674 : decode cL_law 674 = .ok (.iload 6, 2) := by decide +kernel
theorem dL_law_676 : decode cL_law 676 = .ok (.i2l, 1) := by decide +kernel
theorem dL_law_677 : decode cL_law 677 = .ok (.lcmp, 1) := by decide +kernel
theorem dL_law_678 : decode cL_law 678 = .ok (.ifCond .eq 5, 3) := by decide +kernel
theorem dL_law_681 : decode cL_law 681 = .ok (.iconst 0, 1) := by decide +kernel
theorem dL_law_682 : decode cL_law 682 = .ok (.ireturn, 1) := by decide +kernel
theorem dL_law_683 : decode cL_law 683 = .ok (.goto 2423, 3) := by decide +kernel
theorem dL_law_686 : decode cL_law 686 = .ok (.aload_n 1, 1) := by decide +kernel
theorem dL_law_687 : decode cL_law 687 = .ok (.invokevirtual 194, 3) := by decide +kernel
theorem dL_law_690 : decode cL_law 690 = .ok (.aload_n 2, 1) := by decide +kernel
theorem dL_law_691 : decode cL_law 691 = .ok (.invokevirtual 197, 3) := by decide +kernel
theorem dL_law_694 : decode cL_law 694 = .ok (.if_icmp .eq 2412, 3) := by decide +kernel
theorem dL_law_697 : decode cL_law 697 = .ok (.iconst 0, 1) := by decide +kernel
theorem dL_law_698 : decode cL_law 698 = .ok (.ireturn, 1) := by decide +kernel
theorem dL_law_699 : decode cL_law 699 = .ok (.aload_n 1, 1) := by decide +kernel
theorem dL_law_700 : decode cL_law 700 = .ok (.invokevirtual 198, 3) := by decide +kernel
theorem dL_law_703 : decode cL_law 703 = .ok (.aload_n 2, 1) := by decide +kernel
theorem dL_law_704 : decode cL_law 704 = .ok (.invokevirtual 201, 3) := by decide +kernel
theorem dL_law_707 : decode cL_law 707 = .ok (.if_icmp .eq 2399, 3) := by decide +kernel
theorem dL_law_710 : decode cL_law 710 = .ok (.iconst 0, 1) := by decide +kernel
theorem dL_law_711 : decode cL_law 711 = .ok (.ireturn, 1) := by decide +kernel
theorem dL_law_712 : decode cL_law 712 = .ok (.aload_n 1, 1) := by decide +kernel
theorem dL_law_713 : decode cL_law 713 = .ok (.aload_n 0, 1) := by decide +kernel
theorem dL_law_714 : decode cL_law 714 = .ok (.iload 4, 2) := by decide +kernel
theorem dL_law_716 : decode cL_law 716 = .ok (.iconst 1, 1) := by decide +kernel
theorem dL_law_717 : decode cL_law 717 = .ok (.iadd, 1) := by decide +kernel
theorem dL_law_718 : decode cL_law 718 = .ok (.iaload, 1) := by decide +kernel
theorem dL_law_719 : decode cL_law 719 = .ok (.aload_n 3, 1) := by decide +kernel
theorem dL_law_720 : decode cL_law 720 = .ok (.invokestatic 202, 3) := by decide +kernel
theorem dL_law_723 : decode cL_law 723 = .ok (.istore 5, 2) := by decide +kernel
theorem dL_law_725 : decode cL_law 725 = .ok (.aload_n 2, 1) := by decide +kernel
theorem dL_law_726 : decode cL_law 726 = .ok (.aload_n 0, 1) := by decide +kernel
theorem dL_law_727 : decode cL_law 727 = .ok (.iload 4, 2) := by decide +kernel
theorem dL_law_729 : decode cL_law 729 = .ok (.iconst 1, 1) := by decide +kernel
theorem dL_law_730 : decode cL_law 730 = .ok (.iadd, 1) := by decide +kernel
theorem dL_law_731 : decode cL_law 731 = .ok (.iaload, 1) := by decide +kernel
theorem dL_law_732 : decode cL_law 732 = .ok (.invokevirtual 204, 3) := by decide +kernel
theorem dL_law_735 : decode cL_law 735 = .ok (.istore 6, 2) := by decide +kernel
theorem dL_law_737 : decode cL_law 737 = .ok (.aload_n 2, 1) := by decide +kernel
theorem dL_law_738 : decode cL_law 738 = .ok (.invokevirtual 153, 3) := by decide +kernel
theorem dL_law_741 : decode cL_law 741 = .ok (.iload 5, 2) := by decide +kernel
theorem dL_law_743 : decode cL_law 743 = .ok (.if_icmp .eq 5, 3) := by decide +kernel
theorem dL_law_746 : decode cL_law 746 = .ok (.iconst 0, 1) := by decide +kernel
theorem dL_law_747 : decode cL_law 747 = .ok (.ireturn, 1) := by decide +kernel
theorem dL_law_748 : decode cL_law 748 = .ok (.iload 5, 2) := by decide +kernel
theorem dL_law_750 : decode cL_law 750 = .ok (.ifCond .ne 15, 3) := by decide +kernel
theorem dL_law_753 : decode cL_law 753 = .ok (.aload_n 3, 1) := by decide +kernel
theorem dL_law_754 : decode cL_law 754 = .ok (.iconst 0, 1) := by decide +kernel
theorem dL_law_755 : decode cL_law 755 = .ok (.laload, 1) := by decide +kernel
theorem dL_law_756 : decode cL_law 756 = .ok (.iload 6, 2) := by decide +kernel
theorem dL_law_758 : decode cL_law 758 = .ok (.i2l, 1) := by decide +kernel
theorem dL_law_759 : decode cL_law 759 = .ok (.lcmp, 1) := by decide +kernel
theorem dL_law_760 : decode cL_law 760 = .ok (.ifCond .eq 5, 3) := by decide +kernel
theorem dL_law_763 : decode cL_law 763 = .ok (.iconst 0, 1) := by decide +kernel
theorem dL_law_764 : decode cL_law 764 = .ok (.ireturn, 1) := by decide +kernel
theorem dL_law_765 : decode cL_law 765 = .ok (.goto 2341, 3) := by decide +kernel
theorem dL_law_768 : decode cL_law 768 = .ok (.aload_n 1, 1) := by decide +kernel
theorem dL_law_769 : decode cL_law 769 = .ok (.aload_n 0, 1) := by decide +kernel
theorem dL_law_770 : decode cL_law 770 = .ok (.iload 4, 2) := by decide +kernel
theorem dL_law_772 : decode cL_law 772 = .ok (.iconst 1, 1) := by decide +kernel
theorem dL_law_773 : decode cL_law 773 = .ok (.iadd, 1) := by decide +kernel
theorem dL_law_774 : decode cL_law 774 = .ok (.iaload, 1) := by decide +kernel
theorem dL_law_775 : decode cL_law 775 = .ok (.aload_n 3, 1) := by decide +kernel
theorem dL_law_776 : decode cL_law 776 = .ok (.invokestatic 205, 3) := by decide +kernel
theorem dL_law_779 : decode cL_law 779 = .ok (.istore 5, 2) := by decide +kernel
theorem dL_law_781 : decode cL_law 781 = .ok (.aload_n 2, 1) := by decide +kernel
theorem dL_law_782 : decode cL_law 782 = .ok (.aload_n 0, 1) := by decide +kernel
theorem dL_law_783 : decode cL_law 783 = .ok (.iload 4, 2) := by decide +kernel
theorem dL_law_785 : decode cL_law 785 = .ok (.iconst 1, 1) := by decide +kernel
theorem dL_law_786 : decode cL_law 786 = .ok (.iadd, 1) := by decide +kernel
theorem dL_law_787 : decode cL_law 787 = .ok (.iaload, 1) := by decide +kernel
theorem dL_law_788 : decode cL_law 788 = .ok (.invokevirtual 207, 3) := by decide +kernel
theorem dL_law_791 : decode cL_law 791 = .ok (.istore 6, 2) := by decide +kernel
theorem dL_law_793 : decode cL_law 793 = .ok (.aload_n 2, 1) := by decide +kernel
theorem dL_law_794 : decode cL_law 794 = .ok (.invokevirtual 153, 3) := by decide +kernel
theorem dL_law_797 : decode cL_law 797 = .ok (.iload 5, 2) := by decide +kernel
theorem dL_law_799 : decode cL_law 799 = .ok (.if_icmp .eq 5, 3) := by decide +kernel
theorem dL_law_802 : decode cL_law 802 = .ok (.iconst 0, 1) := by decide +kernel
theorem dL_law_803 : decode cL_law 803 = .ok (.ireturn, 1) := by decide +kernel
theorem dL_law_804 : decode cL_law 804 = .ok (.iload 5, 2) := by decide +kernel
theorem dL_law_806 : decode cL_law 806 = .ok (.ifCond .ne 15, 3) := by decide +kernel
theorem dL_law_809 : decode cL_law 809 = .ok (.aload_n 3, 1) := by decide +kernel
theorem dL_law_810 : decode cL_law 810 = .ok (.iconst 0, 1) := by decide +kernel
theorem dL_law_811 : decode cL_law 811 = .ok (.laload, 1) := by decide +kernel
theorem dL_law_812 : decode cL_law 812 = .ok (.iload 6, 2) := by decide +kernel
theorem dL_law_814 : decode cL_law 814 = .ok (.i2l, 1) := by decide +kernel
theorem dL_law_815 : decode cL_law 815 = .ok (.lcmp, 1) := by decide +kernel
theorem dL_law_816 : decode cL_law 816 = .ok (.ifCond .eq 5, 3) := by decide +kernel
theorem dL_law_819 : decode cL_law 819 = .ok (.iconst 0, 1) := by decide +kernel
theorem dL_law_820 : decode cL_law 820 = .ok (.ireturn, 1) := by decide +kernel
theorem dL_law_821 : decode cL_law 821 = .ok (.goto 2285, 3) := by decide +kernel
theorem dL_law_824 : decode cL_law 824 = .ok (.aload_n 1, 1) := by decide +kernel
theorem dL_law_825 : decode cL_law 825 = .ok (.aload_n 0, 1) := by decide +kernel
theorem dL_law_826 : decode cL_law 826 = .ok (.iload 4, 2) := by decide +kernel
theorem dL_law_828 : decode cL_law 828 = .ok (.iconst 1, 1) := by decide +kernel
theorem dL_law_829 : decode cL_law 829 = .ok (.iadd, 1) := by decide +kernel
theorem dL_law_830 : decode cL_law 830 = .ok (.iaload, 1) := by decide +kernel
theorem dL_law_831 : decode cL_law 831 = .ok (.aload_n 3, 1) := by decide +kernel
theorem dL_law_832 : decode cL_law 832 = .ok (.invokestatic 208, 3) := by decide +kernel
theorem dL_law_835 : decode cL_law 835 = .ok (.istore 5, 2) := by decide +kernel
theorem dL_law_837 : decode cL_law 837 = .ok (.aload_n 2, 1) := by decide +kernel
theorem dL_law_838 : decode cL_law 838 = .ok (.aload_n 0, 1) := by decide +kernel
theorem dL_law_839 : decode cL_law 839 = .ok (.iload 4, 2) := by decide +kernel
theorem dL_law_841 : decode cL_law 841 = .ok (.iconst 1, 1) := by decide +kernel
theorem dL_law_842 : decode cL_law 842 = .ok (.iadd, 1) := by decide +kernel
theorem dL_law_843 : decode cL_law 843 = .ok (.iaload, 1) := by decide +kernel
theorem dL_law_844 : decode cL_law 844 = .ok (.invokevirtual 210, 3) := by decide +kernel
theorem dL_law_847 : decode cL_law 847 = .ok (.istore 6, 2) := by decide +kernel
theorem dL_law_849 : decode cL_law 849 = .ok (.aload_n 2, 1) := by decide +kernel
theorem dL_law_850 : decode cL_law 850 = .ok (.invokevirtual 153, 3) := by decide +kernel
theorem dL_law_853 : decode cL_law 853 = .ok (.iload 5, 2) := by decide +kernel
theorem dL_law_855 : decode cL_law 855 = .ok (.if_icmp .eq 5, 3) := by decide +kernel
theorem dL_law_858 : decode cL_law 858 = .ok (.iconst 0, 1) := by decide +kernel
theorem dL_law_859 : decode cL_law 859 = .ok (.ireturn, 1) := by decide +kernel
theorem dL_law_860 : decode cL_law 860 = .ok (.iload 5, 2) := by decide +kernel
theorem dL_law_862 : decode cL_law 862 = .ok (.ifCond .ne 15, 3) := by decide +kernel
theorem dL_law_865 : decode cL_law 865 = .ok (.aload_n 3, 1) := by decide +kernel
theorem dL_law_866 : decode cL_law 866 = .ok (.iconst 0, 1) := by decide +kernel
theorem dL_law_867 : decode cL_law 867 = .ok (.laload, 1) := by decide +kernel
theorem dL_law_868 : decode cL_law 868 = .ok (.iload 6, 2) := by decide +kernel
theorem dL_law_870 : decode cL_law 870 = .ok (.i2l, 1) := by decide +kernel
theorem dL_law_871 : decode cL_law 871 = .ok (.lcmp, 1) := by decide +kernel
theorem dL_law_872 : decode cL_law 872 = .ok (.ifCond .eq 5, 3) := by decide +kernel
theorem dL_law_875 : decode cL_law 875 = .ok (.iconst 0, 1) := by decide +kernel
theorem dL_law_876 : decode cL_law 876 = .ok (.ireturn, 1) := by decide +kernel
theorem dL_law_877 : decode cL_law 877 = .ok (.goto 2229, 3) := by decide +kernel
theorem dL_law_880 : decode cL_law 880 = .ok (.aload_n 1, 1) := by decide +kernel
theorem dL_law_881 : decode cL_law 881 = .ok (.aload_n 0, 1) := by decide +kernel
theorem dL_law_882 : decode cL_law 882 = .ok (.iload 4, 2) := by decide +kernel
theorem dL_law_884 : decode cL_law 884 = .ok (.iconst 1, 1) := by decide +kernel
theorem dL_law_885 : decode cL_law 885 = .ok (.iadd, 1) := by decide +kernel
theorem dL_law_886 : decode cL_law 886 = .ok (.iaload, 1) := by decide +kernel
theorem dL_law_887 : decode cL_law 887 = .ok (.aload_n 3, 1) := by decide +kernel
theorem dL_law_888 : decode cL_law 888 = .ok (.invokestatic 211, 3) := by decide +kernel
theorem dL_law_891 : decode cL_law 891 = .ok (.istore 5, 2) := by decide +kernel
theorem dL_law_893 : decode cL_law 893 = .ok (.aload_n 2, 1) := by decide +kernel
theorem dL_law_894 : decode cL_law 894 = .ok (.aload_n 0, 1) := by decide +kernel
theorem dL_law_895 : decode cL_law 895 = .ok (.iload 4, 2) := by decide +kernel
theorem dL_law_897 : decode cL_law 897 = .ok (.iconst 1, 1) := by decide +kernel
theorem dL_law_898 : decode cL_law 898 = .ok (.iadd, 1) := by decide +kernel
theorem dL_law_899 : decode cL_law 899 = .ok (.iaload, 1) := by decide +kernel
theorem dL_law_900 : decode cL_law 900 = .ok (.invokevirtual 213, 3) := by decide +kernel
theorem dL_law_903 : decode cL_law 903 = .ok (.istore 6, 2) := by decide +kernel
theorem dL_law_905 : decode cL_law 905 = .ok (.aload_n 2, 1) := by decide +kernel
theorem dL_law_906 : decode cL_law 906 = .ok (.invokevirtual 153, 3) := by decide +kernel
theorem dL_law_909 : decode cL_law 909 = .ok (.iload 5, 2) := by decide +kernel
theorem dL_law_911 : decode cL_law 911 = .ok (.if_icmp .eq 5, 3) := by decide +kernel
theorem dL_law_914 : decode cL_law 914 = .ok (.iconst 0, 1) := by decide +kernel
theorem dL_law_915 : decode cL_law 915 = .ok (.ireturn, 1) := by decide +kernel
theorem dL_law_916 : decode cL_law 916 = .ok (.iload 5, 2) := by decide +kernel
theorem dL_law_918 : decode cL_law 918 = .ok (.ifCond .ne 15, 3) := by decide +kernel
theorem dL_law_921 : decode cL_law 921 = .ok (.aload_n 3, 1) := by decide +kernel
theorem dL_law_922 : decode cL_law 922 = .ok (.iconst 0, 1) := by decide +kernel
theorem dL_law_923 : decode cL_law 923 = .ok (.laload, 1) := by decide +kernel
theorem dL_law_924 : decode cL_law 924 = .ok (.iload 6, 2) := by decide +kernel
theorem dL_law_926 : decode cL_law 926 = .ok (.i2l, 1) := by decide +kernel
theorem dL_law_927 : decode cL_law 927 = .ok (.lcmp, 1) := by decide +kernel
theorem dL_law_928 : decode cL_law 928 = .ok (.ifCond .eq 5, 3) := by decide +kernel
theorem dL_law_931 : decode cL_law 931 = .ok (.iconst 0, 1) := by decide +kernel
theorem dL_law_932 : decode cL_law 932 = .ok (.ireturn, 1) := by decide +kernel
theorem dL_law_933 : decode cL_law 933 = .ok (.goto 2173, 3) := by decide +kernel
theorem dL_law_936 : decode cL_law 936 = .ok (.aload_n 1, 1) := by decide +kernel
theorem dL_law_937 : decode cL_law 937 = .ok (.aload_n 0, 1) := by decide +kernel
theorem dL_law_938 : decode cL_law 938 = .ok (.iload 4, 2) := by decide +kernel
theorem dL_law_940 : decode cL_law 940 = .ok (.iconst 1, 1) := by decide +kernel
theorem dL_law_941 : decode cL_law 941 = .ok (.iadd, 1) := by decide +kernel
theorem dL_law_942 : decode cL_law 942 = .ok (.iaload, 1) := by decide +kernel
theorem dL_law_943 : decode cL_law 943 = .ok (.aload_n 3, 1) := by decide +kernel
theorem dL_law_944 : decode cL_law 944 = .ok (.invokestatic 214, 3) := by decide +kernel
theorem dL_law_947 : decode cL_law 947 = .ok (.istore 5, 2) := by decide +kernel
theorem dL_law_949 : decode cL_law 949 = .ok (.aload_n 2, 1) := by decide +kernel
theorem dL_law_950 : decode cL_law 950 = .ok (.aload_n 0, 1) := by decide +kernel
theorem dL_law_951 : decode cL_law 951 = .ok (.iload 4, 2) := by decide +kernel
theorem dL_law_953 : decode cL_law 953 = .ok (.iconst 1, 1) := by decide +kernel
theorem dL_law_954 : decode cL_law 954 = .ok (.iadd, 1) := by decide +kernel
theorem dL_law_955 : decode cL_law 955 = .ok (.iaload, 1) := by decide +kernel
theorem dL_law_956 : decode cL_law 956 = .ok (.invokevirtual 216, 3) := by decide +kernel
theorem dL_law_959 : decode cL_law 959 = .ok (.istore 6, 2) := by decide +kernel
theorem dL_law_961 : decode cL_law 961 = .ok (.aload_n 2, 1) := by decide +kernel
theorem dL_law_962 : decode cL_law 962 = .ok (.invokevirtual 153, 3) := by decide +kernel
theorem dL_law_965 : decode cL_law 965 = .ok (.iload 5, 2) := by decide +kernel
theorem dL_law_967 : decode cL_law 967 = .ok (.if_icmp .eq 5, 3) := by decide +kernel
theorem dL_law_970 : decode cL_law 970 = .ok (.iconst 0, 1) := by decide +kernel
theorem dL_law_971 : decode cL_law 971 = .ok (.ireturn, 1) := by decide +kernel
theorem dL_law_972 : decode cL_law 972 = .ok (.iload 5, 2) := by decide +kernel
theorem dL_law_974 : decode cL_law 974 = .ok (.ifCond .ne 15, 3) := by decide +kernel
theorem dL_law_977 : decode cL_law 977 = .ok (.aload_n 3, 1) := by decide +kernel
theorem dL_law_978 : decode cL_law 978 = .ok (.iconst 0, 1) := by decide +kernel
theorem dL_law_979 : decode cL_law 979 = .ok (.laload, 1) := by decide +kernel
theorem dL_law_980 : decode cL_law 980 = .ok (.iload 6, 2) := by decide +kernel
theorem dL_law_982 : decode cL_law 982 = .ok (.i2l, 1) := by decide +kernel
theorem dL_law_983 : decode cL_law 983 = .ok (.lcmp, 1) := by decide +kernel
theorem dL_law_984 : decode cL_law 984 = .ok (.ifCond .eq 5, 3) := by decide +kernel
theorem dL_law_987 : decode cL_law 987 = .ok (.iconst 0, 1) := by decide +kernel
theorem dL_law_988 : decode cL_law 988 = .ok (.ireturn, 1) := by decide +kernel
theorem dL_law_989 : decode cL_law 989 = .ok (.goto 2117, 3) := by decide +kernel
theorem dL_law_992 : decode cL_law 992 = .ok (.aload_n 1, 1) := by decide +kernel
theorem dL_law_993 : decode cL_law 993 = .ok (.aload_n 0, 1) := by decide +kernel
theorem dL_law_994 : decode cL_law 994 = .ok (.iload 4, 2) := by decide +kernel
theorem dL_law_996 : decode cL_law 996 = .ok (.iconst 1, 1) := by decide +kernel
theorem dL_law_997 : decode cL_law 997 = .ok (.iadd, 1) := by decide +kernel
theorem dL_law_998 : decode cL_law 998 = .ok (.iaload, 1) := by decide +kernel
theorem dL_law_999 : decode cL_law 999 = .ok (.aload_n 3, 1) := by decide +kernel
theorem dL_law_1000 : decode cL_law 1000 = .ok (.invokestatic 217, 3) := by decide +kernel
theorem dL_law_1003 : decode cL_law 1003 = .ok (.istore 5, 2) := by decide +kernel
theorem dL_law_1005 : decode cL_law 1005 = .ok (.aload_n 2, 1) := by decide +kernel
theorem dL_law_1006 : decode cL_law 1006 = .ok (.aload_n 0, 1) := by decide +kernel
theorem dL_law_1007 : decode cL_law 1007 = .ok (.iload 4, 2) := by decide +kernel
theorem dL_law_1009 : decode cL_law 1009 = .ok (.iconst 1, 1) := by decide +kernel
theorem dL_law_1010 : decode cL_law 1010 = .ok (.iadd, 1) := by decide +kernel
theorem dL_law_1011 : decode cL_law 1011 = .ok (.iaload, 1) := by decide +kernel
theorem dL_law_1012 : decode cL_law 1012 = .ok (.invokevirtual 219, 3) := by decide +kernel
theorem dL_law_1015 : decode cL_law 1015 = .ok (.istore 6, 2) := by decide +kernel
theorem dL_law_1017 : decode cL_law 1017 = .ok (.aload_n 2, 1) := by decide +kernel
theorem dL_law_1018 : decode cL_law 1018 = .ok (.invokevirtual 153, 3) := by decide +kernel
theorem dL_law_1021 : decode cL_law 1021 = .ok (.iload 5, 2) := by decide +kernel
theorem dL_law_1023 : decode cL_law 1023 = .ok (.if_icmp .eq 5, 3) := by decide +kernel
theorem dL_law_1026 : decode cL_law 1026 = .ok (.iconst 0, 1) := by decide +kernel
theorem dL_law_1027 : decode cL_law 1027 = .ok (.ireturn, 1) := by decide +kernel
theorem dL_law_1028 : decode cL_law 1028 = .ok (.iload 5, 2) := by decide +kernel
theorem dL_law_1030 : decode cL_law 1030 = .ok (.ifCond .ne 15, 3) := by decide +kernel
theorem dL_law_1033 : decode cL_law 1033 = .ok (.aload_n 3, 1) := by decide +kernel
theorem dL_law_1034 : decode cL_law 1034 = .ok (.iconst 0, 1) := by decide +kernel
theorem dL_law_1035 : decode cL_law 1035 = .ok (.laload, 1) := by decide +kernel
theorem dL_law_1036 : decode cL_law 1036 = .ok (.iload 6, 2) := by decide +kernel
theorem dL_law_1038 : decode cL_law 1038 = .ok (.i2l, 1) := by decide +kernel
theorem dL_law_1039 : decode cL_law 1039 = .ok (.lcmp, 1) := by decide +kernel
theorem dL_law_1040 : decode cL_law 1040 = .ok (.ifCond .eq 5, 3) := by decide +kernel
theorem dL_law_1043 : decode cL_law 1043 = .ok (.iconst 0, 1) := by decide +kernel
theorem dL_law_1044 : decode cL_law 1044 = .ok (.ireturn, 1) := by decide +kernel
theorem dL_law_1045 : decode cL_law 1045 = .ok (.goto 2061, 3) := by decide +kernel
theorem dL_law_1048 : decode cL_law 1048 = .ok (.aload_n 1, 1) := by decide +kernel
theorem dL_law_1049 : decode cL_law 1049 = .ok (.aload_n 0, 1) := by decide +kernel
theorem dL_law_1050 : decode cL_law 1050 = .ok (.iload 4, 2) := by decide +kernel
theorem dL_law_1052 : decode cL_law 1052 = .ok (.iconst 1, 1) := by decide +kernel
theorem dL_law_1053 : decode cL_law 1053 = .ok (.iadd, 1) := by decide +kernel
theorem dL_law_1054 : decode cL_law 1054 = .ok (.iaload, 1) := by decide +kernel
theorem dL_law_1055 : decode cL_law 1055 = .ok (.aload_n 3, 1) := by decide +kernel
theorem dL_law_1056 : decode cL_law 1056 = .ok (.invokestatic 220, 3) := by decide +kernel
theorem dL_law_1059 : decode cL_law 1059 = .ok (.istore 5, 2) := by decide +kernel
theorem dL_law_1061 : decode cL_law 1061 = .ok (.aload_n 2, 1) := by decide +kernel
theorem dL_law_1062 : decode cL_law 1062 = .ok (.aload_n 0, 1) := by decide +kernel
theorem dL_law_1063 : decode cL_law 1063 = .ok (.iload 4, 2) := by decide +kernel
theorem dL_law_1065 : decode cL_law 1065 = .ok (.iconst 1, 1) := by decide +kernel
theorem dL_law_1066 : decode cL_law 1066 = .ok (.iadd, 1) := by decide +kernel
theorem dL_law_1067 : decode cL_law 1067 = .ok (.iaload, 1) := by decide +kernel
theorem dL_law_1068 : decode cL_law 1068 = .ok (.invokevirtual 222, 3) := by decide +kernel
theorem dL_law_1071 : decode cL_law 1071 = .ok (.istore 6, 2) := by decide +kernel
theorem dL_law_1073 : decode cL_law 1073 = .ok (.aload_n 2, 1) := by decide +kernel
theorem dL_law_1074 : decode cL_law 1074 = .ok (.invokevirtual 153, 3) := by decide +kernel
theorem dL_law_1077 : decode cL_law 1077 = .ok (.iload 5, 2) := by decide +kernel
theorem dL_law_1079 : decode cL_law 1079 = .ok (.if_icmp .eq 5, 3) := by decide +kernel
theorem dL_law_1082 : decode cL_law 1082 = .ok (.iconst 0, 1) := by decide +kernel
theorem dL_law_1083 : decode cL_law 1083 = .ok (.ireturn, 1) := by decide +kernel
theorem dL_law_1084 : decode cL_law 1084 = .ok (.iload 5, 2) := by decide +kernel
theorem dL_law_1086 : decode cL_law 1086 = .ok (.ifCond .ne 15, 3) := by decide +kernel
theorem dL_law_1089 : decode cL_law 1089 = .ok (.aload_n 3, 1) := by decide +kernel
theorem dL_law_1090 : decode cL_law 1090 = .ok (.iconst 0, 1) := by decide +kernel
theorem dL_law_1091 : decode cL_law 1091 = .ok (.laload, 1) := by decide +kernel
theorem dL_law_1092 : decode cL_law 1092 = .ok (.iload 6, 2) := by decide +kernel
theorem dL_law_1094 : decode cL_law 1094 = .ok (.i2l, 1) := by decide +kernel
theorem dL_law_1095 : decode cL_law 1095 = .ok (.lcmp, 1) := by decide +kernel
theorem dL_law_1096 : decode cL_law 1096 = .ok (.ifCond .eq 5, 3) := by decide +kernel
theorem dL_law_1099 : decode cL_law 1099 = .ok (.iconst 0, 1) := by decide +kernel
theorem dL_law_1100 : decode cL_law 1100 = .ok (.ireturn, 1) := by decide +kernel
theorem dL_law_1101 : decode cL_law 1101 = .ok (.goto 2005, 3) := by decide +kernel
theorem dL_law_1104 : decode cL_law 1104 = .ok (.aload_n 1, 1) := by decide +kernel
theorem dL_law_1105 : decode cL_law 1105 = .ok (.aload_n 0, 1) := by decide +kernel
theorem dL_law_1106 : decode cL_law 1106 = .ok (.iload 4, 2) := by decide +kernel
theorem dL_law_1108 : decode cL_law 1108 = .ok (.iconst 1, 1) := by decide +kernel
theorem dL_law_1109 : decode cL_law 1109 = .ok (.iadd, 1) := by decide +kernel
theorem dL_law_1110 : decode cL_law 1110 = .ok (.iaload, 1) := by decide +kernel
theorem dL_law_1111 : decode cL_law 1111 = .ok (.aload_n 3, 1) := by decide +kernel
theorem dL_law_1112 : decode cL_law 1112 = .ok (.invokestatic 223, 3) := by decide +kernel
theorem dL_law_1115 : decode cL_law 1115 = .ok (.istore 5, 2) := by decide +kernel
theorem dL_law_1117 : decode cL_law 1117 = .ok (.aload_n 2, 1) := by decide +kernel
theorem dL_law_1118 : decode cL_law 1118 = .ok (.aload_n 0, 1) := by decide +kernel
theorem dL_law_1119 : decode cL_law 1119 = .ok (.iload 4, 2) := by decide +kernel
theorem dL_law_1121 : decode cL_law 1121 = .ok (.iconst 1, 1) := by decide +kernel
theorem dL_law_1122 : decode cL_law 1122 = .ok (.iadd, 1) := by decide +kernel
theorem dL_law_1123 : decode cL_law 1123 = .ok (.iaload, 1) := by decide +kernel
theorem dL_law_1124 : decode cL_law 1124 = .ok (.invokevirtual 225, 3) := by decide +kernel
theorem dL_law_1127 : decode cL_law 1127 = .ok (.istore 6, 2) := by decide +kernel
theorem dL_law_1129 : decode cL_law 1129 = .ok (.aload_n 2, 1) := by decide +kernel
theorem dL_law_1130 : decode cL_law 1130 = .ok (.invokevirtual 153, 3) := by decide +kernel
theorem dL_law_1133 : decode cL_law 1133 = .ok (.iload 5, 2) := by decide +kernel
theorem dL_law_1135 : decode cL_law 1135 = .ok (.if_icmp .eq 5, 3) := by decide +kernel
theorem dL_law_1138 : decode cL_law 1138 = .ok (.iconst 0, 1) := by decide +kernel
theorem dL_law_1139 : decode cL_law 1139 = .ok (.ireturn, 1) := by decide +kernel
theorem dL_law_1140 : decode cL_law 1140 = .ok (.iload 5, 2) := by decide +kernel
theorem dL_law_1142 : decode cL_law 1142 = .ok (.ifCond .ne 15, 3) := by decide +kernel
theorem dL_law_1145 : decode cL_law 1145 = .ok (.aload_n 3, 1) := by decide +kernel
theorem dL_law_1146 : decode cL_law 1146 = .ok (.iconst 0, 1) := by decide +kernel
theorem dL_law_1147 : decode cL_law 1147 = .ok (.laload, 1) := by decide +kernel
theorem dL_law_1148 : decode cL_law 1148 = .ok (.iload 6, 2) := by decide +kernel
theorem dL_law_1150 : decode cL_law 1150 = .ok (.i2l, 1) := by decide +kernel
theorem dL_law_1151 : decode cL_law 1151 = .ok (.lcmp, 1) := by decide +kernel
theorem dL_law_1152 : decode cL_law 1152 = .ok (.ifCond .eq 5, 3) := by decide +kernel
theorem dL_law_1155 : decode cL_law 1155 = .ok (.iconst 0, 1) := by decide +kernel
theorem dL_law_1156 : decode cL_law 1156 = .ok (.ireturn, 1) := by decide +kernel
theorem dL_law_1157 : decode cL_law 1157 = .ok (.goto 1949, 3) := by decide +kernel
theorem dL_law_1160 : decode cL_law 1160 = .ok (.aload_n 1, 1) := by decide +kernel
theorem dL_law_1161 : decode cL_law 1161 = .ok (.aload_n 0, 1) := by decide +kernel
theorem dL_law_1162 : decode cL_law 1162 = .ok (.iload 4, 2) := by decide +kernel
theorem dL_law_1164 : decode cL_law 1164 = .ok (.iconst 1, 1) := by decide +kernel
theorem dL_law_1165 : decode cL_law 1165 = .ok (.iadd, 1) := by decide +kernel
theorem dL_law_1166 : decode cL_law 1166 = .ok (.iaload, 1) := by decide +kernel
theorem dL_law_1167 : decode cL_law 1167 = .ok (.aload_n 3, 1) := by decide +kernel
theorem dL_law_1168 : decode cL_law 1168 = .ok (.invokestatic 226, 3) := by decide +kernel
theorem dL_law_1171 : decode cL_law 1171 = .ok (.istore 5, 2) := by decide +kernel
theorem dL_law_1173 : decode cL_law 1173 = .ok (.aload_n 2, 1) := by decide +kernel
theorem dL_law_1174 : decode cL_law 1174 = .ok (.aload_n 0, 1) := by decide +kernel
theorem dL_law_1175 : decode cL_law 1175 = .ok (.iload 4, 2) := by decide +kernel
theorem dL_law_1177 : decode cL_law 1177 = .ok (.iconst 1, 1) := by decide +kernel
theorem dL_law_1178 : decode cL_law 1178 = .ok (.iadd, 1) := by decide +kernel
theorem dL_law_1179 : decode cL_law 1179 = .ok (.iaload, 1) := by decide +kernel
theorem dL_law_1180 : decode cL_law 1180 = .ok (.invokevirtual 228, 3) := by decide +kernel
theorem dL_law_1183 : decode cL_law 1183 = .ok (.istore 6, 2) := by decide +kernel
theorem dL_law_1185 : decode cL_law 1185 = .ok (.aload_n 2, 1) := by decide +kernel
theorem dL_law_1186 : decode cL_law 1186 = .ok (.invokevirtual 153, 3) := by decide +kernel
theorem dL_law_1189 : decode cL_law 1189 = .ok (.iload 5, 2) := by decide +kernel
theorem dL_law_1191 : decode cL_law 1191 = .ok (.if_icmp .eq 5, 3) := by decide +kernel
theorem dL_law_1194 : decode cL_law 1194 = .ok (.iconst 0, 1) := by decide +kernel
theorem dL_law_1195 : decode cL_law 1195 = .ok (.ireturn, 1) := by decide +kernel
theorem dL_law_1196 : decode cL_law 1196 = .ok (.iload 5, 2) := by decide +kernel
theorem dL_law_1198 : decode cL_law 1198 = .ok (.ifCond .ne 15, 3) := by decide +kernel
theorem dL_law_1201 : decode cL_law 1201 = .ok (.aload_n 3, 1) := by decide +kernel
theorem dL_law_1202 : decode cL_law 1202 = .ok (.iconst 0, 1) := by decide +kernel
theorem dL_law_1203 : decode cL_law 1203 = .ok (.laload, 1) := by decide +kernel
theorem dL_law_1204 : decode cL_law 1204 = .ok (.iload 6, 2) := by decide +kernel
theorem dL_law_1206 : decode cL_law 1206 = .ok (.i2l, 1) := by decide +kernel
theorem dL_law_1207 : decode cL_law 1207 = .ok (.lcmp, 1) := by decide +kernel
theorem dL_law_1208 : decode cL_law 1208 = .ok (.ifCond .eq 5, 3) := by decide +kernel
theorem dL_law_1211 : decode cL_law 1211 = .ok (.iconst 0, 1) := by decide +kernel
theorem dL_law_1212 : decode cL_law 1212 = .ok (.ireturn, 1) := by decide +kernel
theorem dL_law_1213 : decode cL_law 1213 = .ok (.goto 1893, 3) := by decide +kernel
theorem dL_law_1216 : decode cL_law 1216 = .ok (.aload_n 1, 1) := by decide +kernel
theorem dL_law_1217 : decode cL_law 1217 = .ok (.aload_n 0, 1) := by decide +kernel
theorem dL_law_1218 : decode cL_law 1218 = .ok (.iload 4, 2) := by decide +kernel
theorem dL_law_1220 : decode cL_law 1220 = .ok (.iconst 1, 1) := by decide +kernel
theorem dL_law_1221 : decode cL_law 1221 = .ok (.iadd, 1) := by decide +kernel
theorem dL_law_1222 : decode cL_law 1222 = .ok (.iaload, 1) := by decide +kernel
theorem dL_law_1223 : decode cL_law 1223 = .ok (.aload_n 3, 1) := by decide +kernel
theorem dL_law_1224 : decode cL_law 1224 = .ok (.invokestatic 229, 3) := by decide +kernel
theorem dL_law_1227 : decode cL_law 1227 = .ok (.istore 5, 2) := by decide +kernel
theorem dL_law_1229 : decode cL_law 1229 = .ok (.aload_n 2, 1) := by decide +kernel
theorem dL_law_1230 : decode cL_law 1230 = .ok (.aload_n 0, 1) := by decide +kernel
theorem dL_law_1231 : decode cL_law 1231 = .ok (.iload 4, 2) := by decide +kernel
theorem dL_law_1233 : decode cL_law 1233 = .ok (.iconst 1, 1) := by decide +kernel
theorem dL_law_1234 : decode cL_law 1234 = .ok (.iadd, 1) := by decide +kernel
theorem dL_law_1235 : decode cL_law 1235 = .ok (.iaload, 1) := by decide +kernel
theorem dL_law_1236 : decode cL_law 1236 = .ok (.invokevirtual 231, 3) := by decide +kernel
theorem dL_law_1239 : decode cL_law 1239 = .ok (.istore 6, 2) := by decide +kernel
theorem dL_law_1241 : decode cL_law 1241 = .ok (.aload_n 2, 1) := by decide +kernel
theorem dL_law_1242 : decode cL_law 1242 = .ok (.invokevirtual 153, 3) := by decide +kernel
theorem dL_law_1245 : decode cL_law 1245 = .ok (.iload 5, 2) := by decide +kernel
theorem dL_law_1247 : decode cL_law 1247 = .ok (.if_icmp .eq 5, 3) := by decide +kernel
theorem dL_law_1250 : decode cL_law 1250 = .ok (.iconst 0, 1) := by decide +kernel
theorem dL_law_1251 : decode cL_law 1251 = .ok (.ireturn, 1) := by decide +kernel
theorem dL_law_1252 : decode cL_law 1252 = .ok (.iload 5, 2) := by decide +kernel
theorem dL_law_1254 : decode cL_law 1254 = .ok (.ifCond .ne 15, 3) := by decide +kernel
theorem dL_law_1257 : decode cL_law 1257 = .ok (.aload_n 3, 1) := by decide +kernel
theorem dL_law_1258 : decode cL_law 1258 = .ok (.iconst 0, 1) := by decide +kernel
theorem dL_law_1259 : decode cL_law 1259 = .ok (.laload, 1) := by decide +kernel
theorem dL_law_1260 : decode cL_law 1260 = .ok (.iload 6, 2) := by decide +kernel
theorem dL_law_1262 : decode cL_law 1262 = .ok (.i2l, 1) := by decide +kernel
theorem dL_law_1263 : decode cL_law 1263 = .ok (.lcmp, 1) := by decide +kernel
theorem dL_law_1264 : decode cL_law 1264 = .ok (.ifCond .eq 5, 3) := by decide +kernel
theorem dL_law_1267 : decode cL_law 1267 = .ok (.iconst 0, 1) := by decide +kernel
theorem dL_law_1268 : decode cL_law 1268 = .ok (.ireturn, 1) := by decide +kernel
theorem dL_law_1269 : decode cL_law 1269 = .ok (.goto 1837, 3) := by decide +kernel
theorem dL_law_1272 : decode cL_law 1272 = .ok (.aload_n 1, 1) := by decide +kernel
theorem dL_law_1273 : decode cL_law 1273 = .ok (.aload_n 0, 1) := by decide +kernel
theorem dL_law_1274 : decode cL_law 1274 = .ok (.iload 4, 2) := by decide +kernel
theorem dL_law_1276 : decode cL_law 1276 = .ok (.iconst 1, 1) := by decide +kernel
theorem dL_law_1277 : decode cL_law 1277 = .ok (.iadd, 1) := by decide +kernel
theorem dL_law_1278 : decode cL_law 1278 = .ok (.iaload, 1) := by decide +kernel
theorem dL_law_1279 : decode cL_law 1279 = .ok (.aload_n 3, 1) := by decide +kernel
theorem dL_law_1280 : decode cL_law 1280 = .ok (.invokestatic 232, 3) := by decide +kernel
theorem dL_law_1283 : decode cL_law 1283 = .ok (.istore 5, 2) := by decide +kernel
theorem dL_law_1285 : decode cL_law 1285 = .ok (.aload_n 2, 1) := by decide +kernel
theorem dL_law_1286 : decode cL_law 1286 = .ok (.aload_n 0, 1) := by decide +kernel
theorem dL_law_1287 : decode cL_law 1287 = .ok (.iload 4, 2) := by decide +kernel
theorem dL_law_1289 : decode cL_law 1289 = .ok (.iconst 1, 1) := by decide +kernel
theorem dL_law_1290 : decode cL_law 1290 = .ok (.iadd, 1) := by decide +kernel
theorem dL_law_1291 : decode cL_law 1291 = .ok (.iaload, 1) := by decide +kernel
theorem dL_law_1292 : decode cL_law 1292 = .ok (.invokevirtual 234, 3) := by decide +kernel
theorem dL_law_1295 : decode cL_law 1295 = .ok (.istore 6, 2) := by decide +kernel
theorem dL_law_1297 : decode cL_law 1297 = .ok (.aload_n 2, 1) := by decide +kernel
theorem dL_law_1298 : decode cL_law 1298 = .ok (.invokevirtual 153, 3) := by decide +kernel
theorem dL_law_1301 : decode cL_law 1301 = .ok (.iload 5, 2) := by decide +kernel
theorem dL_law_1303 : decode cL_law 1303 = .ok (.if_icmp .eq 5, 3) := by decide +kernel
theorem dL_law_1306 : decode cL_law 1306 = .ok (.iconst 0, 1) := by decide +kernel
theorem dL_law_1307 : decode cL_law 1307 = .ok (.ireturn, 1) := by decide +kernel
theorem dL_law_1308 : decode cL_law 1308 = .ok (.iload 5, 2) := by decide +kernel
theorem dL_law_1310 : decode cL_law 1310 = .ok (.ifCond .ne 15, 3) := by decide +kernel
theorem dL_law_1313 : decode cL_law 1313 = .ok (.aload_n 3, 1) := by decide +kernel
theorem dL_law_1314 : decode cL_law 1314 = .ok (.iconst 0, 1) := by decide +kernel
theorem dL_law_1315 : decode cL_law 1315 = .ok (.laload, 1) := by decide +kernel
theorem dL_law_1316 : decode cL_law 1316 = .ok (.iload 6, 2) := by decide +kernel
theorem dL_law_1318 : decode cL_law 1318 = .ok (.i2l, 1) := by decide +kernel
theorem dL_law_1319 : decode cL_law 1319 = .ok (.lcmp, 1) := by decide +kernel
theorem dL_law_1320 : decode cL_law 1320 = .ok (.ifCond .eq 5, 3) := by decide +kernel
theorem dL_law_1323 : decode cL_law 1323 = .ok (.iconst 0, 1) := by decide +kernel
theorem dL_law_1324 : decode cL_law 1324 = .ok (.ireturn, 1) := by decide +kernel
theorem dL_law_1325 : decode cL_law 1325 = .ok (.goto 1781, 3) := by decide +kernel
theorem dL_law_1328 : decode cL_law 1328 = .ok (.aload_n 1, 1) := by decide +kernel
theorem dL_law_1329 : decode cL_law 1329 = .ok (.aload_n 0, 1) := by decide +kernel
theorem dL_law_1330 : decode cL_law 1330 = .ok (.iload 4, 2) := by decide +kernel
theorem dL_law_1332 : decode cL_law 1332 = .ok (.iconst 1, 1) := by decide +kernel
theorem dL_law_1333 : decode cL_law 1333 = .ok (.iadd, 1) := by decide +kernel
theorem dL_law_1334 : decode cL_law 1334 = .ok (.iaload, 1) := by decide +kernel
theorem dL_law_1335 : decode cL_law 1335 = .ok (.aload_n 3, 1) := by decide +kernel
theorem dL_law_1336 : decode cL_law 1336 = .ok (.invokestatic 235, 3) := by decide +kernel
theorem dL_law_1339 : decode cL_law 1339 = .ok (.istore 5, 2) := by decide +kernel
theorem dL_law_1341 : decode cL_law 1341 = .ok (.aload_n 2, 1) := by decide +kernel
theorem dL_law_1342 : decode cL_law 1342 = .ok (.aload_n 0, 1) := by decide +kernel
theorem dL_law_1343 : decode cL_law 1343 = .ok (.iload 4, 2) := by decide +kernel
theorem dL_law_1345 : decode cL_law 1345 = .ok (.iconst 1, 1) := by decide +kernel
theorem dL_law_1346 : decode cL_law 1346 = .ok (.iadd, 1) := by decide +kernel
theorem dL_law_1347 : decode cL_law 1347 = .ok (.iaload, 1) := by decide +kernel
theorem dL_law_1348 : decode cL_law 1348 = .ok (.invokevirtual 237, 3) := by decide +kernel
theorem dL_law_1351 : decode cL_law 1351 = .ok (.istore 6, 2) := by decide +kernel
theorem dL_law_1353 : decode cL_law 1353 = .ok (.aload_n 2, 1) := by decide +kernel
theorem dL_law_1354 : decode cL_law 1354 = .ok (.invokevirtual 153, 3) := by decide +kernel
theorem dL_law_1357 : decode cL_law 1357 = .ok (.iload 5, 2) := by decide +kernel
theorem dL_law_1359 : decode cL_law 1359 = .ok (.if_icmp .eq 5, 3) := by decide +kernel
theorem dL_law_1362 : decode cL_law 1362 = .ok (.iconst 0, 1) := by decide +kernel
theorem dL_law_1363 : decode cL_law 1363 = .ok (.ireturn, 1) := by decide +kernel
theorem dL_law_1364 : decode cL_law 1364 = .ok (.iload 5, 2) := by decide +kernel
theorem dL_law_1366 : decode cL_law 1366 = .ok (.ifCond .ne 15, 3) := by decide +kernel
theorem dL_law_1369 : decode cL_law 1369 = .ok (.aload_n 3, 1) := by decide +kernel
theorem dL_law_1370 : decode cL_law 1370 = .ok (.iconst 0, 1) := by decide +kernel
theorem dL_law_1371 : decode cL_law 1371 = .ok (.laload, 1) := by decide +kernel
theorem dL_law_1372 : decode cL_law 1372 = .ok (.iload 6, 2) := by decide +kernel
theorem dL_law_1374 : decode cL_law 1374 = .ok (.i2l, 1) := by decide +kernel
theorem dL_law_1375 : decode cL_law 1375 = .ok (.lcmp, 1) := by decide +kernel
theorem dL_law_1376 : decode cL_law 1376 = .ok (.ifCond .eq 5, 3) := by decide +kernel
theorem dL_law_1379 : decode cL_law 1379 = .ok (.iconst 0, 1) := by decide +kernel
theorem dL_law_1380 : decode cL_law 1380 = .ok (.ireturn, 1) := by decide +kernel
theorem dL_law_1381 : decode cL_law 1381 = .ok (.goto 1725, 3) := by decide +kernel
theorem dL_law_1384 : decode cL_law 1384 = .ok (.aload_n 1, 1) := by decide +kernel
theorem dL_law_1385 : decode cL_law 1385 = .ok (.aload_n 0, 1) := by decide +kernel
theorem dL_law_1386 : decode cL_law 1386 = .ok (.iload 4, 2) := by decide +kernel
theorem dL_law_1388 : decode cL_law 1388 = .ok (.iconst 1, 1) := by decide +kernel
theorem dL_law_1389 : decode cL_law 1389 = .ok (.iadd, 1) := by decide +kernel
theorem dL_law_1390 : decode cL_law 1390 = .ok (.iaload, 1) := by decide +kernel
theorem dL_law_1391 : decode cL_law 1391 = .ok (.aload_n 0, 1) := by decide +kernel
theorem dL_law_1392 : decode cL_law 1392 = .ok (.iload 4, 2) := by decide +kernel
theorem dL_law_1394 : decode cL_law 1394 = .ok (.iconst 2, 1) := by decide +kernel
theorem dL_law_1395 : decode cL_law 1395 = .ok (.iadd, 1) := by decide +kernel
theorem dL_law_1396 : decode cL_law 1396 = .ok (.iaload, 1) := by decide +kernel
theorem dL_law_1397 : decode cL_law 1397 = .ok (.aload_n 3, 1) := by decide +kernel
theorem dL_law_1398 : decode cL_law 1398 = .ok (.invokestatic 238, 3) := by decide +kernel
theorem dL_law_1401 : decode cL_law 1401 = .ok (.istore 5, 2) := by decide +kernel
theorem dL_law_1403 : decode cL_law 1403 = .ok (.aload_n 2, 1) := by decide +kernel
theorem dL_law_1404 : decode cL_law 1404 = .ok (.aload_n 0, 1) := by decide +kernel
theorem dL_law_1405 : decode cL_law 1405 = .ok (.iload 4, 2) := by decide +kernel
theorem dL_law_1407 : decode cL_law 1407 = .ok (.iconst 1, 1) := by decide +kernel
theorem dL_law_1408 : decode cL_law 1408 = .ok (.iadd, 1) := by decide +kernel
theorem dL_law_1409 : decode cL_law 1409 = .ok (.iaload, 1) := by decide +kernel
theorem dL_law_1410 : decode cL_law 1410 = .ok (.aload_n 0, 1) := by decide +kernel
theorem dL_law_1411 : decode cL_law 1411 = .ok (.iload 4, 2) := by decide +kernel
theorem dL_law_1413 : decode cL_law 1413 = .ok (.iconst 2, 1) := by decide +kernel
theorem dL_law_1414 : decode cL_law 1414 = .ok (.iadd, 1) := by decide +kernel
theorem dL_law_1415 : decode cL_law 1415 = .ok (.iaload, 1) := by decide +kernel
theorem dL_law_1416 : decode cL_law 1416 = .ok (.invokevirtual 241, 3) := by decide +kernel
theorem dL_law_1419 : decode cL_law 1419 = .ok (.istore 6, 2) := by decide +kernel
theorem dL_law_1421 : decode cL_law 1421 = .ok (.aload_n 2, 1) := by decide +kernel
theorem dL_law_1422 : decode cL_law 1422 = .ok (.invokevirtual 153, 3) := by decide +kernel
theorem dL_law_1425 : decode cL_law 1425 = .ok (.iload 5, 2) := by decide +kernel
theorem dL_law_1427 : decode cL_law 1427 = .ok (.if_icmp .eq 5, 3) := by decide +kernel
theorem dL_law_1430 : decode cL_law 1430 = .ok (.iconst 0, 1) := by decide +kernel
theorem dL_law_1431 : decode cL_law 1431 = .ok (.ireturn, 1) := by decide +kernel
theorem dL_law_1432 : decode cL_law 1432 = .ok (.iload 5, 2) := by decide +kernel
theorem dL_law_1434 : decode cL_law 1434 = .ok (.ifCond .ne 15, 3) := by decide +kernel
theorem dL_law_1437 : decode cL_law 1437 = .ok (.aload_n 3, 1) := by decide +kernel
theorem dL_law_1438 : decode cL_law 1438 = .ok (.iconst 0, 1) := by decide +kernel
theorem dL_law_1439 : decode cL_law 1439 = .ok (.laload, 1) := by decide +kernel
theorem dL_law_1440 : decode cL_law 1440 = .ok (.iload 6, 2) := by decide +kernel
theorem dL_law_1442 : decode cL_law 1442 = .ok (.i2l, 1) := by decide +kernel
theorem dL_law_1443 : decode cL_law 1443 = .ok (.lcmp, 1) := by decide +kernel
theorem dL_law_1444 : decode cL_law 1444 = .ok (.ifCond .eq 5, 3) := by decide +kernel
theorem dL_law_1447 : decode cL_law 1447 = .ok (.iconst 0, 1) := by decide +kernel
theorem dL_law_1448 : decode cL_law 1448 = .ok (.ireturn, 1) := by decide +kernel
theorem dL_law_1449 : decode cL_law 1449 = .ok (.goto 1657, 3) := by decide +kernel
theorem dL_law_1452 : decode cL_law 1452 = .ok (.aload_n 1, 1) := by decide +kernel
theorem dL_law_1453 : decode cL_law 1453 = .ok (.aload_n 0, 1) := by decide +kernel
theorem dL_law_1454 : decode cL_law 1454 = .ok (.iload 4, 2) := by decide +kernel
theorem dL_law_1456 : decode cL_law 1456 = .ok (.iconst 1, 1) := by decide +kernel
theorem dL_law_1457 : decode cL_law 1457 = .ok (.iadd, 1) := by decide +kernel
theorem dL_law_1458 : decode cL_law 1458 = .ok (.iaload, 1) := by decide +kernel
theorem dL_law_1459 : decode cL_law 1459 = .ok (.aload_n 0, 1) := by decide +kernel
theorem dL_law_1460 : decode cL_law 1460 = .ok (.iload 4, 2) := by decide +kernel
theorem dL_law_1462 : decode cL_law 1462 = .ok (.iconst 2, 1) := by decide +kernel
theorem dL_law_1463 : decode cL_law 1463 = .ok (.iadd, 1) := by decide +kernel
theorem dL_law_1464 : decode cL_law 1464 = .ok (.iaload, 1) := by decide +kernel
theorem dL_law_1465 : decode cL_law 1465 = .ok (.aload_n 3, 1) := by decide +kernel
theorem dL_law_1466 : decode cL_law 1466 = .ok (.invokestatic 242, 3) := by decide +kernel
theorem dL_law_1469 : decode cL_law 1469 = .ok (.istore 5, 2) := by decide +kernel
theorem dL_law_1471 : decode cL_law 1471 = .ok (.aload_n 2, 1) := by decide +kernel
theorem dL_law_1472 : decode cL_law 1472 = .ok (.aload_n 0, 1) := by decide +kernel
theorem dL_law_1473 : decode cL_law 1473 = .ok (.iload 4, 2) := by decide +kernel
theorem dL_law_1475 : decode cL_law 1475 = .ok (.iconst 1, 1) := by decide +kernel
theorem dL_law_1476 : decode cL_law 1476 = .ok (.iadd, 1) := by decide +kernel
theorem dL_law_1477 : decode cL_law 1477 = .ok (.iaload, 1) := by decide +kernel
theorem dL_law_1478 : decode cL_law 1478 = .ok (.aload_n 0, 1) := by decide +kernel
theorem dL_law_1479 : decode cL_law 1479 = .ok (.iload 4, 2) := by decide +kernel
theorem dL_law_1481 : decode cL_law 1481 = .ok (.iconst 2, 1) := by decide +kernel
theorem dL_law_1482 : decode cL_law 1482 = .ok (.iadd, 1) := by decide +kernel
theorem dL_law_1483 : decode cL_law 1483 = .ok (.iaload, 1) := by decide +kernel
theorem dL_law_1484 : decode cL_law 1484 = .ok (.invokevirtual 244, 3) := by decide +kernel
theorem dL_law_1487 : decode cL_law 1487 = .ok (.istore 6, 2) := by decide +kernel
theorem dL_law_1489 : decode cL_law 1489 = .ok (.aload_n 2, 1) := by decide +kernel
theorem dL_law_1490 : decode cL_law 1490 = .ok (.invokevirtual 153, 3) := by decide +kernel
theorem dL_law_1493 : decode cL_law 1493 = .ok (.iload 5, 2) := by decide +kernel
theorem dL_law_1495 : decode cL_law 1495 = .ok (.if_icmp .eq 5, 3) := by decide +kernel
theorem dL_law_1498 : decode cL_law 1498 = .ok (.iconst 0, 1) := by decide +kernel
theorem dL_law_1499 : decode cL_law 1499 = .ok (.ireturn, 1) := by decide +kernel
theorem dL_law_1500 : decode cL_law 1500 = .ok (.iload 5, 2) := by decide +kernel
theorem dL_law_1502 : decode cL_law 1502 = .ok (.ifCond .ne 22, 3) := by decide +kernel
theorem dL_law_1505 : decode cL_law 1505 = .ok (.aload_n 3, 1) := by decide +kernel
theorem dL_law_1506 : decode cL_law 1506 = .ok (.iconst 0, 1) := by decide +kernel
theorem dL_law_1507 : decode cL_law 1507 = .ok (.laload, 1) := by decide +kernel
theorem dL_law_1508 : decode cL_law 1508 = .ok (.iload 6, 2) := by decide +kernel
theorem dL_law_1510 : decode cL_law 1510 = .ok (.ifCond .eq 7, 3) := by decide +kernel
theorem dL_law_1513 : decode cL_law 1513 = .ok (.lconst 1, 1) := by decide +kernel
theorem dL_law_1514 : decode cL_law 1514 = .ok (.goto 4, 3) := by decide +kernel
theorem dL_law_1517 : decode cL_law 1517 = .ok (.lconst 0, 1) := by decide +kernel
theorem dL_law_1518 : decode cL_law 1518 = .ok (.lcmp, 1) := by decide +kernel
theorem dL_law_1519 : decode cL_law 1519 = .ok (.ifCond .eq 5, 3) := by decide +kernel
theorem dL_law_1522 : decode cL_law 1522 = .ok (.iconst 0, 1) := by decide +kernel
theorem dL_law_1523 : decode cL_law 1523 = .ok (.ireturn, 1) := by decide +kernel
theorem dL_law_1524 : decode cL_law 1524 = .ok (.goto 1582, 3) := by decide +kernel
theorem dL_law_1527 : decode cL_law 1527 = .ok (.aload_n 1, 1) := by decide +kernel
theorem dL_law_1528 : decode cL_law 1528 = .ok (.aload_n 0, 1) := by decide +kernel
theorem dL_law_1529 : decode cL_law 1529 = .ok (.iload 4, 2) := by decide +kernel
theorem dL_law_1531 : decode cL_law 1531 = .ok (.iconst 1, 1) := by decide +kernel
theorem dL_law_1532 : decode cL_law 1532 = .ok (.iadd, 1) := by decide +kernel
theorem dL_law_1533 : decode cL_law 1533 = .ok (.iaload, 1) := by decide +kernel
theorem dL_law_1534 : decode cL_law 1534 = .ok (.aload_n 0, 1) := by decide +kernel
theorem dL_law_1535 : decode cL_law 1535 = .ok (.iload 4, 2) := by decide +kernel
theorem dL_law_1537 : decode cL_law 1537 = .ok (.iconst 2, 1) := by decide +kernel
theorem dL_law_1538 : decode cL_law 1538 = .ok (.iadd, 1) := by decide +kernel
theorem dL_law_1539 : decode cL_law 1539 = .ok (.iaload, 1) := by decide +kernel
theorem dL_law_1540 : decode cL_law 1540 = .ok (.aload_n 3, 1) := by decide +kernel
theorem dL_law_1541 : decode cL_law 1541 = .ok (.invokestatic 245, 3) := by decide +kernel
theorem dL_law_1544 : decode cL_law 1544 = .ok (.istore 5, 2) := by decide +kernel
theorem dL_law_1546 : decode cL_law 1546 = .ok (.aload_n 2, 1) := by decide +kernel
theorem dL_law_1547 : decode cL_law 1547 = .ok (.aload_n 0, 1) := by decide +kernel
theorem dL_law_1548 : decode cL_law 1548 = .ok (.iload 4, 2) := by decide +kernel
theorem dL_law_1550 : decode cL_law 1550 = .ok (.iconst 1, 1) := by decide +kernel
theorem dL_law_1551 : decode cL_law 1551 = .ok (.iadd, 1) := by decide +kernel
theorem dL_law_1552 : decode cL_law 1552 = .ok (.iaload, 1) := by decide +kernel
theorem dL_law_1553 : decode cL_law 1553 = .ok (.aload_n 0, 1) := by decide +kernel
theorem dL_law_1554 : decode cL_law 1554 = .ok (.iload 4, 2) := by decide +kernel
theorem dL_law_1556 : decode cL_law 1556 = .ok (.iconst 2, 1) := by decide +kernel
theorem dL_law_1557 : decode cL_law 1557 = .ok (.iadd, 1) := by decide +kernel
theorem dL_law_1558 : decode cL_law 1558 = .ok (.iaload, 1) := by decide +kernel
theorem dL_law_1559 : decode cL_law 1559 = .ok (.invokevirtual 247, 3) := by decide +kernel
theorem dL_law_1562 : decode cL_law 1562 = .ok (.istore 6, 2) := by decide +kernel
theorem dL_law_1564 : decode cL_law 1564 = .ok (.aload_n 2, 1) := by decide +kernel
theorem dL_law_1565 : decode cL_law 1565 = .ok (.invokevirtual 153, 3) := by decide +kernel
theorem dL_law_1568 : decode cL_law 1568 = .ok (.iload 5, 2) := by decide +kernel
theorem dL_law_1570 : decode cL_law 1570 = .ok (.if_icmp .eq 5, 3) := by decide +kernel
theorem dL_law_1573 : decode cL_law 1573 = .ok (.iconst 0, 1) := by decide +kernel
theorem dL_law_1574 : decode cL_law 1574 = .ok (.ireturn, 1) := by decide +kernel
theorem dL_law_1575 : decode cL_law 1575 = .ok (.iload 5, 2) := by decide +kernel
theorem dL_law_1577 : decode cL_law 1577 = .ok (.ifCond .ne 15, 3) := by decide +kernel
theorem dL_law_1580 : decode cL_law 1580 = .ok (.aload_n 3, 1) := by decide +kernel
theorem dL_law_1581 : decode cL_law 1581 = .ok (.iconst 0, 1) := by decide +kernel
theorem dL_law_1582 : decode cL_law 1582 = .ok (.laload, 1) := by decide +kernel
theorem dL_law_1583 : decode cL_law 1583 = .ok (.iload 6, 2) := by decide +kernel
theorem dL_law_1585 : decode cL_law 1585 = .ok (.i2l, 1) := by decide +kernel
theorem dL_law_1586 : decode cL_law 1586 = .ok (.lcmp, 1) := by decide +kernel
theorem dL_law_1587 : decode cL_law 1587 = .ok (.ifCond .eq 5, 3) := by decide +kernel
theorem dL_law_1590 : decode cL_law 1590 = .ok (.iconst 0, 1) := by decide +kernel
theorem dL_law_1591 : decode cL_law 1591 = .ok (.ireturn, 1) := by decide +kernel
theorem dL_law_1592 : decode cL_law 1592 = .ok (.goto 1514, 3) := by decide +kernel
theorem dL_law_1595 : decode cL_law 1595 = .ok (.aload_n 1, 1) := by decide +kernel
theorem dL_law_1596 : decode cL_law 1596 = .ok (.aload_n 0, 1) := by decide +kernel
theorem dL_law_1597 : decode cL_law 1597 = .ok (.iload 4, 2) := by decide +kernel
theorem dL_law_1599 : decode cL_law 1599 = .ok (.iconst 1, 1) := by decide +kernel
theorem dL_law_1600 : decode cL_law 1600 = .ok (.iadd, 1) := by decide +kernel
theorem dL_law_1601 : decode cL_law 1601 = .ok (.iaload, 1) := by decide +kernel
theorem dL_law_1602 : decode cL_law 1602 = .ok (.aload_n 0, 1) := by decide +kernel
theorem dL_law_1603 : decode cL_law 1603 = .ok (.iload 4, 2) := by decide +kernel
theorem dL_law_1605 : decode cL_law 1605 = .ok (.iconst 2, 1) := by decide +kernel
theorem dL_law_1606 : decode cL_law 1606 = .ok (.iadd, 1) := by decide +kernel
theorem dL_law_1607 : decode cL_law 1607 = .ok (.iaload, 1) := by decide +kernel
theorem dL_law_1608 : decode cL_law 1608 = .ok (.aload_n 3, 1) := by decide +kernel
theorem dL_law_1609 : decode cL_law 1609 = .ok (.invokestatic 248, 3) := by decide +kernel
theorem dL_law_1612 : decode cL_law 1612 = .ok (.istore 5, 2) := by decide +kernel
theorem dL_law_1614 : decode cL_law 1614 = .ok (.aload_n 2, 1) := by decide +kernel
theorem dL_law_1615 : decode cL_law 1615 = .ok (.aload_n 0, 1) := by decide +kernel
theorem dL_law_1616 : decode cL_law 1616 = .ok (.iload 4, 2) := by decide +kernel
theorem dL_law_1618 : decode cL_law 1618 = .ok (.iconst 1, 1) := by decide +kernel
theorem dL_law_1619 : decode cL_law 1619 = .ok (.iadd, 1) := by decide +kernel
theorem dL_law_1620 : decode cL_law 1620 = .ok (.iaload, 1) := by decide +kernel
theorem dL_law_1621 : decode cL_law 1621 = .ok (.aload_n 0, 1) := by decide +kernel
theorem dL_law_1622 : decode cL_law 1622 = .ok (.iload 4, 2) := by decide +kernel
theorem dL_law_1624 : decode cL_law 1624 = .ok (.iconst 2, 1) := by decide +kernel
theorem dL_law_1625 : decode cL_law 1625 = .ok (.iadd, 1) := by decide +kernel
theorem dL_law_1626 : decode cL_law 1626 = .ok (.iaload, 1) := by decide +kernel
theorem dL_law_1627 : decode cL_law 1627 = .ok (.invokevirtual 250, 3) := by decide +kernel
theorem dL_law_1630 : decode cL_law 1630 = .ok (.istore 6, 2) := by decide +kernel
theorem dL_law_1632 : decode cL_law 1632 = .ok (.aload_n 2, 1) := by decide +kernel
theorem dL_law_1633 : decode cL_law 1633 = .ok (.invokevirtual 153, 3) := by decide +kernel
theorem dL_law_1636 : decode cL_law 1636 = .ok (.iload 5, 2) := by decide +kernel
theorem dL_law_1638 : decode cL_law 1638 = .ok (.if_icmp .eq 5, 3) := by decide +kernel
theorem dL_law_1641 : decode cL_law 1641 = .ok (.iconst 0, 1) := by decide +kernel
theorem dL_law_1642 : decode cL_law 1642 = .ok (.ireturn, 1) := by decide +kernel
theorem dL_law_1643 : decode cL_law 1643 = .ok (.iload 5, 2) := by decide +kernel
theorem dL_law_1645 : decode cL_law 1645 = .ok (.ifCond .ne 15, 3) := by decide +kernel
theorem dL_law_1648 : decode cL_law 1648 = .ok (.aload_n 3, 1) := by decide +kernel
theorem dL_law_1649 : decode cL_law 1649 = .ok (.iconst 0, 1) := by decide +kernel
theorem dL_law_1650 : decode cL_law 1650 = .ok (.laload, 1) := by decide +kernel
theorem dL_law_1651 : decode cL_law 1651 = .ok (.iload 6, 2) := by decide +kernel
theorem dL_law_1653 : decode cL_law 1653 = .ok (.i2l, 1) := by decide +kernel
theorem dL_law_1654 : decode cL_law 1654 = .ok (.lcmp, 1) := by decide +kernel
theorem dL_law_1655 : decode cL_law 1655 = .ok (.ifCond .eq 5, 3) := by decide +kernel
theorem dL_law_1658 : decode cL_law 1658 = .ok (.iconst 0, 1) := by decide +kernel
theorem dL_law_1659 : decode cL_law 1659 = .ok (.ireturn, 1) := by decide +kernel
theorem dL_law_1660 : decode cL_law 1660 = .ok (.goto 1446, 3) := by decide +kernel
theorem dL_law_1663 : decode cL_law 1663 = .ok (.aload_n 1, 1) := by decide +kernel
theorem dL_law_1664 : decode cL_law 1664 = .ok (.aload_n 0, 1) := by decide +kernel
theorem dL_law_1665 : decode cL_law 1665 = .ok (.iload 4, 2) := by decide +kernel
theorem dL_law_1667 : decode cL_law 1667 = .ok (.iconst 1, 1) := by decide +kernel
theorem dL_law_1668 : decode cL_law 1668 = .ok (.iadd, 1) := by decide +kernel
theorem dL_law_1669 : decode cL_law 1669 = .ok (.iaload, 1) := by decide +kernel
theorem dL_law_1670 : decode cL_law 1670 = .ok (.aload_n 0, 1) := by decide +kernel
theorem dL_law_1671 : decode cL_law 1671 = .ok (.iload 4, 2) := by decide +kernel
theorem dL_law_1673 : decode cL_law 1673 = .ok (.iconst 2, 1) := by decide +kernel
theorem dL_law_1674 : decode cL_law 1674 = .ok (.iadd, 1) := by decide +kernel
theorem dL_law_1675 : decode cL_law 1675 = .ok (.iaload, 1) := by decide +kernel
theorem dL_law_1676 : decode cL_law 1676 = .ok (.aload_n 3, 1) := by decide +kernel
theorem dL_law_1677 : decode cL_law 1677 = .ok (.invokestatic 251, 3) := by decide +kernel
theorem dL_law_1680 : decode cL_law 1680 = .ok (.istore 5, 2) := by decide +kernel
theorem dL_law_1682 : decode cL_law 1682 = .ok (.aload_n 2, 1) := by decide +kernel
theorem dL_law_1683 : decode cL_law 1683 = .ok (.aload_n 0, 1) := by decide +kernel
theorem dL_law_1684 : decode cL_law 1684 = .ok (.iload 4, 2) := by decide +kernel
theorem dL_law_1686 : decode cL_law 1686 = .ok (.iconst 1, 1) := by decide +kernel
theorem dL_law_1687 : decode cL_law 1687 = .ok (.iadd, 1) := by decide +kernel
theorem dL_law_1688 : decode cL_law 1688 = .ok (.iaload, 1) := by decide +kernel
theorem dL_law_1689 : decode cL_law 1689 = .ok (.aload_n 0, 1) := by decide +kernel
theorem dL_law_1690 : decode cL_law 1690 = .ok (.iload 4, 2) := by decide +kernel
theorem dL_law_1692 : decode cL_law 1692 = .ok (.iconst 2, 1) := by decide +kernel
theorem dL_law_1693 : decode cL_law 1693 = .ok (.iadd, 1) := by decide +kernel
theorem dL_law_1694 : decode cL_law 1694 = .ok (.iaload, 1) := by decide +kernel
theorem dL_law_1695 : decode cL_law 1695 = .ok (.invokevirtual 253, 3) := by decide +kernel
theorem dL_law_1698 : decode cL_law 1698 = .ok (.istore 6, 2) := by decide +kernel
theorem dL_law_1700 : decode cL_law 1700 = .ok (.aload_n 2, 1) := by decide +kernel
theorem dL_law_1701 : decode cL_law 1701 = .ok (.invokevirtual 153, 3) := by decide +kernel
theorem dL_law_1704 : decode cL_law 1704 = .ok (.iload 5, 2) := by decide +kernel
theorem dL_law_1706 : decode cL_law 1706 = .ok (.if_icmp .eq 5, 3) := by decide +kernel
theorem dL_law_1709 : decode cL_law 1709 = .ok (.iconst 0, 1) := by decide +kernel
theorem dL_law_1710 : decode cL_law 1710 = .ok (.ireturn, 1) := by decide +kernel
theorem dL_law_1711 : decode cL_law 1711 = .ok (.iload 5, 2) := by decide +kernel
theorem dL_law_1713 : decode cL_law 1713 = .ok (.ifCond .ne 15, 3) := by decide +kernel
theorem dL_law_1716 : decode cL_law 1716 = .ok (.aload_n 3, 1) := by decide +kernel
theorem dL_law_1717 : decode cL_law 1717 = .ok (.iconst 0, 1) := by decide +kernel
theorem dL_law_1718 : decode cL_law 1718 = .ok (.laload, 1) := by decide +kernel
theorem dL_law_1719 : decode cL_law 1719 = .ok (.iload 6, 2) := by decide +kernel
theorem dL_law_1721 : decode cL_law 1721 = .ok (.i2l, 1) := by decide +kernel
theorem dL_law_1722 : decode cL_law 1722 = .ok (.lcmp, 1) := by decide +kernel
theorem dL_law_1723 : decode cL_law 1723 = .ok (.ifCond .eq 5, 3) := by decide +kernel
theorem dL_law_1726 : decode cL_law 1726 = .ok (.iconst 0, 1) := by decide +kernel
theorem dL_law_1727 : decode cL_law 1727 = .ok (.ireturn, 1) := by decide +kernel
theorem dL_law_1728 : decode cL_law 1728 = .ok (.goto 1378, 3) := by decide +kernel
theorem dL_law_1731 : decode cL_law 1731 = .ok (.aload_n 1, 1) := by decide +kernel
theorem dL_law_1732 : decode cL_law 1732 = .ok (.aload_n 0, 1) := by decide +kernel
theorem dL_law_1733 : decode cL_law 1733 = .ok (.iload 4, 2) := by decide +kernel
theorem dL_law_1735 : decode cL_law 1735 = .ok (.iconst 1, 1) := by decide +kernel
theorem dL_law_1736 : decode cL_law 1736 = .ok (.iadd, 1) := by decide +kernel
theorem dL_law_1737 : decode cL_law 1737 = .ok (.iaload, 1) := by decide +kernel
theorem dL_law_1738 : decode cL_law 1738 = .ok (.aload_n 0, 1) := by decide +kernel
theorem dL_law_1739 : decode cL_law 1739 = .ok (.iload 4, 2) := by decide +kernel
theorem dL_law_1741 : decode cL_law 1741 = .ok (.iconst 2, 1) := by decide +kernel
theorem dL_law_1742 : decode cL_law 1742 = .ok (.iadd, 1) := by decide +kernel
theorem dL_law_1743 : decode cL_law 1743 = .ok (.iaload, 1) := by decide +kernel
theorem dL_law_1744 : decode cL_law 1744 = .ok (.aload_n 3, 1) := by decide +kernel
theorem dL_law_1745 : decode cL_law 1745 = .ok (.invokestatic 254, 3) := by decide +kernel
theorem dL_law_1748 : decode cL_law 1748 = .ok (.istore 5, 2) := by decide +kernel
theorem dL_law_1750 : decode cL_law 1750 = .ok (.aload_n 2, 1) := by decide +kernel
theorem dL_law_1751 : decode cL_law 1751 = .ok (.aload_n 0, 1) := by decide +kernel
theorem dL_law_1752 : decode cL_law 1752 = .ok (.iload 4, 2) := by decide +kernel
theorem dL_law_1754 : decode cL_law 1754 = .ok (.iconst 1, 1) := by decide +kernel
theorem dL_law_1755 : decode cL_law 1755 = .ok (.iadd, 1) := by decide +kernel
theorem dL_law_1756 : decode cL_law 1756 = .ok (.iaload, 1) := by decide +kernel
theorem dL_law_1757 : decode cL_law 1757 = .ok (.aload_n 0, 1) := by decide +kernel
theorem dL_law_1758 : decode cL_law 1758 = .ok (.iload 4, 2) := by decide +kernel
theorem dL_law_1760 : decode cL_law 1760 = .ok (.iconst 2, 1) := by decide +kernel
theorem dL_law_1761 : decode cL_law 1761 = .ok (.iadd, 1) := by decide +kernel
theorem dL_law_1762 : decode cL_law 1762 = .ok (.iaload, 1) := by decide +kernel
theorem dL_law_1763 : decode cL_law 1763 = .ok (.invokevirtual 256, 3) := by decide +kernel
theorem dL_law_1766 : decode cL_law 1766 = .ok (.istore 6, 2) := by decide +kernel
theorem dL_law_1768 : decode cL_law 1768 = .ok (.aload_n 2, 1) := by decide +kernel
theorem dL_law_1769 : decode cL_law 1769 = .ok (.invokevirtual 153, 3) := by decide +kernel
theorem dL_law_1772 : decode cL_law 1772 = .ok (.iload 5, 2) := by decide +kernel
theorem dL_law_1774 : decode cL_law 1774 = .ok (.if_icmp .eq 5, 3) := by decide +kernel
theorem dL_law_1777 : decode cL_law 1777 = .ok (.iconst 0, 1) := by decide +kernel
theorem dL_law_1778 : decode cL_law 1778 = .ok (.ireturn, 1) := by decide +kernel
theorem dL_law_1779 : decode cL_law 1779 = .ok (.iload 5, 2) := by decide +kernel
theorem dL_law_1781 : decode cL_law 1781 = .ok (.ifCond .ne 15, 3) := by decide +kernel
theorem dL_law_1784 : decode cL_law 1784 = .ok (.aload_n 3, 1) := by decide +kernel
theorem dL_law_1785 : decode cL_law 1785 = .ok (.iconst 0, 1) := by decide +kernel
theorem dL_law_1786 : decode cL_law 1786 = .ok (.laload, 1) := by decide +kernel
theorem dL_law_1787 : decode cL_law 1787 = .ok (.iload 6, 2) := by decide +kernel
theorem dL_law_1789 : decode cL_law 1789 = .ok (.i2l, 1) := by decide +kernel
theorem dL_law_1790 : decode cL_law 1790 = .ok (.lcmp, 1) := by decide +kernel
theorem dL_law_1791 : decode cL_law 1791 = .ok (.ifCond .eq 5, 3) := by decide +kernel
theorem dL_law_1794 : decode cL_law 1794 = .ok (.iconst 0, 1) := by decide +kernel
theorem dL_law_1795 : decode cL_law 1795 = .ok (.ireturn, 1) := by decide +kernel
theorem dL_law_1796 : decode cL_law 1796 = .ok (.goto 1310, 3) := by decide +kernel
theorem dL_law_1799 : decode cL_law 1799 = .ok (.aload_n 1, 1) := by decide +kernel
theorem dL_law_1800 : decode cL_law 1800 = .ok (.invokevirtual 257, 3) := by decide +kernel
theorem dL_law_1803 : decode cL_law 1803 = .ok (.aload_n 2, 1) := by decide +kernel
theorem dL_law_1804 : decode cL_law 1804 = .ok (.invokevirtual 260, 3) := by decide +kernel
theorem dL_law_1807 : decode cL_law 1807 = .ok (.if_icmp .eq 1299, 3) := by decide +kernel
theorem dL_law_1810 : decode cL_law 1810 = .ok (.iconst 0, 1) := by decide +kernel
theorem dL_law_1811 : decode cL_law 1811 = .ok (.ireturn, 1) := by decide +kernel
theorem dL_law_1812 : decode cL_law 1812 = .ok (.aload_n 1, 1) := by decide +kernel
theorem dL_law_1813 : decode cL_law 1813 = .ok (.aload_n 0, 1) := by decide +kernel
theorem dL_law_1814 : decode cL_law 1814 = .ok (.iload 4, 2) := by decide +kernel
theorem dL_law_1816 : decode cL_law 1816 = .ok (.iconst 1, 1) := by decide +kernel
theorem dL_law_1817 : decode cL_law 1817 = .ok (.iadd, 1) := by decide +kernel
theorem dL_law_1818 : decode cL_law 1818 = .ok (.iaload, 1) := by decide +kernel
theorem dL_law_1819 : decode cL_law 1819 = .ok (.aload_n 3, 1) := by decide +kernel
theorem dL_law_1820 : decode cL_law 1820 = .ok (.invokestatic 261, 3) := by decide +kernel
theorem dL_law_1823 : decode cL_law 1823 = .ok (.istore 5, 2) := by decide +kernel
theorem dL_law_1825 : decode cL_law 1825 = .ok (.aload_n 2, 1) := by decide +kernel
theorem dL_law_1826 : decode cL_law 1826 = .ok (.aload_n 0, 1) := by decide +kernel
theorem dL_law_1827 : decode cL_law 1827 = .ok (.iload 4, 2) := by decide +kernel
theorem dL_law_1829 : decode cL_law 1829 = .ok (.iconst 1, 1) := by decide +kernel
theorem dL_law_1830 : decode cL_law 1830 = .ok (.iadd, 1) := by decide +kernel
theorem dL_law_1831 : decode cL_law 1831 = .ok (.iaload, 1) := by decide +kernel
theorem dL_law_1832 : decode cL_law 1832 = .ok (.invokevirtual 263, 3) := by decide +kernel
theorem dL_law_1835 : decode cL_law 1835 = .ok (.istore 6, 2) := by decide +kernel
theorem dL_law_1837 : decode cL_law 1837 = .ok (.aload_n 2, 1) := by decide +kernel
theorem dL_law_1838 : decode cL_law 1838 = .ok (.invokevirtual 153, 3) := by decide +kernel
theorem dL_law_1841 : decode cL_law 1841 = .ok (.iload 5, 2) := by decide +kernel
theorem dL_law_1843 : decode cL_law 1843 = .ok (.if_icmp .eq 5, 3) := by decide +kernel
theorem dL_law_1846 : decode cL_law 1846 = .ok (.iconst 0, 1) := by decide +kernel
theorem dL_law_1847 : decode cL_law 1847 = .ok (.ireturn, 1) := by decide +kernel
theorem dL_law_1848 : decode cL_law 1848 = .ok (.iload 5, 2) := by decide +kernel
theorem dL_law_1850 : decode cL_law 1850 = .ok (.ifCond .ne 15, 3) := by decide +kernel
theorem dL_law_1853 : decode cL_law 1853 = .ok (.aload_n 3, 1) := by decide +kernel
theorem dL_law_1854 : decode cL_law 1854 = .ok (.iconst 0, 1) := by decide +kernel
theorem dL_law_1855 : decode cL_law 1855 = .ok (.laload, 1) := by decide +kernel
theorem dL_law_1856 : decode cL_law 1856 = .ok (.iload 6, 2) := by decide +kernel
theorem dL_law_1858 : decode cL_law 1858 = .ok (.i2l, 1) := by decide +kernel
theorem dL_law_1859 : decode cL_law 1859 = .ok (.lcmp, 1) := by decide +kernel
theorem dL_law_1860 : decode cL_law 1860 = .ok (.ifCond .eq 5, 3) := by decide +kernel
theorem dL_law_1863 : decode cL_law 1863 = .ok (.iconst 0, 1) := by decide +kernel
theorem dL_law_1864 : decode cL_law 1864 = .ok (.ireturn, 1) := by decide +kernel
theorem dL_law_1865 : decode cL_law 1865 = .ok (.goto 1241, 3) := by decide +kernel
theorem dL_law_1868 : decode cL_law 1868 = .ok (.aload_n 1, 1) := by decide +kernel
theorem dL_law_1869 : decode cL_law 1869 = .ok (.aload_n 0, 1) := by decide +kernel
theorem dL_law_1870 : decode cL_law 1870 = .ok (.iload 4, 2) := by decide +kernel
theorem dL_law_1872 : decode cL_law 1872 = .ok (.iconst 1, 1) := by decide +kernel
theorem dL_law_1873 : decode cL_law 1873 = .ok (.iadd, 1) := by decide +kernel
theorem dL_law_1874 : decode cL_law 1874 = .ok (.iaload, 1) := by decide +kernel
theorem dL_law_1875 : decode cL_law 1875 = .ok (.aload_n 0, 1) := by decide +kernel
theorem dL_law_1876 : decode cL_law 1876 = .ok (.iload 4, 2) := by decide +kernel
theorem dL_law_1878 : decode cL_law 1878 = .ok (.iconst 2, 1) := by decide +kernel
theorem dL_law_1879 : decode cL_law 1879 = .ok (.iadd, 1) := by decide +kernel
theorem dL_law_1880 : decode cL_law 1880 = .ok (.iaload, 1) := by decide +kernel
theorem dL_law_1881 : decode cL_law 1881 = .ok (.aload_n 3, 1) := by decide +kernel
theorem dL_law_1882 : decode cL_law 1882 = .ok (.invokestatic 264, 3) := by decide +kernel
theorem dL_law_1885 : decode cL_law 1885 = .ok (.istore 5, 2) := by decide +kernel
theorem dL_law_1887 : decode cL_law 1887 = .ok (.aload_n 2, 1) := by decide +kernel
theorem dL_law_1888 : decode cL_law 1888 = .ok (.aload_n 0, 1) := by decide +kernel
theorem dL_law_1889 : decode cL_law 1889 = .ok (.iload 4, 2) := by decide +kernel
theorem dL_law_1891 : decode cL_law 1891 = .ok (.iconst 1, 1) := by decide +kernel
theorem dL_law_1892 : decode cL_law 1892 = .ok (.iadd, 1) := by decide +kernel
theorem dL_law_1893 : decode cL_law 1893 = .ok (.iaload, 1) := by decide +kernel
theorem dL_law_1894 : decode cL_law 1894 = .ok (.aload_n 0, 1) := by decide +kernel
theorem dL_law_1895 : decode cL_law 1895 = .ok (.iload 4, 2) := by decide +kernel
theorem dL_law_1897 : decode cL_law 1897 = .ok (.iconst 2, 1) := by decide +kernel
theorem dL_law_1898 : decode cL_law 1898 = .ok (.iadd, 1) := by decide +kernel
theorem dL_law_1899 : decode cL_law 1899 = .ok (.iaload, 1) := by decide +kernel
theorem dL_law_1900 : decode cL_law 1900 = .ok (.invokevirtual 266, 3) := by decide +kernel
theorem dL_law_1903 : decode cL_law 1903 = .ok (.istore 6, 2) := by decide +kernel
theorem dL_law_1905 : decode cL_law 1905 = .ok (.aload_n 2, 1) := by decide +kernel
theorem dL_law_1906 : decode cL_law 1906 = .ok (.invokevirtual 153, 3) := by decide +kernel
theorem dL_law_1909 : decode cL_law 1909 = .ok (.iload 5, 2) := by decide +kernel
theorem dL_law_1911 : decode cL_law 1911 = .ok (.if_icmp .eq 5, 3) := by decide +kernel
theorem dL_law_1914 : decode cL_law 1914 = .ok (.iconst 0, 1) := by decide +kernel
theorem dL_law_1915 : decode cL_law 1915 = .ok (.ireturn, 1) := by decide +kernel
theorem dL_law_1916 : decode cL_law 1916 = .ok (.iload 5, 2) := by decide +kernel
theorem dL_law_1918 : decode cL_law 1918 = .ok (.ifCond .ne 15, 3) := by decide +kernel
theorem dL_law_1921 : decode cL_law 1921 = .ok (.aload_n 3, 1) := by decide +kernel
theorem dL_law_1922 : decode cL_law 1922 = .ok (.iconst 0, 1) := by decide +kernel
theorem dL_law_1923 : decode cL_law 1923 = .ok (.laload, 1) := by decide +kernel
theorem dL_law_1924 : decode cL_law 1924 = .ok (.iload 6, 2) := by decide +kernel
theorem dL_law_1926 : decode cL_law 1926 = .ok (.i2l, 1) := by decide +kernel
theorem dL_law_1927 : decode cL_law 1927 = .ok (.lcmp, 1) := by decide +kernel
theorem dL_law_1928 : decode cL_law 1928 = .ok (.ifCond .eq 5, 3) := by decide +kernel
theorem dL_law_1931 : decode cL_law 1931 = .ok (.iconst 0, 1) := by decide +kernel
theorem dL_law_1932 : decode cL_law 1932 = .ok (.ireturn, 1) := by decide +kernel
theorem dL_law_1933 : decode cL_law 1933 = .ok (.goto 1173, 3) := by decide +kernel
theorem dL_law_1936 : decode cL_law 1936 = .ok (.aload_n 1, 1) := by decide +kernel
theorem dL_law_1937 : decode cL_law 1937 = .ok (.aload_n 0, 1) := by decide +kernel
theorem dL_law_1938 : decode cL_law 1938 = .ok (.iload 4, 2) := by decide +kernel
theorem dL_law_1940 : decode cL_law 1940 = .ok (.iconst 1, 1) := by decide +kernel
theorem dL_law_1941 : decode cL_law 1941 = .ok (.iadd, 1) := by decide +kernel
theorem dL_law_1942 : decode cL_law 1942 = .ok (.iaload, 1) := by decide +kernel
theorem dL_law_1943 : decode cL_law 1943 = .ok (.aload_n 0, 1) := by decide +kernel
theorem dL_law_1944 : decode cL_law 1944 = .ok (.iload 4, 2) := by decide +kernel
theorem dL_law_1946 : decode cL_law 1946 = .ok (.iconst 2, 1) := by decide +kernel
theorem dL_law_1947 : decode cL_law 1947 = .ok (.iadd, 1) := by decide +kernel
theorem dL_law_1948 : decode cL_law 1948 = .ok (.iaload, 1) := by decide +kernel
theorem dL_law_1949 : decode cL_law 1949 = .ok (.aload_n 3, 1) := by decide +kernel
theorem dL_law_1950 : decode cL_law 1950 = .ok (.invokestatic 267, 3) := by decide +kernel
theorem dL_law_1953 : decode cL_law 1953 = .ok (.istore 5, 2) := by decide +kernel
theorem dL_law_1955 : decode cL_law 1955 = .ok (.aload_n 2, 1) := by decide +kernel
theorem dL_law_1956 : decode cL_law 1956 = .ok (.aload_n 0, 1) := by decide +kernel
theorem dL_law_1957 : decode cL_law 1957 = .ok (.iload 4, 2) := by decide +kernel
theorem dL_law_1959 : decode cL_law 1959 = .ok (.iconst 1, 1) := by decide +kernel
theorem dL_law_1960 : decode cL_law 1960 = .ok (.iadd, 1) := by decide +kernel
theorem dL_law_1961 : decode cL_law 1961 = .ok (.iaload, 1) := by decide +kernel
theorem dL_law_1962 : decode cL_law 1962 = .ok (.aload_n 0, 1) := by decide +kernel
theorem dL_law_1963 : decode cL_law 1963 = .ok (.iload 4, 2) := by decide +kernel
theorem dL_law_1965 : decode cL_law 1965 = .ok (.iconst 2, 1) := by decide +kernel
theorem dL_law_1966 : decode cL_law 1966 = .ok (.iadd, 1) := by decide +kernel
theorem dL_law_1967 : decode cL_law 1967 = .ok (.iaload, 1) := by decide +kernel
theorem dL_law_1968 : decode cL_law 1968 = .ok (.invokevirtual 269, 3) := by decide +kernel
theorem dL_law_1971 : decode cL_law 1971 = .ok (.istore 6, 2) := by decide +kernel
theorem dL_law_1973 : decode cL_law 1973 = .ok (.aload_n 2, 1) := by decide +kernel
theorem dL_law_1974 : decode cL_law 1974 = .ok (.invokevirtual 153, 3) := by decide +kernel
theorem dL_law_1977 : decode cL_law 1977 = .ok (.iload 5, 2) := by decide +kernel
theorem dL_law_1979 : decode cL_law 1979 = .ok (.if_icmp .eq 5, 3) := by decide +kernel
theorem dL_law_1982 : decode cL_law 1982 = .ok (.iconst 0, 1) := by decide +kernel
theorem dL_law_1983 : decode cL_law 1983 = .ok (.ireturn, 1) := by decide +kernel
theorem dL_law_1984 : decode cL_law 1984 = .ok (.iload 5, 2) := by decide +kernel
theorem dL_law_1986 : decode cL_law 1986 = .ok (.ifCond .ne 15, 3) := by decide +kernel
theorem dL_law_1989 : decode cL_law 1989 = .ok (.aload_n 3, 1) := by decide +kernel
theorem dL_law_1990 : decode cL_law 1990 = .ok (.iconst 0, 1) := by decide +kernel
theorem dL_law_1991 : decode cL_law 1991 = .ok (.laload, 1) := by decide +kernel
theorem dL_law_1992 : decode cL_law 1992 = .ok (.iload 6, 2) := by decide +kernel
theorem dL_law_1994 : decode cL_law 1994 = .ok (.i2l, 1) := by decide +kernel
theorem dL_law_1995 : decode cL_law 1995 = .ok (.lcmp, 1) := by decide +kernel
theorem dL_law_1996 : decode cL_law 1996 = .ok (.ifCond .eq 5, 3) := by decide +kernel
theorem dL_law_1999 : decode cL_law 1999 = .ok (.iconst 0, 1) := by decide +kernel
theorem dL_law_2000 : decode cL_law 2000 = .ok (.ireturn, 1) := by decide +kernel
theorem dL_law_2001 : decode cL_law 2001 = .ok (.goto 1105, 3) := by decide +kernel
theorem dL_law_2004 : decode cL_law 2004 = .ok (.aload_n 1, 1) := by decide +kernel
theorem dL_law_2005 : decode cL_law 2005 = .ok (.aload_n 0, 1) := by decide +kernel
theorem dL_law_2006 : decode cL_law 2006 = .ok (.iload 4, 2) := by decide +kernel
theorem dL_law_2008 : decode cL_law 2008 = .ok (.iconst 1, 1) := by decide +kernel
theorem dL_law_2009 : decode cL_law 2009 = .ok (.iadd, 1) := by decide +kernel
theorem dL_law_2010 : decode cL_law 2010 = .ok (.iaload, 1) := by decide +kernel
theorem dL_law_2011 : decode cL_law 2011 = .ok (.aload_n 3, 1) := by decide +kernel
theorem dL_law_2012 : decode cL_law 2012 = .ok (.invokestatic 270, 3) := by decide +kernel
theorem dL_law_2015 : decode cL_law 2015 = .ok (.istore 5, 2) := by decide +kernel
theorem dL_law_2017 : decode cL_law 2017 = .ok (.aload_n 2, 1) := by decide +kernel
theorem dL_law_2018 : decode cL_law 2018 = .ok (.aload_n 0, 1) := by decide +kernel
theorem dL_law_2019 : decode cL_law 2019 = .ok (.iload 4, 2) := by decide +kernel
theorem dL_law_2021 : decode cL_law 2021 = .ok (.iconst 1, 1) := by decide +kernel
theorem dL_law_2022 : decode cL_law 2022 = .ok (.iadd, 1) := by decide +kernel
theorem dL_law_2023 : decode cL_law 2023 = .ok (.iaload, 1) := by decide +kernel
theorem dL_law_2024 : decode cL_law 2024 = .ok (.invokevirtual 272, 3) := by decide +kernel
theorem dL_law_2027 : decode cL_law 2027 = .ok (.istore 6, 2) := by decide +kernel
theorem dL_law_2029 : decode cL_law 2029 = .ok (.aload_n 2, 1) := by decide +kernel
theorem dL_law_2030 : decode cL_law 2030 = .ok (.invokevirtual 153, 3) := by decide +kernel
theorem dL_law_2033 : decode cL_law 2033 = .ok (.iload 5, 2) := by decide +kernel
theorem dL_law_2035 : decode cL_law 2035 = .ok (.if_icmp .eq 5, 3) := by decide +kernel
theorem dL_law_2038 : decode cL_law 2038 = .ok (.iconst 0, 1) := by decide +kernel
theorem dL_law_2039 : decode cL_law 2039 = .ok (.ireturn, 1) := by decide +kernel
theorem dL_law_2040 : decode cL_law 2040 = .ok (.iload 5, 2) := by decide +kernel
theorem dL_law_2042 : decode cL_law 2042 = .ok (.ifCond .ne 15, 3) := by decide +kernel
theorem dL_law_2045 : decode cL_law 2045 = .ok (.aload_n 3, 1) := by decide +kernel
theorem dL_law_2046 : decode cL_law 2046 = .ok (.iconst 0, 1) := by decide +kernel
theorem dL_law_2047 : decode cL_law 2047 = .ok (.laload, 1) := by decide +kernel
theorem dL_law_2048 : decode cL_law 2048 = .ok (.iload 6, 2) := by decide +kernel
theorem dL_law_2050 : decode cL_law 2050 = .ok (.i2l, 1) := by decide +kernel
theorem dL_law_2051 : decode cL_law 2051 = .ok (.lcmp, 1) := by decide +kernel
theorem dL_law_2052 : decode cL_law 2052 = .ok (.ifCond .eq 5, 3) := by decide +kernel
theorem dL_law_2055 : decode cL_law 2055 = .ok (.iconst 0, 1) := by decide +kernel
theorem dL_law_2056 : decode cL_law 2056 = .ok (.ireturn, 1) := by decide +kernel
theorem dL_law_2057 : decode cL_law 2057 = .ok (.goto 1049, 3) := by decide +kernel
theorem dL_law_2060 : decode cL_law 2060 = .ok (.aload_n 1, 1) := by decide +kernel
theorem dL_law_2061 : decode cL_law 2061 = .ok (.aload_n 0, 1) := by decide +kernel
theorem dL_law_2062 : decode cL_law 2062 = .ok (.iload 4, 2) := by decide +kernel
theorem dL_law_2064 : decode cL_law 2064 = .ok (.iconst 1, 1) := by decide +kernel
theorem dL_law_2065 : decode cL_law 2065 = .ok (.iadd, 1) := by decide +kernel
theorem dL_law_2066 : decode cL_law 2066 = .ok (.iaload, 1) := by decide +kernel
theorem dL_law_2067 : decode cL_law 2067 = .ok (.aload_n 0, 1) := by decide +kernel
theorem dL_law_2068 : decode cL_law 2068 = .ok (.iload 4, 2) := by decide +kernel
theorem dL_law_2070 : decode cL_law 2070 = .ok (.iconst 2, 1) := by decide +kernel
theorem dL_law_2071 : decode cL_law 2071 = .ok (.iadd, 1) := by decide +kernel
theorem dL_law_2072 : decode cL_law 2072 = .ok (.iaload, 1) := by decide +kernel
theorem dL_law_2073 : decode cL_law 2073 = .ok (.aload_n 3, 1) := by decide +kernel
theorem dL_law_2074 : decode cL_law 2074 = .ok (.invokestatic 273, 3) := by decide +kernel
theorem dL_law_2077 : decode cL_law 2077 = .ok (.istore 5, 2) := by decide +kernel
theorem dL_law_2079 : decode cL_law 2079 = .ok (.aload_n 2, 1) := by decide +kernel
theorem dL_law_2080 : decode cL_law 2080 = .ok (.aload_n 0, 1) := by decide +kernel
theorem dL_law_2081 : decode cL_law 2081 = .ok (.iload 4, 2) := by decide +kernel
theorem dL_law_2083 : decode cL_law 2083 = .ok (.iconst 1, 1) := by decide +kernel
theorem dL_law_2084 : decode cL_law 2084 = .ok (.iadd, 1) := by decide +kernel
theorem dL_law_2085 : decode cL_law 2085 = .ok (.iaload, 1) := by decide +kernel
theorem dL_law_2086 : decode cL_law 2086 = .ok (.aload_n 0, 1) := by decide +kernel
theorem dL_law_2087 : decode cL_law 2087 = .ok (.iload 4, 2) := by decide +kernel
theorem dL_law_2089 : decode cL_law 2089 = .ok (.iconst 2, 1) := by decide +kernel
theorem dL_law_2090 : decode cL_law 2090 = .ok (.iadd, 1) := by decide +kernel
theorem dL_law_2091 : decode cL_law 2091 = .ok (.iaload, 1) := by decide +kernel
theorem dL_law_2092 : decode cL_law 2092 = .ok (.invokevirtual 275, 3) := by decide +kernel
theorem dL_law_2095 : decode cL_law 2095 = .ok (.istore 6, 2) := by decide +kernel
theorem dL_law_2097 : decode cL_law 2097 = .ok (.aload_n 2, 1) := by decide +kernel
theorem dL_law_2098 : decode cL_law 2098 = .ok (.invokevirtual 153, 3) := by decide +kernel
theorem dL_law_2101 : decode cL_law 2101 = .ok (.iload 5, 2) := by decide +kernel
theorem dL_law_2103 : decode cL_law 2103 = .ok (.if_icmp .eq 5, 3) := by decide +kernel
theorem dL_law_2106 : decode cL_law 2106 = .ok (.iconst 0, 1) := by decide +kernel
theorem dL_law_2107 : decode cL_law 2107 = .ok (.ireturn, 1) := by decide +kernel
theorem dL_law_2108 : decode cL_law 2108 = .ok (.iload 5, 2) := by decide +kernel
theorem dL_law_2110 : decode cL_law 2110 = .ok (.ifCond .ne 15, 3) := by decide +kernel
theorem dL_law_2113 : decode cL_law 2113 = .ok (.aload_n 3, 1) := by decide +kernel
theorem dL_law_2114 : decode cL_law 2114 = .ok (.iconst 0, 1) := by decide +kernel
theorem dL_law_2115 : decode cL_law 2115 = .ok (.laload, 1) := by decide +kernel
theorem dL_law_2116 : decode cL_law 2116 = .ok (.iload 6, 2) := by decide +kernel
theorem dL_law_2118 : decode cL_law 2118 = .ok (.i2l, 1) := by decide +kernel
theorem dL_law_2119 : decode cL_law 2119 = .ok (.lcmp, 1) := by decide +kernel
theorem dL_law_2120 : decode cL_law 2120 = .ok (.ifCond .eq 5, 3) := by decide +kernel
theorem dL_law_2123 : decode cL_law 2123 = .ok (.iconst 0, 1) := by decide +kernel
theorem dL_law_2124 : decode cL_law 2124 = .ok (.ireturn, 1) := by decide +kernel
theorem dL_law_2125 : decode cL_law 2125 = .ok (.goto 981, 3) := by decide +kernel
theorem dL_law_2128 : decode cL_law 2128 = .ok (.aload_n 1, 1) := by decide +kernel
theorem dL_law_2129 : decode cL_law 2129 = .ok (.aload_n 0, 1) := by decide +kernel
theorem dL_law_2130 : decode cL_law 2130 = .ok (.iload 4, 2) := by decide +kernel
theorem dL_law_2132 : decode cL_law 2132 = .ok (.iconst 1, 1) := by decide +kernel
theorem dL_law_2133 : decode cL_law 2133 = .ok (.iadd, 1) := by decide +kernel
theorem dL_law_2134 : decode cL_law 2134 = .ok (.iaload, 1) := by decide +kernel
theorem dL_law_2135 : decode cL_law 2135 = .ok (.aload_n 3, 1) := by decide +kernel
theorem dL_law_2136 : decode cL_law 2136 = .ok (.invokestatic 276, 3) := by decide +kernel
theorem dL_law_2139 : decode cL_law 2139 = .ok (.istore 5, 2) := by decide +kernel
theorem dL_law_2141 : decode cL_law 2141 = .ok (.aload_n 2, 1) := by decide +kernel
theorem dL_law_2142 : decode cL_law 2142 = .ok (.aload_n 0, 1) := by decide +kernel
theorem dL_law_2143 : decode cL_law 2143 = .ok (.iload 4, 2) := by decide +kernel
theorem dL_law_2145 : decode cL_law 2145 = .ok (.iconst 1, 1) := by decide +kernel
theorem dL_law_2146 : decode cL_law 2146 = .ok (.iadd, 1) := by decide +kernel
theorem dL_law_2147 : decode cL_law 2147 = .ok (.iaload, 1) := by decide +kernel
theorem dL_law_2148 : decode cL_law 2148 = .ok (.invokevirtual 278, 3) := by decide +kernel
theorem dL_law_2151 : decode cL_law 2151 = .ok (.istore 6, 2) := by decide +kernel
theorem dL_law_2153 : decode cL_law 2153 = .ok (.aload_n 2, 1) := by decide +kernel
theorem dL_law_2154 : decode cL_law 2154 = .ok (.invokevirtual 153, 3) := by decide +kernel
theorem dL_law_2157 : decode cL_law 2157 = .ok (.iload 5, 2) := by decide +kernel
theorem dL_law_2159 : decode cL_law 2159 = .ok (.if_icmp .eq 5, 3) := by decide +kernel
theorem dL_law_2162 : decode cL_law 2162 = .ok (.iconst 0, 1) := by decide +kernel
theorem dL_law_2163 : decode cL_law 2163 = .ok (.ireturn, 1) := by decide +kernel
theorem dL_law_2164 : decode cL_law 2164 = .ok (.iload 5, 2) := by decide +kernel
theorem dL_law_2166 : decode cL_law 2166 = .ok (.ifCond .ne 15, 3) := by decide +kernel
theorem dL_law_2169 : decode cL_law 2169 = .ok (.aload_n 3, 1) := by decide +kernel
theorem dL_law_2170 : decode cL_law 2170 = .ok (.iconst 0, 1) := by decide +kernel
theorem dL_law_2171 : decode cL_law 2171 = .ok (.laload, 1) := by decide +kernel
theorem dL_law_2172 : decode cL_law 2172 = .ok (.iload 6, 2) := by decide +kernel
theorem dL_law_2174 : decode cL_law 2174 = .ok (.i2l, 1) := by decide +kernel
theorem dL_law_2175 : decode cL_law 2175 = .ok (.lcmp, 1) := by decide +kernel
theorem dL_law_2176 : decode cL_law 2176 = .ok (.ifCond .eq 5, 3) := by decide +kernel
theorem dL_law_2179 : decode cL_law 2179 = .ok (.iconst 0, 1) := by decide +kernel
theorem dL_law_2180 : decode cL_law 2180 = .ok (.ireturn, 1) := by decide +kernel
theorem dL_law_2181 : decode cL_law 2181 = .ok (.goto 925, 3) := by decide +kernel
theorem dL_law_2184 : decode cL_law 2184 = .ok (.aload_n 1, 1) := by decide +kernel
theorem dL_law_2185 : decode cL_law 2185 = .ok (.invokevirtual 279, 3) := by decide +kernel
theorem dL_law_2188 : decode cL_law 2188 = .ok (.aload_n 2, 1) := by decide +kernel
theorem dL_law_2189 : decode cL_law 2189 = .ok (.invokevirtual 282, 3) := by decide +kernel
theorem dL_law_2192 : decode cL_law 2192 = .ok (.if_icmp .eq 914, 3) := by decide +kernel
theorem dL_law_2195 : decode cL_law 2195 = .ok (.iconst 0, 1) := by decide +kernel
theorem dL_law_2196 : decode cL_law 2196 = .ok (.ireturn, 1) := by decide +kernel
theorem dL_law_2197 : decode cL_law 2197 = .ok (.aload_n 1, 1) := by decide +kernel
theorem dL_law_2198 : decode cL_law 2198 = .ok (.aload_n 0, 1) := by decide +kernel
theorem dL_law_2199 : decode cL_law 2199 = .ok (.iload 4, 2) := by decide +kernel
theorem dL_law_2201 : decode cL_law 2201 = .ok (.iconst 1, 1) := by decide +kernel
theorem dL_law_2202 : decode cL_law 2202 = .ok (.iadd, 1) := by decide +kernel
theorem dL_law_2203 : decode cL_law 2203 = .ok (.iaload, 1) := by decide +kernel
theorem dL_law_2204 : decode cL_law 2204 = .ok (.aload_n 0, 1) := by decide +kernel
theorem dL_law_2205 : decode cL_law 2205 = .ok (.iload 4, 2) := by decide +kernel
theorem dL_law_2207 : decode cL_law 2207 = .ok (.iconst 2, 1) := by decide +kernel
theorem dL_law_2208 : decode cL_law 2208 = .ok (.iadd, 1) := by decide +kernel
theorem dL_law_2209 : decode cL_law 2209 = .ok (.iaload, 1) := by decide +kernel
theorem dL_law_2210 : decode cL_law 2210 = .ok (.aload_n 3, 1) := by decide +kernel
theorem dL_law_2211 : decode cL_law 2211 = .ok (.invokestatic 283, 3) := by decide +kernel
theorem dL_law_2214 : decode cL_law 2214 = .ok (.istore 5, 2) := by decide +kernel
theorem dL_law_2216 : decode cL_law 2216 = .ok (.aload_n 2, 1) := by decide +kernel
theorem dL_law_2217 : decode cL_law 2217 = .ok (.aload_n 0, 1) := by decide +kernel
theorem dL_law_2218 : decode cL_law 2218 = .ok (.iload 4, 2) := by decide +kernel
theorem dL_law_2220 : decode cL_law 2220 = .ok (.iconst 1, 1) := by decide +kernel
theorem dL_law_2221 : decode cL_law 2221 = .ok (.iadd, 1) := by decide +kernel
theorem dL_law_2222 : decode cL_law 2222 = .ok (.iaload, 1) := by decide +kernel
theorem dL_law_2223 : decode cL_law 2223 = .ok (.aload_n 0, 1) := by decide +kernel
theorem dL_law_2224 : decode cL_law 2224 = .ok (.iload 4, 2) := by decide +kernel
theorem dL_law_2226 : decode cL_law 2226 = .ok (.iconst 2, 1) := by decide +kernel
theorem dL_law_2227 : decode cL_law 2227 = .ok (.iadd, 1) := by decide +kernel
theorem dL_law_2228 : decode cL_law 2228 = .ok (.iaload, 1) := by decide +kernel
theorem dL_law_2229 : decode cL_law 2229 = .ok (.invokevirtual 285, 3) := by decide +kernel
theorem dL_law_2232 : decode cL_law 2232 = .ok (.istore 6, 2) := by decide +kernel
theorem dL_law_2234 : decode cL_law 2234 = .ok (.aload_n 2, 1) := by decide +kernel
theorem dL_law_2235 : decode cL_law 2235 = .ok (.invokevirtual 153, 3) := by decide +kernel
theorem dL_law_2238 : decode cL_law 2238 = .ok (.iload 5, 2) := by decide +kernel
theorem dL_law_2240 : decode cL_law 2240 = .ok (.if_icmp .eq 5, 3) := by decide +kernel
theorem dL_law_2243 : decode cL_law 2243 = .ok (.iconst 0, 1) := by decide +kernel
theorem dL_law_2244 : decode cL_law 2244 = .ok (.ireturn, 1) := by decide +kernel
theorem dL_law_2245 : decode cL_law 2245 = .ok (.iload 5, 2) := by decide +kernel
theorem dL_law_2247 : decode cL_law 2247 = .ok (.ifCond .ne 15, 3) := by decide +kernel
theorem dL_law_2250 : decode cL_law 2250 = .ok (.aload_n 3, 1) := by decide +kernel
theorem dL_law_2251 : decode cL_law 2251 = .ok (.iconst 0, 1) := by decide +kernel
theorem dL_law_2252 : decode cL_law 2252 = .ok (.laload, 1) := by decide +kernel
theorem dL_law_2253 : decode cL_law 2253 = .ok (.iload 6, 2) := by decide +kernel
theorem dL_law_2255 : decode cL_law 2255 = .ok (.i2l, 1) := by decide +kernel
theorem dL_law_2256 : decode cL_law 2256 = .ok (.lcmp, 1) := by decide +kernel
theorem dL_law_2257 : decode cL_law 2257 = .ok (.ifCond .eq 5, 3) := by decide +kernel
theorem dL_law_2260 : decode cL_law 2260 = .ok (.iconst 0, 1) := by decide +kernel
theorem dL_law_2261 : decode cL_law 2261 = .ok (.ireturn, 1) := by decide +kernel
theorem dL_law_2262 : decode cL_law 2262 = .ok (.goto 844, 3) := by decide +kernel
theorem dL_law_2265 : decode cL_law 2265 = .ok (.aload_n 1, 1) := by decide +kernel
theorem dL_law_2266 : decode cL_law 2266 = .ok (.invokevirtual 286, 3) := by decide +kernel
theorem dL_law_2269 : decode cL_law 2269 = .ok (.aload_n 2, 1) := by decide +kernel
theorem dL_law_2270 : decode cL_law 2270 = .ok (.invokevirtual 289, 3) := by decide +kernel
theorem dL_law_2273 : decode cL_law 2273 = .ok (.if_icmp .eq 833, 3) := by decide +kernel
theorem dL_law_2276 : decode cL_law 2276 = .ok (.iconst 0, 1) := by decide +kernel
theorem dL_law_2277 : decode cL_law 2277 = .ok (.ireturn, 1) := by decide +kernel
theorem dL_law_2278 : decode cL_law 2278 = .ok (.aload_n 1, 1) := by decide +kernel
theorem dL_law_2279 : decode cL_law 2279 = .ok (.invokevirtual 290, 3) := by decide +kernel
theorem dL_law_2282 : decode cL_law 2282 = .ok (.aload_n 2, 1) := by decide +kernel
theorem dL_law_2283 : decode cL_law 2283 = .ok (.invokevirtual 293, 3) := by decide +kernel
theorem dL_law_2286 : decode cL_law 2286 = .ok (.if_icmp .eq 820, 3) := by decide +kernel
theorem dL_law_2289 : decode cL_law 2289 = .ok (.iconst 0, 1) := by decide +kernel
theorem dL_law_2290 : decode cL_law 2290 = .ok (.ireturn, 1) := by decide +kernel
theorem dL_law_2291 : decode cL_law 2291 = .ok (.aload_n 1, 1) := by decide +kernel
theorem dL_law_2292 : decode cL_law 2292 = .ok (.aload_n 0, 1) := by decide +kernel
theorem dL_law_2293 : decode cL_law 2293 = .ok (.iload 4, 2) := by decide +kernel
theorem dL_law_2295 : decode cL_law 2295 = .ok (.iconst 1, 1) := by decide +kernel
theorem dL_law_2296 : decode cL_law 2296 = .ok (.iadd, 1) := by decide +kernel
theorem dL_law_2297 : decode cL_law 2297 = .ok (.iaload, 1) := by decide +kernel
theorem dL_law_2298 : decode cL_law 2298 = .ok (.aload_n 3, 1) := by decide +kernel
theorem dL_law_2299 : decode cL_law 2299 = .ok (.invokestatic 294, 3) := by decide +kernel
theorem dL_law_2302 : decode cL_law 2302 = .ok (.istore 5, 2) := by decide +kernel
theorem dL_law_2304 : decode cL_law 2304 = .ok (.aload_n 2, 1) := by decide +kernel
theorem dL_law_2305 : decode cL_law 2305 = .ok (.aload_n 0, 1) := by decide +kernel
theorem dL_law_2306 : decode cL_law 2306 = .ok (.iload 4, 2) := by decide +kernel
theorem dL_law_2308 : decode cL_law 2308 = .ok (.iconst 1, 1) := by decide +kernel
theorem dL_law_2309 : decode cL_law 2309 = .ok (.iadd, 1) := by decide +kernel
theorem dL_law_2310 : decode cL_law 2310 = .ok (.iaload, 1) := by decide +kernel
theorem dL_law_2311 : decode cL_law 2311 = .ok (.invokevirtual 296, 3) := by decide +kernel
theorem dL_law_2314 : decode cL_law 2314 = .ok (.istore 6, 2) := by decide +kernel
theorem dL_law_2316 : decode cL_law 2316 = .ok (.aload_n 2, 1) := by decide +kernel
theorem dL_law_2317 : decode cL_law 2317 = .ok (.invokevirtual 153, 3) := by decide +kernel
theorem dL_law_2320 : decode cL_law 2320 = .ok (.iload 5, 2) := by decide +kernel
theorem dL_law_2322 : decode cL_law 2322 = .ok (.if_icmp .eq 5, 3) := by decide +kernel
theorem dL_law_2325 : decode cL_law 2325 = .ok (.iconst 0, 1) := by decide +kernel
theorem dL_law_2326 : decode cL_law 2326 = .ok (.ireturn, 1) := by decide +kernel
theorem dL_law_2327 : decode cL_law 2327 = .ok (.iload 5, 2) := by decide +kernel
theorem dL_law_2329 : decode cL_law 2329 = .ok (.ifCond .ne 15, 3) := by decide +kernel
theorem dL_law_2332 : decode cL_law 2332 = .ok (.aload_n 3, 1) := by decide +kernel
theorem dL_law_2333 : decode cL_law 2333 = .ok (.iconst 0, 1) := by decide +kernel
theorem dL_law_2334 : decode cL_law 2334 = .ok (.laload, 1) := by decide +kernel
theorem dL_law_2335 : decode cL_law 2335 = .ok (.iload 6, 2) := by decide +kernel
theorem dL_law_2337 : decode cL_law 2337 = .ok (.i2l, 1) := by decide +kernel
theorem dL_law_2338 : decode cL_law 2338 = .ok (.lcmp, 1) := by decide +kernel
theorem dL_law_2339 : decode cL_law 2339 = .ok (.ifCond .eq 5, 3) := by decide +kernel
theorem dL_law_2342 : decode cL_law 2342 = .ok (.iconst 0, 1) := by decide +kernel
theorem dL_law_2343 : decode cL_law 2343 = .ok (.ireturn, 1) := by decide +kernel
theorem dL_law_2344 : decode cL_law 2344 = .ok (.goto 762, 3) := by decide +kernel
theorem dL_law_2347 : decode cL_law 2347 = .ok (.aload_n 1, 1) := by decide +kernel
theorem dL_law_2348 : decode cL_law 2348 = .ok (.aload_n 0, 1) := by decide +kernel
theorem dL_law_2349 : decode cL_law 2349 = .ok (.iload 4, 2) := by decide +kernel
theorem dL_law_2351 : decode cL_law 2351 = .ok (.iconst 1, 1) := by decide +kernel
theorem dL_law_2352 : decode cL_law 2352 = .ok (.iadd, 1) := by decide +kernel
theorem dL_law_2353 : decode cL_law 2353 = .ok (.iaload, 1) := by decide +kernel
theorem dL_law_2354 : decode cL_law 2354 = .ok (.aload_n 3, 1) := by decide +kernel
theorem dL_law_2355 : decode cL_law 2355 = .ok (.invokestatic 297, 3) := by decide +kernel
theorem dL_law_2358 : decode cL_law 2358 = .ok (.istore 5, 2) := by decide +kernel
theorem dL_law_2360 : decode cL_law 2360 = .ok (.aload_n 2, 1) := by decide +kernel
theorem dL_law_2361 : decode cL_law 2361 = .ok (.aload_n 0, 1) := by decide +kernel
theorem dL_law_2362 : decode cL_law 2362 = .ok (.iload 4, 2) := by decide +kernel
theorem dL_law_2364 : decode cL_law 2364 = .ok (.iconst 1, 1) := by decide +kernel
theorem dL_law_2365 : decode cL_law 2365 = .ok (.iadd, 1) := by decide +kernel
theorem dL_law_2366 : decode cL_law 2366 = .ok (.iaload, 1) := by decide +kernel
theorem dL_law_2367 : decode cL_law 2367 = .ok (.invokevirtual 299, 3) := by decide +kernel
theorem dL_law_2370 : decode cL_law 2370 = .ok (.istore 6, 2) := by decide +kernel
theorem dL_law_2372 : decode cL_law 2372 = .ok (.aload_n 2, 1) := by decide +kernel
theorem dL_law_2373 : decode cL_law 2373 = .ok (.invokevirtual 153, 3) := by decide +kernel
theorem dL_law_2376 : decode cL_law 2376 = .ok (.iload 5, 2) := by decide +kernel
theorem dL_law_2378 : decode cL_law 2378 = .ok (.if_icmp .eq 5, 3) := by decide +kernel
theorem dL_law_2381 : decode cL_law 2381 = .ok (.iconst 0, 1) := by decide +kernel
theorem dL_law_2382 : decode cL_law 2382 = .ok (.ireturn, 1) := by decide +kernel
theorem dL_law_2383 : decode cL_law 2383 = .ok (.iload 5, 2) := by decide +kernel
theorem dL_law_2385 : decode cL_law 2385 = .ok (.ifCond .ne 15, 3) := by decide +kernel
theorem dL_law_2388 : decode cL_law 2388 = .ok (.aload_n 3, 1) := by decide +kernel
theorem dL_law_2389 : decode cL_law 2389 = .ok (.iconst 0, 1) := by decide +kernel
theorem dL_law_2390 : decode cL_law 2390 = .ok (.laload, 1) := by decide +kernel
theorem dL_law_2391 : decode cL_law 2391 = .ok (.iload 6, 2) := by decide +kernel
theorem dL_law_2393 : decode cL_law 2393 = .ok (.i2l, 1) := by decide +kernel
theorem dL_law_2394 : decode cL_law 2394 = .ok (.lcmp, 1) := by decide +kernel
theorem dL_law_2395 : decode cL_law 2395 = .ok (.ifCond .eq 5, 3) := by decide +kernel
theorem dL_law_2398 : decode cL_law 2398 = .ok (.iconst 0, 1) := by decide +kernel
theorem dL_law_2399 : decode cL_law 2399 = .ok (.ireturn, 1) := by decide +kernel
theorem dL_law_2400 : decode cL_law 2400 = .ok (.goto 706, 3) := by decide +kernel
theorem dL_law_2403 : decode cL_law 2403 = .ok (.aload_n 1, 1) := by decide +kernel
theorem dL_law_2404 : decode cL_law 2404 = .ok (.aload_n 0, 1) := by decide +kernel
theorem dL_law_2405 : decode cL_law 2405 = .ok (.iload 4, 2) := by decide +kernel
theorem dL_law_2407 : decode cL_law 2407 = .ok (.iconst 1, 1) := by decide +kernel
theorem dL_law_2408 : decode cL_law 2408 = .ok (.iadd, 1) := by decide +kernel
theorem dL_law_2409 : decode cL_law 2409 = .ok (.iaload, 1) := by decide +kernel
theorem dL_law_2410 : decode cL_law 2410 = .ok (.aload_n 3, 1) := by decide +kernel
theorem dL_law_2411 : decode cL_law 2411 = .ok (.invokestatic 300, 3) := by decide +kernel
theorem dL_law_2414 : decode cL_law 2414 = .ok (.istore 5, 2) := by decide +kernel
theorem dL_law_2416 : decode cL_law 2416 = .ok (.aload_n 2, 1) := by decide +kernel
theorem dL_law_2417 : decode cL_law 2417 = .ok (.aload_n 0, 1) := by decide +kernel
theorem dL_law_2418 : decode cL_law 2418 = .ok (.iload 4, 2) := by decide +kernel
theorem dL_law_2420 : decode cL_law 2420 = .ok (.iconst 1, 1) := by decide +kernel
theorem dL_law_2421 : decode cL_law 2421 = .ok (.iadd, 1) := by decide +kernel
theorem dL_law_2422 : decode cL_law 2422 = .ok (.iaload, 1) := by decide +kernel
theorem dL_law_2423 : decode cL_law 2423 = .ok (.invokevirtual 302, 3) := by decide +kernel
theorem dL_law_2426 : decode cL_law 2426 = .ok (.istore 6, 2) := by decide +kernel
theorem dL_law_2428 : decode cL_law 2428 = .ok (.aload_n 2, 1) := by decide +kernel
theorem dL_law_2429 : decode cL_law 2429 = .ok (.invokevirtual 153, 3) := by decide +kernel
theorem dL_law_2432 : decode cL_law 2432 = .ok (.iload 5, 2) := by decide +kernel
theorem dL_law_2434 : decode cL_law 2434 = .ok (.if_icmp .eq 5, 3) := by decide +kernel
theorem dL_law_2437 : decode cL_law 2437 = .ok (.iconst 0, 1) := by decide +kernel
theorem dL_law_2438 : decode cL_law 2438 = .ok (.ireturn, 1) := by decide +kernel
theorem dL_law_2439 : decode cL_law 2439 = .ok (.iload 5, 2) := by decide +kernel
theorem dL_law_2441 : decode cL_law 2441 = .ok (.ifCond .ne 15, 3) := by decide +kernel
theorem dL_law_2444 : decode cL_law 2444 = .ok (.aload_n 3, 1) := by decide +kernel
theorem dL_law_2445 : decode cL_law 2445 = .ok (.iconst 0, 1) := by decide +kernel
theorem dL_law_2446 : decode cL_law 2446 = .ok (.laload, 1) := by decide +kernel
theorem dL_law_2447 : decode cL_law 2447 = .ok (.iload 6, 2) := by decide +kernel
theorem dL_law_2449 : decode cL_law 2449 = .ok (.i2l, 1) := by decide +kernel
theorem dL_law_2450 : decode cL_law 2450 = .ok (.lcmp, 1) := by decide +kernel
theorem dL_law_2451 : decode cL_law 2451 = .ok (.ifCond .eq 5, 3) := by decide +kernel
theorem dL_law_2454 : decode cL_law 2454 = .ok (.iconst 0, 1) := by decide +kernel
theorem dL_law_2455 : decode cL_law 2455 = .ok (.ireturn, 1) := by decide +kernel
theorem dL_law_2456 : decode cL_law 2456 = .ok (.goto 650, 3) := by decide +kernel
theorem dL_law_2459 : decode cL_law 2459 = .ok (.aload_n 1, 1) := by decide +kernel
theorem dL_law_2460 : decode cL_law 2460 = .ok (.invokevirtual 303, 3) := by decide +kernel
theorem dL_law_2463 : decode cL_law 2463 = .ok (.aload_n 2, 1) := by decide +kernel
theorem dL_law_2464 : decode cL_law 2464 = .ok (.invokevirtual 306, 3) := by decide +kernel
theorem dL_law_2467 : decode cL_law 2467 = .ok (.if_icmp .eq 639, 3) := by decide +kernel
theorem dL_law_2470 : decode cL_law 2470 = .ok (.iconst 0, 1) := by decide +kernel
theorem dL_law_2471 : decode cL_law 2471 = .ok (.ireturn, 1) := by decide +kernel
theorem dL_law_2472 : decode cL_law 2472 = .ok (.aload_n 1, 1) := by decide +kernel
theorem dL_law_2473 : decode cL_law 2473 = .ok (.invokevirtual 307, 3) := by decide +kernel
theorem dL_law_2476 : decode cL_law 2476 = .ok (.aload_n 2, 1) := by decide +kernel
theorem dL_law_2477 : decode cL_law 2477 = .ok (.invokevirtual 310, 3) := by decide +kernel
theorem dL_law_2480 : decode cL_law 2480 = .ok (.if_icmp .eq 626, 3) := by decide +kernel
theorem dL_law_2483 : decode cL_law 2483 = .ok (.iconst 0, 1) := by decide +kernel
theorem dL_law_2484 : decode cL_law 2484 = .ok (.ireturn, 1) := by decide +kernel
theorem dL_law_2485 : decode cL_law 2485 = .ok (.aload_n 1, 1) := by decide +kernel
theorem dL_law_2486 : decode cL_law 2486 = .ok (.invokevirtual 311, 3) := by decide +kernel
theorem dL_law_2489 : decode cL_law 2489 = .ok (.aload_n 2, 1) := by decide +kernel
theorem dL_law_2490 : decode cL_law 2490 = .ok (.invokevirtual 314, 3) := by decide +kernel
theorem dL_law_2493 : decode cL_law 2493 = .ok (.if_icmp .eq 613, 3) := by decide +kernel
theorem dL_law_2496 : decode cL_law 2496 = .ok (.iconst 0, 1) := by decide +kernel
theorem dL_law_2497 : decode cL_law 2497 = .ok (.ireturn, 1) := by decide +kernel
theorem dL_law_2498 : decode cL_law 2498 = .ok (.aload_n 1, 1) := by decide +kernel
theorem dL_law_2499 : decode cL_law 2499 = .ok (.invokevirtual 315, 3) := by decide +kernel
theorem dL_law_2502 : decode cL_law 2502 = .ok (.dstore 5, 2) := by decide +kernel
theorem dL_law_2504 : decode cL_law 2504 = .ok (.aload_n 2, 1) := by decide +kernel
theorem dL_law_2505 : decode cL_law 2505 = .ok (.invokevirtual 319, 3) := by decide +kernel
theorem dL_law_2508 : decode cL_law 2508 = .ok (.dstore 7, 2) := by decide +kernel
theorem dL_law_2510 : decode cL_law 2510 = .ok (.dload 5, 2) := by decide +kernel
theorem dL_law_2512 : decode cL_law 2512 = .ok (.dload 7, 2) := by decide +kernel
theorem dL_law_2514 : decode cL_law 2514 = .ok (.dcmp .l, 1) := by decide +kernel
theorem dL_law_2515 : decode cL_law 2515 = .ok (.ifCond .eq 21, 3) := by decide +kernel
theorem dL_law_2518 : decode cL_law 2518 = .ok (.dload 5, 2) := by decide +kernel
theorem dL_law_2520 : decode cL_law 2520 = .ok (.dload 5, 2) := by decide +kernel
theorem dL_law_2522 : decode cL_law 2522 = .ok (.dcmp .l, 1) := by decide +kernel
theorem dL_law_2523 : decode cL_law 2523 = .ok (.ifCond .eq 11, 3) := by decide +kernel
theorem dL_law_2526 : decode cL_law 2526 = .ok (.dload 7, 2) := by decide +kernel
theorem dL_law_2528 : decode cL_law 2528 = .ok (.dload 7, 2) := by decide +kernel
theorem dL_law_2530 : decode cL_law 2530 = .ok (.dcmp .l, 1) := by decide +kernel
theorem dL_law_2531 : decode cL_law 2531 = .ok (.ifCond .ne 5, 3) := by decide +kernel
theorem dL_law_2534 : decode cL_law 2534 = .ok (.iconst 0, 1) := by decide +kernel
theorem dL_law_2535 : decode cL_law 2535 = .ok (.ireturn, 1) := by decide +kernel
theorem dL_law_2536 : decode cL_law 2536 = .ok (.goto 570, 3) := by decide +kernel
theorem dL_law_2539 : decode cL_law 2539 = .ok (.aload_n 1, 1) := by decide +kernel
theorem dL_law_2540 : decode cL_law 2540 = .ok (.invokevirtual 320, 3) := by decide +kernel
theorem dL_law_2543 : decode cL_law 2543 = .ok (.f2d, 1) := by decide +kernel
theorem dL_law_2544 : decode cL_law 2544 = .ok (.dstore 5, 2) := by decide +kernel
theorem dL_law_2546 : decode cL_law 2546 = .ok (.aload_n 2, 1) := by decide +kernel
theorem dL_law_2547 : decode cL_law 2547 = .ok (.invokevirtual 324, 3) := by decide +kernel
theorem dL_law_2550 : decode cL_law 2550 = .ok (.f2d, 1) := by decide +kernel
theorem dL_law_2551 : decode cL_law 2551 = .ok (.dstore 7, 2) := by decide +kernel
theorem dL_law_2553 : decode cL_law 2553 = .ok (.dload 5, 2) := by decide +kernel
theorem dL_law_2555 : decode cL_law 2555 = .ok (.dload 7, 2) := by decide +kernel
theorem dL_law_2557 : decode cL_law 2557 = .ok (.dcmp .l, 1) := by decide +kernel
theorem dL_law_2558 : decode cL_law 2558 = .ok (.ifCond .eq 21, 3) := by decide +kernel
theorem dL_law_2561 : decode cL_law 2561 = .ok (.dload 5, 2) := by decide +kernel
theorem dL_law_2563 : decode cL_law 2563 = .ok (.dload 5, 2) := by decide +kernel
theorem dL_law_2565 : decode cL_law 2565 = .ok (.dcmp .l, 1) := by decide +kernel
theorem dL_law_2566 : decode cL_law 2566 = .ok (.ifCond .eq 11, 3) := by decide +kernel
theorem dL_law_2569 : decode cL_law 2569 = .ok (.dload 7, 2) := by decide +kernel
theorem dL_law_2571 : decode cL_law 2571 = .ok (.dload 7, 2) := by decide +kernel
theorem dL_law_2573 : decode cL_law 2573 = .ok (.dcmp .l, 1) := by decide +kernel
theorem dL_law_2574 : decode cL_law 2574 = .ok (.ifCond .ne 5, 3) := by decide +kernel
theorem dL_law_2577 : decode cL_law 2577 = .ok (.iconst 0, 1) := by decide +kernel
theorem dL_law_2578 : decode cL_law 2578 = .ok (.ireturn, 1) := by decide +kernel
theorem dL_law_2579 : decode cL_law 2579 = .ok (.goto 527, 3) := by decide +kernel
theorem dL_law_2582 : decode cL_law 2582 = .ok (.aload_n 1, 1) := by decide +kernel
theorem dL_law_2583 : decode cL_law 2583 = .ok (.aload_n 0, 1) := by decide +kernel
theorem dL_law_2584 : decode cL_law 2584 = .ok (.iload 4, 2) := by decide +kernel
theorem dL_law_2586 : decode cL_law 2586 = .ok (.iconst 1, 1) := by decide +kernel
theorem dL_law_2587 : decode cL_law 2587 = .ok (.iadd, 1) := by decide +kernel
theorem dL_law_2588 : decode cL_law 2588 = .ok (.iaload, 1) := by decide +kernel
theorem dL_law_2589 : decode cL_law 2589 = .ok (.aload_n 3, 1) := by decide +kernel
theorem dL_law_2590 : decode cL_law 2590 = .ok (.invokestatic 325, 3) := by decide +kernel
theorem dL_law_2593 : decode cL_law 2593 = .ok (.istore 5, 2) := by decide +kernel
theorem dL_law_2595 : decode cL_law 2595 = .ok (.aload_n 2, 1) := by decide +kernel
theorem dL_law_2596 : decode cL_law 2596 = .ok (.aload_n 0, 1) := by decide +kernel
theorem dL_law_2597 : decode cL_law 2597 = .ok (.iload 4, 2) := by decide +kernel
theorem dL_law_2599 : decode cL_law 2599 = .ok (.iconst 1, 1) := by decide +kernel
theorem dL_law_2600 : decode cL_law 2600 = .ok (.iadd, 1) := by decide +kernel
theorem dL_law_2601 : decode cL_law 2601 = .ok (.iaload, 1) := by decide +kernel
theorem dL_law_2602 : decode cL_law 2602 = .ok (.invokevirtual 327, 3) := by decide +kernel
theorem dL_law_2605 : decode cL_law 2605 = .ok (.istore 6, 2) := by decide +kernel
theorem dL_law_2607 : decode cL_law 2607 = .ok (.aload_n 2, 1) := by decide +kernel
theorem dL_law_2608 : decode cL_law 2608 = .ok (.invokevirtual 153, 3) := by decide +kernel
theorem dL_law_2611 : decode cL_law 2611 = .ok (.iload 5, 2) := by decide +kernel
theorem dL_law_2613 : decode cL_law 2613 = .ok (.if_icmp .eq 5, 3) := by decide +kernel
theorem dL_law_2616 : decode cL_law 2616 = .ok (.iconst 0, 1) := by decide +kernel
theorem dL_law_2617 : decode cL_law 2617 = .ok (.ireturn, 1) := by decide +kernel
theorem dL_law_2618 : decode cL_law 2618 = .ok (.iload 5, 2) := by decide +kernel
theorem dL_law_2620 : decode cL_law 2620 = .ok (.ifCond .ne 15, 3) := by decide +kernel
theorem dL_law_2623 : decode cL_law 2623 = .ok (.aload_n 3, 1) := by decide +kernel
theorem dL_law_2624 : decode cL_law 2624 = .ok (.iconst 0, 1) := by decide +kernel
theorem dL_law_2625 : decode cL_law 2625 = .ok (.laload, 1) := by decide +kernel
theorem dL_law_2626 : decode cL_law 2626 = .ok (.iload 6, 2) := by decide +kernel
theorem dL_law_2628 : decode cL_law 2628 = .ok (.i2l, 1) := by decide +kernel
theorem dL_law_2629 : decode cL_law 2629 = .ok (.lcmp, 1) := by decide +kernel
theorem dL_law_2630 : decode cL_law 2630 = .ok (.ifCond .eq 5, 3) := by decide +kernel
theorem dL_law_2633 : decode cL_law 2633 = .ok (.iconst 0, 1) := by decide +kernel
theorem dL_law_2634 : decode cL_law 2634 = .ok (.ireturn, 1) := by decide +kernel
theorem dL_law_2635 : decode cL_law 2635 = .ok (.goto 471, 3) := by decide +kernel
theorem dL_law_2638 : decode cL_law 2638 = .ok (.aload_n 1, 1) := by decide +kernel
theorem dL_law_2639 : decode cL_law 2639 = .ok (.invokevirtual 328, 3) := by decide +kernel
theorem dL_law_2642 : decode cL_law 2642 = .ok (.aload_n 2, 1) := by decide +kernel
theorem dL_law_2643 : decode cL_law 2643 = .ok (.invokevirtual 331, 3) := by decide +kernel
theorem dL_law_2646 : decode cL_law 2646 = .ok (.if_icmp .eq 460, 3) := by decide +kernel
theorem dL_law_2649 : decode cL_law 2649 = .ok (.iconst 0, 1) := by decide +kernel
theorem dL_law_2650 : decode cL_law 2650 = .ok (.ireturn, 1) := by decide +kernel
theorem dL_law_2651 : decode cL_law 2651 = .ok (.aload_n 1, 1) := by decide +kernel
theorem dL_law_2652 : decode cL_law 2652 = .ok (.aload_n 0, 1) := by decide +kernel
theorem dL_law_2653 : decode cL_law 2653 = .ok (.iload 4, 2) := by decide +kernel
theorem dL_law_2655 : decode cL_law 2655 = .ok (.iconst 1, 1) := by decide +kernel
theorem dL_law_2656 : decode cL_law 2656 = .ok (.iadd, 1) := by decide +kernel
theorem dL_law_2657 : decode cL_law 2657 = .ok (.iaload, 1) := by decide +kernel
theorem dL_law_2658 : decode cL_law 2658 = .ok (.aload_n 0, 1) := by decide +kernel
theorem dL_law_2659 : decode cL_law 2659 = .ok (.iload 4, 2) := by decide +kernel
theorem dL_law_2661 : decode cL_law 2661 = .ok (.iconst 2, 1) := by decide +kernel
theorem dL_law_2662 : decode cL_law 2662 = .ok (.iadd, 1) := by decide +kernel
theorem dL_law_2663 : decode cL_law 2663 = .ok (.iaload, 1) := by decide +kernel
theorem dL_law_2664 : decode cL_law 2664 = .ok (.aload_n 3, 1) := by decide +kernel
theorem dL_law_2665 : decode cL_law 2665 = .ok (.invokestatic 332, 3) := by decide +kernel
theorem dL_law_2668 : decode cL_law 2668 = .ok (.istore 5, 2) := by decide +kernel
theorem dL_law_2670 : decode cL_law 2670 = .ok (.aload_n 2, 1) := by decide +kernel
theorem dL_law_2671 : decode cL_law 2671 = .ok (.aload_n 0, 1) := by decide +kernel
theorem dL_law_2672 : decode cL_law 2672 = .ok (.iload 4, 2) := by decide +kernel
theorem dL_law_2674 : decode cL_law 2674 = .ok (.iconst 1, 1) := by decide +kernel
theorem dL_law_2675 : decode cL_law 2675 = .ok (.iadd, 1) := by decide +kernel
theorem dL_law_2676 : decode cL_law 2676 = .ok (.iaload, 1) := by decide +kernel
theorem dL_law_2677 : decode cL_law 2677 = .ok (.aload_n 0, 1) := by decide +kernel
theorem dL_law_2678 : decode cL_law 2678 = .ok (.iload 4, 2) := by decide +kernel
theorem dL_law_2680 : decode cL_law 2680 = .ok (.iconst 2, 1) := by decide +kernel
theorem dL_law_2681 : decode cL_law 2681 = .ok (.iadd, 1) := by decide +kernel
theorem dL_law_2682 : decode cL_law 2682 = .ok (.iaload, 1) := by decide +kernel
theorem dL_law_2683 : decode cL_law 2683 = .ok (.invokevirtual 334, 3) := by decide +kernel
theorem dL_law_2686 : decode cL_law 2686 = .ok (.istore 6, 2) := by decide +kernel
theorem dL_law_2688 : decode cL_law 2688 = .ok (.aload_n 2, 1) := by decide +kernel
theorem dL_law_2689 : decode cL_law 2689 = .ok (.invokevirtual 153, 3) := by decide +kernel
theorem dL_law_2692 : decode cL_law 2692 = .ok (.iload 5, 2) := by decide +kernel
theorem dL_law_2694 : decode cL_law 2694 = .ok (.if_icmp .eq 5, 3) := by decide +kernel
theorem dL_law_2697 : decode cL_law 2697 = .ok (.iconst 0, 1) := by decide +kernel
theorem dL_law_2698 : decode cL_law 2698 = .ok (.ireturn, 1) := by decide +kernel
theorem dL_law_2699 : decode cL_law 2699 = .ok (.iload 5, 2) := by decide +kernel
theorem dL_law_2701 : decode cL_law 2701 = .ok (.ifCond .ne 15, 3) := by decide +kernel
theorem dL_law_2704 : decode cL_law 2704 = .ok (.aload_n 3, 1) := by decide +kernel
theorem dL_law_2705 : decode cL_law 2705 = .ok (.iconst 0, 1) := by decide +kernel
theorem dL_law_2706 : decode cL_law 2706 = .ok (.laload, 1) := by decide +kernel
theorem dL_law_2707 : decode cL_law 2707 = .ok (.iload 6, 2) := by decide +kernel
theorem dL_law_2709 : decode cL_law 2709 = .ok (.i2l, 1) := by decide +kernel
theorem dL_law_2710 : decode cL_law 2710 = .ok (.lcmp, 1) := by decide +kernel
theorem dL_law_2711 : decode cL_law 2711 = .ok (.ifCond .eq 5, 3) := by decide +kernel
theorem dL_law_2714 : decode cL_law 2714 = .ok (.iconst 0, 1) := by decide +kernel
theorem dL_law_2715 : decode cL_law 2715 = .ok (.ireturn, 1) := by decide +kernel
theorem dL_law_2716 : decode cL_law 2716 = .ok (.goto 390, 3) := by decide +kernel
theorem dL_law_2719 : decode cL_law 2719 = .ok (.aload_n 1, 1) := by decide +kernel
theorem dL_law_2720 : decode cL_law 2720 = .ok (.aload_n 0, 1) := by decide +kernel
theorem dL_law_2721 : decode cL_law 2721 = .ok (.iload 4, 2) := by decide +kernel
theorem dL_law_2723 : decode cL_law 2723 = .ok (.iconst 1, 1) := by decide +kernel
theorem dL_law_2724 : decode cL_law 2724 = .ok (.iadd, 1) := by decide +kernel
theorem dL_law_2725 : decode cL_law 2725 = .ok (.iaload, 1) := by decide +kernel
theorem dL_law_2726 : decode cL_law 2726 = .ok (.aload_n 3, 1) := by decide +kernel
theorem dL_law_2727 : decode cL_law 2727 = .ok (.invokestatic 335, 3) := by decide +kernel
theorem dL_law_2730 : decode cL_law 2730 = .ok (.istore 5, 2) := by decide +kernel
theorem dL_law_2732 : decode cL_law 2732 = .ok (.aload_n 2, 1) := by decide +kernel
theorem dL_law_2733 : decode cL_law 2733 = .ok (.aload_n 0, 1) := by decide +kernel
theorem dL_law_2734 : decode cL_law 2734 = .ok (.iload 4, 2) := by decide +kernel
theorem dL_law_2736 : decode cL_law 2736 = .ok (.iconst 1, 1) := by decide +kernel
theorem dL_law_2737 : decode cL_law 2737 = .ok (.iadd, 1) := by decide +kernel
theorem dL_law_2738 : decode cL_law 2738 = .ok (.iaload, 1) := by decide +kernel
theorem dL_law_2739 : decode cL_law 2739 = .ok (.invokevirtual 337, 3) := by decide +kernel
theorem dL_law_2742 : decode cL_law 2742 = .ok (.istore 6, 2) := by decide +kernel
theorem dL_law_2744 : decode cL_law 2744 = .ok (.aload_n 2, 1) := by decide +kernel
theorem dL_law_2745 : decode cL_law 2745 = .ok (.invokevirtual 153, 3) := by decide +kernel
theorem dL_law_2748 : decode cL_law 2748 = .ok (.iload 5, 2) := by decide +kernel
theorem dL_law_2750 : decode cL_law 2750 = .ok (.if_icmp .eq 5, 3) := by decide +kernel
theorem dL_law_2753 : decode cL_law 2753 = .ok (.iconst 0, 1) := by decide +kernel
theorem dL_law_2754 : decode cL_law 2754 = .ok (.ireturn, 1) := by decide +kernel
theorem dL_law_2755 : decode cL_law 2755 = .ok (.iload 5, 2) := by decide +kernel
theorem dL_law_2757 : decode cL_law 2757 = .ok (.ifCond .ne 15, 3) := by decide +kernel
theorem dL_law_2760 : decode cL_law 2760 = .ok (.aload_n 3, 1) := by decide +kernel
theorem dL_law_2761 : decode cL_law 2761 = .ok (.iconst 0, 1) := by decide +kernel
theorem dL_law_2762 : decode cL_law 2762 = .ok (.laload, 1) := by decide +kernel
theorem dL_law_2763 : decode cL_law 2763 = .ok (.iload 6, 2) := by decide +kernel
theorem dL_law_2765 : decode cL_law 2765 = .ok (.i2l, 1) := by decide +kernel
theorem dL_law_2766 : decode cL_law 2766 = .ok (.lcmp, 1) := by decide +kernel
theorem dL_law_2767 : decode cL_law 2767 = .ok (.ifCond .eq 5, 3) := by decide +kernel
theorem dL_law_2770 : decode cL_law 2770 = .ok (.iconst 0, 1) := by decide +kernel
theorem dL_law_2771 : decode cL_law 2771 = .ok (.ireturn, 1) := by decide +kernel
theorem dL_law_2772 : decode cL_law 2772 = .ok (.goto 334, 3) := by decide +kernel
theorem dL_law_2775 : decode cL_law 2775 = .ok (.aload_n 1, 1) := by decide +kernel
theorem dL_law_2776 : decode cL_law 2776 = .ok (.aload_n 0, 1) := by decide +kernel
theorem dL_law_2777 : decode cL_law 2777 = .ok (.iload 4, 2) := by decide +kernel
theorem dL_law_2779 : decode cL_law 2779 = .ok (.iconst 1, 1) := by decide +kernel
theorem dL_law_2780 : decode cL_law 2780 = .ok (.iadd, 1) := by decide +kernel
theorem dL_law_2781 : decode cL_law 2781 = .ok (.iaload, 1) := by decide +kernel
theorem dL_law_2782 : decode cL_law 2782 = .ok (.aload_n 0, 1) := by decide +kernel
theorem dL_law_2783 : decode cL_law 2783 = .ok (.iload 4, 2) := by decide +kernel
theorem dL_law_2785 : decode cL_law 2785 = .ok (.iconst 2, 1) := by decide +kernel
theorem dL_law_2786 : decode cL_law 2786 = .ok (.iadd, 1) := by decide +kernel
theorem dL_law_2787 : decode cL_law 2787 = .ok (.iaload, 1) := by decide +kernel
theorem dL_law_2788 : decode cL_law 2788 = .ok (.aload_n 3, 1) := by decide +kernel
theorem dL_law_2789 : decode cL_law 2789 = .ok (.invokestatic 338, 3) := by decide +kernel
theorem dL_law_2792 : decode cL_law 2792 = .ok (.istore 5, 2) := by decide +kernel
theorem dL_law_2794 : decode cL_law 2794 = .ok (.aload_n 2, 1) := by decide +kernel
theorem dL_law_2795 : decode cL_law 2795 = .ok (.aload_n 0, 1) := by decide +kernel
theorem dL_law_2796 : decode cL_law 2796 = .ok (.iload 4, 2) := by decide +kernel
theorem dL_law_2798 : decode cL_law 2798 = .ok (.iconst 1, 1) := by decide +kernel
theorem dL_law_2799 : decode cL_law 2799 = .ok (.iadd, 1) := by decide +kernel
theorem dL_law_2800 : decode cL_law 2800 = .ok (.iaload, 1) := by decide +kernel
theorem dL_law_2801 : decode cL_law 2801 = .ok (.aload_n 0, 1) := by decide +kernel
theorem dL_law_2802 : decode cL_law 2802 = .ok (.iload 4, 2) := by decide +kernel
theorem dL_law_2804 : decode cL_law 2804 = .ok (.iconst 2, 1) := by decide +kernel
theorem dL_law_2805 : decode cL_law 2805 = .ok (.iadd, 1) := by decide +kernel
theorem dL_law_2806 : decode cL_law 2806 = .ok (.iaload, 1) := by decide +kernel
theorem dL_law_2807 : decode cL_law 2807 = .ok (.invokevirtual 340, 3) := by decide +kernel
theorem dL_law_2810 : decode cL_law 2810 = .ok (.istore 6, 2) := by decide +kernel
theorem dL_law_2812 : decode cL_law 2812 = .ok (.aload_n 2, 1) := by decide +kernel
theorem dL_law_2813 : decode cL_law 2813 = .ok (.invokevirtual 153, 3) := by decide +kernel
theorem dL_law_2816 : decode cL_law 2816 = .ok (.iload 5, 2) := by decide +kernel
theorem dL_law_2818 : decode cL_law 2818 = .ok (.if_icmp .eq 5, 3) := by decide +kernel
theorem dL_law_2821 : decode cL_law 2821 = .ok (.iconst 0, 1) := by decide +kernel
theorem dL_law_2822 : decode cL_law 2822 = .ok (.ireturn, 1) := by decide +kernel
theorem dL_law_2823 : decode cL_law 2823 = .ok (.iload 5, 2) := by decide +kernel
theorem dL_law_2825 : decode cL_law 2825 = .ok (.ifCond .ne 15, 3) := by decide +kernel
theorem dL_law_2828 : decode cL_law 2828 = .ok (.aload_n 3, 1) := by decide +kernel
theorem dL_law_2829 : decode cL_law 2829 = .ok (.iconst 0, 1) := by decide +kernel
theorem dL_law_2830 : decode cL_law 2830 = .ok (.laload, 1) := by decide +kernel
theorem dL_law_2831 : decode cL_law 2831 = .ok (.iload 6, 2) := by decide +kernel
theorem dL_law_2833 : decode cL_law 2833 = .ok (.i2l, 1) := by decide +kernel
theorem dL_law_2834 : decode cL_law 2834 = .ok (.lcmp, 1) := by decide +kernel
theorem dL_law_2835 : decode cL_law 2835 = .ok (.ifCond .eq 5, 3) := by decide +kernel
theorem dL_law_2838 : decode cL_law 2838 = .ok (.iconst 0, 1) := by decide +kernel
theorem dL_law_2839 : decode cL_law 2839 = .ok (.ireturn, 1) := by decide +kernel
theorem dL_law_2840 : decode cL_law 2840 = .ok (.goto 266, 3) := by decide +kernel
theorem dL_law_2843 : decode cL_law 2843 = .ok (.aload_n 1, 1) := by decide +kernel
theorem dL_law_2844 : decode cL_law 2844 = .ok (.aload_n 0, 1) := by decide +kernel
theorem dL_law_2845 : decode cL_law 2845 = .ok (.iload 4, 2) := by decide +kernel
theorem dL_law_2847 : decode cL_law 2847 = .ok (.iconst 1, 1) := by decide +kernel
theorem dL_law_2848 : decode cL_law 2848 = .ok (.iadd, 1) := by decide +kernel
theorem dL_law_2849 : decode cL_law 2849 = .ok (.iaload, 1) := by decide +kernel
theorem dL_law_2850 : decode cL_law 2850 = .ok (.aload_n 0, 1) := by decide +kernel
theorem dL_law_2851 : decode cL_law 2851 = .ok (.iload 4, 2) := by decide +kernel
theorem dL_law_2853 : decode cL_law 2853 = .ok (.iconst 2, 1) := by decide +kernel
theorem dL_law_2854 : decode cL_law 2854 = .ok (.iadd, 1) := by decide +kernel
theorem dL_law_2855 : decode cL_law 2855 = .ok (.iaload, 1) := by decide +kernel
theorem dL_law_2856 : decode cL_law 2856 = .ok (.aload_n 3, 1) := by decide +kernel
theorem dL_law_2857 : decode cL_law 2857 = .ok (.invokestatic 341, 3) := by decide +kernel
theorem dL_law_2860 : decode cL_law 2860 = .ok (.istore 5, 2) := by decide +kernel
theorem dL_law_2862 : decode cL_law 2862 = .ok (.aload_n 2, 1) := by decide +kernel
theorem dL_law_2863 : decode cL_law 2863 = .ok (.aload_n 0, 1) := by decide +kernel
theorem dL_law_2864 : decode cL_law 2864 = .ok (.iload 4, 2) := by decide +kernel
theorem dL_law_2866 : decode cL_law 2866 = .ok (.iconst 1, 1) := by decide +kernel
theorem dL_law_2867 : decode cL_law 2867 = .ok (.iadd, 1) := by decide +kernel
theorem dL_law_2868 : decode cL_law 2868 = .ok (.iaload, 1) := by decide +kernel
theorem dL_law_2869 : decode cL_law 2869 = .ok (.aload_n 0, 1) := by decide +kernel
theorem dL_law_2870 : decode cL_law 2870 = .ok (.iload 4, 2) := by decide +kernel
theorem dL_law_2872 : decode cL_law 2872 = .ok (.iconst 2, 1) := by decide +kernel
theorem dL_law_2873 : decode cL_law 2873 = .ok (.iadd, 1) := by decide +kernel
theorem dL_law_2874 : decode cL_law 2874 = .ok (.iaload, 1) := by decide +kernel
theorem dL_law_2875 : decode cL_law 2875 = .ok (.invokevirtual 343, 3) := by decide +kernel
theorem dL_law_2878 : decode cL_law 2878 = .ok (.istore 6, 2) := by decide +kernel
theorem dL_law_2880 : decode cL_law 2880 = .ok (.aload_n 2, 1) := by decide +kernel
theorem dL_law_2881 : decode cL_law 2881 = .ok (.invokevirtual 153, 3) := by decide +kernel
theorem dL_law_2884 : decode cL_law 2884 = .ok (.iload 5, 2) := by decide +kernel
theorem dL_law_2886 : decode cL_law 2886 = .ok (.if_icmp .eq 5, 3) := by decide +kernel
theorem dL_law_2889 : decode cL_law 2889 = .ok (.iconst 0, 1) := by decide +kernel
theorem dL_law_2890 : decode cL_law 2890 = .ok (.ireturn, 1) := by decide +kernel
theorem dL_law_2891 : decode cL_law 2891 = .ok (.iload 5, 2) := by decide +kernel
theorem dL_law_2893 : decode cL_law 2893 = .ok (.ifCond .ne 15, 3) := by decide +kernel
theorem dL_law_2896 : decode cL_law 2896 = .ok (.aload_n 3, 1) := by decide +kernel
theorem dL_law_2897 : decode cL_law 2897 = .ok (.iconst 0, 1) := by decide +kernel
theorem dL_law_2898 : decode cL_law 2898 = .ok (.laload, 1) := by decide +kernel
theorem dL_law_2899 : decode cL_law 2899 = .ok (.iload 6, 2) := by decide +kernel
theorem dL_law_2901 : decode cL_law 2901 = .ok (.i2l, 1) := by decide +kernel
theorem dL_law_2902 : decode cL_law 2902 = .ok (.lcmp, 1) := by decide +kernel
theorem dL_law_2903 : decode cL_law 2903 = .ok (.ifCond .eq 5, 3) := by decide +kernel
theorem dL_law_2906 : decode cL_law 2906 = .ok (.iconst 0, 1) := by decide +kernel
theorem dL_law_2907 : decode cL_law 2907 = .ok (.ireturn, 1) := by decide +kernel
theorem dL_law_2908 : decode cL_law 2908 = .ok (.goto 198, 3) := by decide +kernel
theorem dL_law_2911 : decode cL_law 2911 = .ok (.aload_n 1, 1) := by decide +kernel
theorem dL_law_2912 : decode cL_law 2912 = .ok (.aload_n 0, 1) := by decide +kernel
theorem dL_law_2913 : decode cL_law 2913 = .ok (.iload 4, 2) := by decide +kernel
theorem dL_law_2915 : decode cL_law 2915 = .ok (.iconst 1, 1) := by decide +kernel
theorem dL_law_2916 : decode cL_law 2916 = .ok (.iadd, 1) := by decide +kernel
theorem dL_law_2917 : decode cL_law 2917 = .ok (.iaload, 1) := by decide +kernel
theorem dL_law_2918 : decode cL_law 2918 = .ok (.aload_n 3, 1) := by decide +kernel
theorem dL_law_2919 : decode cL_law 2919 = .ok (.invokestatic 344, 3) := by decide +kernel
theorem dL_law_2922 : decode cL_law 2922 = .ok (.istore 5, 2) := by decide +kernel
theorem dL_law_2924 : decode cL_law 2924 = .ok (.aload_n 2, 1) := by decide +kernel
theorem dL_law_2925 : decode cL_law 2925 = .ok (.aload_n 0, 1) := by decide +kernel
theorem dL_law_2926 : decode cL_law 2926 = .ok (.iload 4, 2) := by decide +kernel
theorem dL_law_2928 : decode cL_law 2928 = .ok (.iconst 1, 1) := by decide +kernel
theorem dL_law_2929 : decode cL_law 2929 = .ok (.iadd, 1) := by decide +kernel
theorem dL_law_2930 : decode cL_law 2930 = .ok (.iaload, 1) := by decide +kernel
theorem dL_law_2931 : decode cL_law 2931 = .ok (.invokevirtual 346, 3) := by decide +kernel
theorem dL_law_2934 : decode cL_law 2934 = .ok (.istore 6, 2) := by decide +kernel
theorem dL_law_2936 : decode cL_law 2936 = .ok (.aload_n 2, 1) := by decide +kernel
theorem dL_law_2937 : decode cL_law 2937 = .ok (.invokevirtual 153, 3) := by decide +kernel
theorem dL_law_2940 : decode cL_law 2940 = .ok (.iload 5, 2) := by decide +kernel
theorem dL_law_2942 : decode cL_law 2942 = .ok (.if_icmp .eq 5, 3) := by decide +kernel
theorem dL_law_2945 : decode cL_law 2945 = .ok (.iconst 0, 1) := by decide +kernel
theorem dL_law_2946 : decode cL_law 2946 = .ok (.ireturn, 1) := by decide +kernel
theorem dL_law_2947 : decode cL_law 2947 = .ok (.iload 5, 2) := by decide +kernel
theorem dL_law_2949 : decode cL_law 2949 = .ok (.ifCond .ne 15, 3) := by decide +kernel
theorem dL_law_2952 : decode cL_law 2952 = .ok (.aload_n 3, 1) := by decide +kernel
theorem dL_law_2953 : decode cL_law 2953 = .ok (.iconst 0, 1) := by decide +kernel
theorem dL_law_2954 : decode cL_law 2954 = .ok (.laload, 1) := by decide +kernel
theorem dL_law_2955 : decode cL_law 2955 = .ok (.iload 6, 2) := by decide +kernel
theorem dL_law_2957 : decode cL_law 2957 = .ok (.i2l, 1) := by decide +kernel
theorem dL_law_2958 : decode cL_law 2958 = .ok (.lcmp, 1) := by decide +kernel
theorem dL_law_2959 : decode cL_law 2959 = .ok (.ifCond .eq 5, 3) := by decide +kernel
theorem dL_law_2962 : decode cL_law 2962 = .ok (.iconst 0, 1) := by decide +kernel
theorem dL_law_2963 : decode cL_law 2963 = .ok (.ireturn, 1) := by decide +kernel
theorem dL_law_2964 : decode cL_law 2964 = .ok (.goto 142, 3) := by decide +kernel
theorem dL_law_2967 : decode cL_law 2967 = .ok (.aload_n 1, 1) := by decide +kernel
theorem dL_law_2968 : decode cL_law 2968 = .ok (.aload_n 3, 1) := by decide +kernel
theorem dL_law_2969 : decode cL_law 2969 = .ok (.invokestatic 347, 3) := by decide +kernel
theorem dL_law_2972 : decode cL_law 2972 = .ok (.istore 5, 2) := by decide +kernel
theorem dL_law_2974 : decode cL_law 2974 = .ok (.aload_n 2, 1) := by decide +kernel
theorem dL_law_2975 : decode cL_law 2975 = .ok (.invokevirtual 349, 3) := by decide +kernel
theorem dL_law_2978 : decode cL_law 2978 = .ok (.istore 6, 2) := by decide +kernel
theorem dL_law_2980 : decode cL_law 2980 = .ok (.aload_n 2, 1) := by decide +kernel
theorem dL_law_2981 : decode cL_law 2981 = .ok (.invokevirtual 153, 3) := by decide +kernel
theorem dL_law_2984 : decode cL_law 2984 = .ok (.iload 5, 2) := by decide +kernel
theorem dL_law_2986 : decode cL_law 2986 = .ok (.if_icmp .eq 5, 3) := by decide +kernel
theorem dL_law_2989 : decode cL_law 2989 = .ok (.iconst 0, 1) := by decide +kernel
theorem dL_law_2990 : decode cL_law 2990 = .ok (.ireturn, 1) := by decide +kernel
theorem dL_law_2991 : decode cL_law 2991 = .ok (.iload 5, 2) := by decide +kernel
theorem dL_law_2993 : decode cL_law 2993 = .ok (.ifCond .ne 15, 3) := by decide +kernel
theorem dL_law_2996 : decode cL_law 2996 = .ok (.aload_n 3, 1) := by decide +kernel
theorem dL_law_2997 : decode cL_law 2997 = .ok (.iconst 0, 1) := by decide +kernel
theorem dL_law_2998 : decode cL_law 2998 = .ok (.laload, 1) := by decide +kernel
theorem dL_law_2999 : decode cL_law 2999 = .ok (.iload 6, 2) := by decide +kernel
theorem dL_law_3001 : decode cL_law 3001 = .ok (.i2l, 1) := by decide +kernel
theorem dL_law_3002 : decode cL_law 3002 = .ok (.lcmp, 1) := by decide +kernel
theorem dL_law_3003 : decode cL_law 3003 = .ok (.ifCond .eq 5, 3) := by decide +kernel
theorem dL_law_3006 : decode cL_law 3006 = .ok (.iconst 0, 1) := by decide +kernel
theorem dL_law_3007 : decode cL_law 3007 = .ok (.ireturn, 1) := by decide +kernel
theorem dL_law_3008 : decode cL_law 3008 = .ok (.goto 98, 3) := by decide +kernel
theorem dL_law_3011 : decode cL_law 3011 = .ok (.aload_n 1, 1) := by decide +kernel
theorem dL_law_3012 : decode cL_law 3012 = .ok (.invokevirtual 350, 3) := by decide +kernel
theorem dL_law_3015 : decode cL_law 3015 = .ok (.aload_n 2, 1) := by decide +kernel
theorem dL_law_3016 : decode cL_law 3016 = .ok (.invokevirtual 353, 3) := by decide +kernel
theorem dL_law_3019 : decode cL_law 3019 = .ok (.if_icmp .eq 87, 3) := by decide +kernel
theorem dL_law_3022 : decode cL_law 3022 = .ok (.iconst 0, 1) := by decide +kernel
theorem dL_law_3023 : decode cL_law 3023 = .ok (.ireturn, 1) := by decide +kernel
theorem dL_law_3024 : decode cL_law 3024 = .ok (.aload_n 1, 1) := by decide +kernel
theorem dL_law_3025 : decode cL_law 3025 = .ok (.aload_n 3, 1) := by decide +kernel
theorem dL_law_3026 : decode cL_law 3026 = .ok (.invokestatic 354, 3) := by decide +kernel
theorem dL_law_3029 : decode cL_law 3029 = .ok (.istore 5, 2) := by decide +kernel
theorem dL_law_3031 : decode cL_law 3031 = .ok (.aload_n 2, 1) := by decide +kernel
theorem dL_law_3032 : decode cL_law 3032 = .ok (.invokevirtual 356, 3) := by decide +kernel
theorem dL_law_3035 : decode cL_law 3035 = .ok (.istore 6, 2) := by decide +kernel
theorem dL_law_3037 : decode cL_law 3037 = .ok (.aload_n 2, 1) := by decide +kernel
theorem dL_law_3038 : decode cL_law 3038 = .ok (.invokevirtual 153, 3) := by decide +kernel
theorem dL_law_3041 : decode cL_law 3041 = .ok (.iload 5, 2) := by decide +kernel
theorem dL_law_3043 : decode cL_law 3043 = .ok (.if_icmp .eq 5, 3) := by decide +kernel
theorem dL_law_3046 : decode cL_law 3046 = .ok (.iconst 0, 1) := by decide +kernel
theorem dL_law_3047 : decode cL_law 3047 = .ok (.ireturn, 1) := by decide +kernel
theorem dL_law_3048 : decode cL_law 3048 = .ok (.iload 5, 2) := by decide +kernel
theorem dL_law_3050 : decode cL_law 3050 = .ok (.ifCond .ne 15, 3) := by decide +kernel
theorem dL_law_3053 : decode cL_law 3053 = .ok (.aload_n 3, 1) := by decide +kernel
theorem dL_law_3054 : decode cL_law 3054 = .ok (.iconst 0, 1) := by decide +kernel
theorem dL_law_3055 : decode cL_law 3055 = .ok (.laload, 1) := by decide +kernel
theorem dL_law_3056 : decode cL_law 3056 = .ok (.iload 6, 2) := by decide +kernel
theorem dL_law_3058 : decode cL_law 3058 = .ok (.i2l, 1) := by decide +kernel
theorem dL_law_3059 : decode cL_law 3059 = .ok (.lcmp, 1) := by decide +kernel
theorem dL_law_3060 : decode cL_law 3060 = .ok (.ifCond .eq 5, 3) := by decide +kernel
theorem dL_law_3063 : decode cL_law 3063 = .ok (.iconst 0, 1) := by decide +kernel
theorem dL_law_3064 : decode cL_law 3064 = .ok (.ireturn, 1) := by decide +kernel
theorem dL_law_3065 : decode cL_law 3065 = .ok (.goto 41, 3) := by decide +kernel
theorem dL_law_3068 : decode cL_law 3068 = .ok (.aload_n 1, 1) := by decide +kernel
theorem dL_law_3069 : decode cL_law 3069 = .ok (.invokevirtual 357, 3) := by decide +kernel
theorem dL_law_3072 : decode cL_law 3072 = .ok (.aload_n 2, 1) := by decide +kernel
theorem dL_law_3073 : decode cL_law 3073 = .ok (.invokevirtual 360, 3) := by decide +kernel
theorem dL_law_3076 : decode cL_law 3076 = .ok (.if_icmp .eq 30, 3) := by decide +kernel
theorem dL_law_3079 : decode cL_law 3079 = .ok (.iconst 0, 1) := by decide +kernel
theorem dL_law_3080 : decode cL_law 3080 = .ok (.ireturn, 1) := by decide +kernel
theorem dL_law_3081 : decode cL_law 3081 = .ok (.aload_n 1, 1) := by decide +kernel
theorem dL_law_3082 : decode cL_law 3082 = .ok (.aload_n 0, 1) := by decide +kernel
theorem dL_law_3083 : decode cL_law 3083 = .ok (.iload 4, 2) := by decide +kernel
theorem dL_law_3085 : decode cL_law 3085 = .ok (.iconst 1, 1) := by decide +kernel
theorem dL_law_3086 : decode cL_law 3086 = .ok (.iadd, 1) := by decide +kernel
theorem dL_law_3087 : decode cL_law 3087 = .ok (.iaload, 1) := by decide +kernel
theorem dL_law_3088 : decode cL_law 3088 = .ok (.invokevirtual 361, 3) := by decide +kernel
theorem dL_law_3091 : decode cL_law 3091 = .ok (.aload_n 2, 1) := by decide +kernel
theorem dL_law_3092 : decode cL_law 3092 = .ok (.aload_n 0, 1) := by decide +kernel
theorem dL_law_3093 : decode cL_law 3093 = .ok (.iload 4, 2) := by decide +kernel
theorem dL_law_3095 : decode cL_law 3095 = .ok (.iconst 1, 1) := by decide +kernel
theorem dL_law_3096 : decode cL_law 3096 = .ok (.iadd, 1) := by decide +kernel
theorem dL_law_3097 : decode cL_law 3097 = .ok (.iaload, 1) := by decide +kernel
theorem dL_law_3098 : decode cL_law 3098 = .ok (.invokevirtual 364, 3) := by decide +kernel
theorem dL_law_3101 : decode cL_law 3101 = .ok (.if_icmp .eq 5, 3) := by decide +kernel
theorem dL_law_3104 : decode cL_law 3104 = .ok (.iconst 0, 1) := by decide +kernel
theorem dL_law_3105 : decode cL_law 3105 = .ok (.ireturn, 1) := by decide +kernel
theorem dL_law_3106 : decode cL_law 3106 = .ok (.iinc 4 6, 3) := by decide +kernel
theorem dL_law_3109 : decode cL_law 3109 = .ok (.goto (-3086), 3) := by decide +kernel
theorem dL_law_3112 : decode cL_law 3112 = .ok (.iconst 1, 1) := by decide +kernel
theorem dL_law_3113 : decode cL_law 3113 = .ok (.ireturn, 1) := by decide +kernel
