theorem dX11_readsOne_22 : decode cX11_readsOne 22 = .ok (.getfield 349, 3) := by decide +kernel
theorem dX11_readsOne_25 : decode cX11_readsOne 25 = .ok (.bipush 30, 2) := by decide +kernel
theorem dX11_readsOne_27 : decode cX11_readsOne 27 = .ok (.if_icmp .ge 7, 3) := by decide +kernel
theorem dX11_readsOne_30 : decode cX11_readsOne 30 = .ok (.iconst 1, 1) := by decide +kernel
theorem dX11_readsOne_31 : decode cX11_readsOne 31 = .ok (.goto 4, 3) := by decide +kernel
theorem dX11_readsOne_34 : decode cX11_readsOne 34 = .ok (.iconst 0, 1) := by decide +kernel
theorem dX11_readsOne_35 : decode cX11_readsOne 35 = .ok (.iconst 4, 1) := by decide +kernel
theorem dX11_readsOne_36 : decode cX11_readsOne 36 = .ok (.invokevirtual 246, 3) := by decide +kernel
theorem dX11_readsOne_39 : decode cX11_readsOne 39 = .ok (.aload_n 0, 1) := by decide +kernel
theorem dX11_readsOne_40 : decode cX11_readsOne 40 = .ok (.getfield 233, 3) := by decide +kernel
theorem dX11_readsOne_43 : decode cX11_readsOne 43 = .ok (.ifCond .eq 4, 3) := by decide +kernel
theorem dX11_readsOne_46 : decode cX11_readsOne 46 = .ok (.return_, 1) := by decide +kernel
theorem dX11_readsOne_47 : decode cX11_readsOne 47 = .ok (.aload_n 0, 1) := by decide +kernel
theorem dX11_readsOne_48 : decode cX11_readsOne 48 = .ok (.invokevirtual 250, 3) := by decide +kernel
theorem dX11_readsOne_51 : decode cX11_readsOne 51 = .ok (.aload_n 0, 1) := by decide +kernel
theorem dX11_readsOne_52 : decode cX11_readsOne 52 = .ok (.getfield 45, 3) := by decide +kernel
theorem dX11_readsOne_55 : decode cX11_readsOne 55 = .ok (.iconst 3, 1) := by decide +kernel
theorem dX11_readsOne_56 : decode cX11_readsOne 56 = .ok (.aload_n 0, 1) := by decide +kernel
theorem dX11_readsOne_57 : decode cX11_readsOne 57 = .ok (.getfield 349, 3) := by decide +kernel
theorem dX11_readsOne_60 : decode cX11_readsOne 60 = .ok (.imul, 1) := by decide +kernel
theorem dX11_readsOne_61 : decode cX11_readsOne 61 = .ok (.iload_n 1, 1) := by decide +kernel
theorem dX11_readsOne_62 : decode cX11_readsOne 62 = .ok (.iastore, 1) := by decide +kernel
theorem dX11_readsOne_63 : decode cX11_readsOne 63 = .ok (.aload_n 0, 1) := by decide +kernel
theorem dX11_readsOne_64 : decode cX11_readsOne 64 = .ok (.iload_n 1, 1) := by decide +kernel
theorem dX11_readsOne_65 : decode cX11_readsOne 65 = .ok (.iconst 3, 1) := by decide +kernel
theorem dX11_readsOne_66 : decode cX11_readsOne 66 = .ok (.aload_n 0, 1) := by decide +kernel
theorem dX11_readsOne_67 : decode cX11_readsOne 67 = .ok (.getfield 349, 3) := by decide +kernel
theorem dX11_readsOne_70 : decode cX11_readsOne 70 = .ok (.imul, 1) := by decide +kernel
theorem dX11_readsOne_71 : decode cX11_readsOne 71 = .ok (.iconst 1, 1) := by decide +kernel
theorem dX11_readsOne_72 : decode cX11_readsOne 72 = .ok (.iadd, 1) := by decide +kernel
theorem dX11_readsOne_73 : decode cX11_readsOne 73 = .ok (.invokevirtual 352, 3) := by decide +kernel
theorem dX11_readsOne_76 : decode cX11_readsOne 76 = .ok (.aload_n 0, 1) := by decide +kernel
theorem dX11_readsOne_77 : decode cX11_readsOne 77 = .ok (.dup, 1) := by decide +kernel
theorem dX11_readsOne_78 : decode cX11_readsOne 78 = .ok (.getfield 349, 3) := by decide +kernel
theorem dX11_readsOne_81 : decode cX11_readsOne 81 = .ok (.iconst 1, 1) := by decide +kernel
theorem dX11_readsOne_82 : decode cX11_readsOne 82 = .ok (.iadd, 1) := by decide +kernel
theorem dX11_readsOne_83 : decode cX11_readsOne 83 = .ok (.putfield 349, 3) := by decide +kernel
theorem dX11_readsOne_86 : decode cX11_readsOne 86 = .ok (.aload_n 0, 1) := by decide +kernel
theorem dX11_readsOne_87 : decode cX11_readsOne 87 = .ok (.invokevirtual 289, 3) := by decide +kernel
theorem dX11_readsOne_90 : decode cX11_readsOne 90 = .ok (.return_, 1) := by decide +kernel
theorem dX11_doesOne_0 : decode cX11_doesOne 0 = .ok (.aload_n 0, 1) := by decide +kernel
theorem dX11_doesOne_1 : decode cX11_doesOne 1 = .ok (.getfield 45, 3) := by decide +kernel
theorem dX11_doesOne_4 : decode cX11_doesOne 4 = .ok (.iload_n 1, 1) := by decide +kernel
theorem dX11_doesOne_5 : decode cX11_doesOne 5 = .ok (.iconst 1, 1) := by decide +kernel
theorem dX11_doesOne_6 : decode cX11_doesOne 6 = .ok (.iadd, 1) := by decide +kernel
theorem dX11_doesOne_7 : decode cX11_doesOne 7 = .ok (.iaload, 1) := by decide +kernel
theorem dX11_doesOne_8 : decode cX11_doesOne 8 = .ok (.istore_n 2, 1) := by decide +kernel
theorem dX11_doesOne_9 : decode cX11_doesOne 9 = .ok (.aload_n 0, 1) := by decide +kernel
theorem dX11_doesOne_10 : decode cX11_doesOne 10 = .ok (.getfield 45, 3) := by decide +kernel
theorem dX11_doesOne_13 : decode cX11_doesOne 13 = .ok (.iload_n 1, 1) := by decide +kernel
theorem dX11_doesOne_14 : decode cX11_doesOne 14 = .ok (.iconst 2, 1) := by decide +kernel
theorem dX11_doesOne_15 : decode cX11_doesOne 15 = .ok (.iadd, 1) := by decide +kernel
theorem dX11_doesOne_16 : decode cX11_doesOne 16 = .ok (.iaload, 1) := by decide +kernel
theorem dX11_doesOne_17 : decode cX11_doesOne 17 = .ok (.istore_n 3, 1) := by decide +kernel
theorem dX11_doesOne_18 : decode cX11_doesOne 18 = .ok (.aload_n 0, 1) := by decide +kernel
theorem dX11_doesOne_19 : decode cX11_doesOne 19 = .ok (.getfield 45, 3) := by decide +kernel
theorem dX11_doesOne_22 : decode cX11_doesOne 22 = .ok (.iload_n 1, 1) := by decide +kernel
theorem dX11_doesOne_23 : decode cX11_doesOne 23 = .ok (.iaload, 1) := by decide +kernel
theorem dX11_doesOne_24 : decode cX11_doesOne 24 = .ok (.tableswitch 78 0 5 #[40, 46, 51, 58, 64, 71], 40) := by decide +kernel
theorem dX11_doesOne_64 : decode cX11_doesOne 64 = .ok (.aload_n 0, 1) := by decide +kernel
theorem dX11_doesOne_65 : decode cX11_doesOne 65 = .ok (.iload_n 2, 1) := by decide +kernel
theorem dX11_doesOne_66 : decode cX11_doesOne 66 = .ok (.invokevirtual 355, 3) := by decide +kernel
theorem dX11_doesOne_69 : decode cX11_doesOne 69 = .ok (.ireturn, 1) := by decide +kernel
theorem dX11_doesOne_70 : decode cX11_doesOne 70 = .ok (.aload_n 0, 1) := by decide +kernel
theorem dX11_doesOne_71 : decode cX11_doesOne 71 = .ok (.invokevirtual 358, 3) := by decide +kernel
theorem dX11_doesOne_74 : decode cX11_doesOne 74 = .ok (.ireturn, 1) := by decide +kernel
theorem dX11_doesOne_75 : decode cX11_doesOne 75 = .ok (.aload_n 0, 1) := by decide +kernel
theorem dX11_doesOne_76 : decode cX11_doesOne 76 = .ok (.iload_n 2, 1) := by decide +kernel
theorem dX11_doesOne_77 : decode cX11_doesOne 77 = .ok (.iload_n 3, 1) := by decide +kernel
theorem dX11_doesOne_78 : decode cX11_doesOne 78 = .ok (.invokevirtual 361, 3) := by decide +kernel
theorem dX11_doesOne_81 : decode cX11_doesOne 81 = .ok (.ireturn, 1) := by decide +kernel
theorem dX11_doesOne_82 : decode cX11_doesOne 82 = .ok (.aload_n 0, 1) := by decide +kernel
theorem dX11_doesOne_83 : decode cX11_doesOne 83 = .ok (.iload_n 2, 1) := by decide +kernel
theorem dX11_doesOne_84 : decode cX11_doesOne 84 = .ok (.invokevirtual 364, 3) := by decide +kernel
theorem dX11_doesOne_87 : decode cX11_doesOne 87 = .ok (.ireturn, 1) := by decide +kernel
theorem dX11_doesOne_88 : decode cX11_doesOne 88 = .ok (.aload_n 0, 1) := by decide +kernel
theorem dX11_doesOne_89 : decode cX11_doesOne 89 = .ok (.iload_n 2, 1) := by decide +kernel
theorem dX11_doesOne_90 : decode cX11_doesOne 90 = .ok (.iload_n 3, 1) := by decide +kernel
theorem dX11_doesOne_91 : decode cX11_doesOne 91 = .ok (.invokevirtual 367, 3) := by decide +kernel
theorem dX11_doesOne_94 : decode cX11_doesOne 94 = .ok (.ireturn, 1) := by decide +kernel
theorem dX11_doesOne_95 : decode cX11_doesOne 95 = .ok (.aload_n 0, 1) := by decide +kernel
theorem dX11_doesOne_96 : decode cX11_doesOne 96 = .ok (.iload_n 2, 1) := by decide +kernel
theorem dX11_doesOne_97 : decode cX11_doesOne 97 = .ok (.iload_n 3, 1) := by decide +kernel
theorem dX11_doesOne_98 : decode cX11_doesOne 98 = .ok (.invokevirtual 370, 3) := by decide +kernel
theorem dX11_doesOne_101 : decode cX11_doesOne 101 = .ok (.ireturn, 1) := by decide +kernel
theorem dX11_doesOne_102 : decode cX11_doesOne 102 = .ok (.aload_n 0, 1) := by decide +kernel
theorem dX11_doesOne_103 : decode cX11_doesOne 103 = .ok (.iload_n 2, 1) := by decide +kernel
theorem dX11_doesOne_104 : decode cX11_doesOne 104 = .ok (.invokevirtual 373, 3) := by decide +kernel
theorem dX11_doesOne_107 : decode cX11_doesOne 107 = .ok (.ireturn, 1) := by decide +kernel
theorem dX11_keeps_0 : decode cX11_keeps 0 = .ok (.aload_n 0, 1) := by decide +kernel
theorem dX11_keeps_1 : decode cX11_keeps 1 = .ok (.getfield 328, 3) := by decide +kernel
theorem dX11_keeps_4 : decode cX11_keeps 4 = .ok (.bipush 8, 2) := by decide +kernel
theorem dX11_keeps_6 : decode cX11_keeps 6 = .ok (.if_icmp .ne 44, 3) := by decide +kernel
theorem dX11_keeps_9 : decode cX11_keeps 9 = .ok (.iconst 0, 1) := by decide +kernel
theorem dX11_keeps_10 : decode cX11_keeps 10 = .ok (.istore_n 2, 1) := by decide +kernel
theorem dX11_keeps_11 : decode cX11_keeps 11 = .ok (.iload_n 2, 1) := by decide +kernel
theorem dX11_keeps_12 : decode cX11_keeps 12 = .ok (.sipush 4389, 3) := by decide +kernel
theorem dX11_keeps_15 : decode cX11_keeps 15 = .ok (.if_icmp .ge 25, 3) := by decide +kernel
theorem dX11_keeps_18 : decode cX11_keeps 18 = .ok (.aload_n 0, 1) := by decide +kernel
theorem dX11_keeps_19 : decode cX11_keeps 19 = .ok (.getfield 22, 3) := by decide +kernel
theorem dX11_keeps_22 : decode cX11_keeps 22 = .ok (.iload_n 2, 1) := by decide +kernel
theorem dX11_keeps_23 : decode cX11_keeps 23 = .ok (.aload_n 0, 1) := by decide +kernel
theorem dX11_keeps_24 : decode cX11_keeps 24 = .ok (.getfield 22, 3) := by decide +kernel
theorem dX11_keeps_27 : decode cX11_keeps 27 = .ok (.iload_n 2, 1) := by decide +kernel
theorem dX11_keeps_28 : decode cX11_keeps 28 = .ok (.sipush 627, 3) := by decide +kernel
theorem dX11_keeps_31 : decode cX11_keeps 31 = .ok (.iadd, 1) := by decide +kernel
theorem dX11_keeps_32 : decode cX11_keeps 32 = .ok (.iaload, 1) := by decide +kernel
theorem dX11_keeps_33 : decode cX11_keeps 33 = .ok (.iastore, 1) := by decide +kernel
theorem dX11_keeps_34 : decode cX11_keeps 34 = .ok (.iinc 2 1, 3) := by decide +kernel
theorem dX11_keeps_37 : decode cX11_keeps 37 = .ok (.goto (-26), 3) := by decide +kernel
theorem dX11_keeps_40 : decode cX11_keeps 40 = .ok (.aload_n 0, 1) := by decide +kernel
theorem dX11_keeps_41 : decode cX11_keeps 41 = .ok (.dup, 1) := by decide +kernel
theorem dX11_keeps_42 : decode cX11_keeps 42 = .ok (.getfield 328, 3) := by decide +kernel
theorem dX11_keeps_45 : decode cX11_keeps 45 = .ok (.iconst 1, 1) := by decide +kernel
theorem dX11_keeps_46 : decode cX11_keeps 46 = .ok (.isub, 1) := by decide +kernel
theorem dX11_keeps_47 : decode cX11_keeps 47 = .ok (.putfield 328, 3) := by decide +kernel
theorem dX11_keeps_50 : decode cX11_keeps 50 = .ok (.aload_n 1, 1) := by decide +kernel
theorem dX11_keeps_51 : decode cX11_keeps 51 = .ok (.iconst 0, 1) := by decide +kernel
theorem dX11_keeps_52 : decode cX11_keeps 52 = .ok (.aload_n 0, 1) := by decide +kernel
theorem dX11_keeps_53 : decode cX11_keeps 53 = .ok (.getfield 22, 3) := by decide +kernel
theorem dX11_keeps_56 : decode cX11_keeps 56 = .ok (.sipush 627, 3) := by decide +kernel
theorem dX11_keeps_59 : decode cX11_keeps 59 = .ok (.aload_n 0, 1) := by decide +kernel
theorem dX11_keeps_60 : decode cX11_keeps 60 = .ok (.getfield 328, 3) := by decide +kernel
theorem dX11_keeps_63 : decode cX11_keeps 63 = .ok (.imul, 1) := by decide +kernel
theorem dX11_keeps_64 : decode cX11_keeps 64 = .ok (.invokestatic 71, 3) := by decide +kernel
theorem dX11_keeps_67 : decode cX11_keeps 67 = .ok (.aload_n 0, 1) := by decide +kernel
theorem dX11_keeps_68 : decode cX11_keeps 68 = .ok (.dup, 1) := by decide +kernel
theorem dX11_keeps_69 : decode cX11_keeps 69 = .ok (.getfield 328, 3) := by decide +kernel
theorem dX11_keeps_72 : decode cX11_keeps 72 = .ok (.iconst 1, 1) := by decide +kernel
theorem dX11_keeps_73 : decode cX11_keeps 73 = .ok (.iadd, 1) := by decide +kernel
theorem dX11_keeps_74 : decode cX11_keeps 74 = .ok (.putfield 328, 3) := by decide +kernel
theorem dX11_keeps_77 : decode cX11_keeps 77 = .ok (.return_, 1) := by decide +kernel
theorem dX11_executeCommands_0 : decode cX11_executeCommands 0 = .ok (.aload_n 0, 1) := by decide +kernel
theorem dX11_executeCommands_1 : decode cX11_executeCommands 1 = .ok (.invokevirtual 314, 3) := by decide +kernel
theorem dX11_executeCommands_4 : decode cX11_executeCommands 4 = .ok (.aload_n 0, 1) := by decide +kernel
theorem dX11_executeCommands_5 : decode cX11_executeCommands 5 = .ok (.iconst 0, 1) := by decide +kernel
theorem dX11_executeCommands_6 : decode cX11_executeCommands 6 = .ok (.putfield 349, 3) := by decide +kernel
theorem dX11_executeCommands_9 : decode cX11_executeCommands 9 = .ok (.aload_n 0, 1) := by decide +kernel
theorem dX11_executeCommands_10 : decode cX11_executeCommands 10 = .ok (.getfield 233, 3) := by decide +kernel
theorem dX11_executeCommands_13 : decode cX11_executeCommands 13 = .ok (.ifCond .ne 18, 3) := by decide +kernel
theorem dX11_executeCommands_16 : decode cX11_executeCommands 16 = .ok (.aload_n 0, 1) := by decide +kernel
theorem dX11_executeCommands_17 : decode cX11_executeCommands 17 = .ok (.invokevirtual 239, 3) := by decide +kernel
theorem dX11_executeCommands_20 : decode cX11_executeCommands 20 = .ok (.iconst (-1), 1) := by decide +kernel
theorem dX11_executeCommands_21 : decode cX11_executeCommands 21 = .ok (.if_icmp .eq 10, 3) := by decide +kernel
theorem dX11_executeCommands_24 : decode cX11_executeCommands 24 = .ok (.aload_n 0, 1) := by decide +kernel
theorem dX11_executeCommands_25 : decode cX11_executeCommands 25 = .ok (.invokevirtual 376, 3) := by decide +kernel
theorem dX11_executeCommands_28 : decode cX11_executeCommands 28 = .ok (.goto (-19), 3) := by decide +kernel
theorem dX11_executeCommands_31 : decode cX11_executeCommands 31 = .ok (.aload_n 0, 1) := by decide +kernel
theorem dX11_executeCommands_32 : decode cX11_executeCommands 32 = .ok (.aload_n 0, 1) := by decide +kernel
theorem dX11_executeCommands_33 : decode cX11_executeCommands 33 = .ok (.invokevirtual 325, 3) := by decide +kernel
theorem dX11_executeCommands_36 : decode cX11_executeCommands 36 = .ok (.invokevirtual 210, 3) := by decide +kernel
theorem dX11_executeCommands_39 : decode cX11_executeCommands 39 = .ok (.ifCond .ne 5, 3) := by decide +kernel
theorem dX11_executeCommands_42 : decode cX11_executeCommands 42 = .ok (.iconst 0, 1) := by decide +kernel
theorem dX11_executeCommands_43 : decode cX11_executeCommands 43 = .ok (.ireturn, 1) := by decide +kernel
theorem dX11_executeCommands_44 : decode cX11_executeCommands 44 = .ok (.aload_n 0, 1) := by decide +kernel
theorem dX11_executeCommands_45 : decode cX11_executeCommands 45 = .ok (.aload_n 0, 1) := by decide +kernel
theorem dX11_executeCommands_46 : decode cX11_executeCommands 46 = .ok (.getfield 7, 3) := by decide +kernel
theorem dX11_executeCommands_49 : decode cX11_executeCommands 49 = .ok (.invokevirtual 379, 3) := by decide +kernel
theorem dX11_executeCommands_52 : decode cX11_executeCommands 52 = .ok (.iconst 0, 1) := by decide +kernel
theorem dX11_executeCommands_53 : decode cX11_executeCommands 53 = .ok (.istore_n 1, 1) := by decide +kernel
theorem dX11_executeCommands_54 : decode cX11_executeCommands 54 = .ok (.iload_n 1, 1) := by decide +kernel
theorem dX11_executeCommands_55 : decode cX11_executeCommands 55 = .ok (.aload_n 0, 1) := by decide +kernel
theorem dX11_executeCommands_56 : decode cX11_executeCommands 56 = .ok (.getfield 349, 3) := by decide +kernel
theorem dX11_executeCommands_59 : decode cX11_executeCommands 59 = .ok (.if_icmp .ge 19, 3) := by decide +kernel
theorem dX11_executeCommands_62 : decode cX11_executeCommands 62 = .ok (.aload_n 0, 1) := by decide +kernel
theorem dX11_executeCommands_63 : decode cX11_executeCommands 63 = .ok (.iconst 3, 1) := by decide +kernel
theorem dX11_executeCommands_64 : decode cX11_executeCommands 64 = .ok (.iload_n 1, 1) := by decide +kernel
theorem dX11_executeCommands_65 : decode cX11_executeCommands 65 = .ok (.imul, 1) := by decide +kernel
theorem dX11_executeCommands_66 : decode cX11_executeCommands 66 = .ok (.invokevirtual 383, 3) := by decide +kernel
theorem dX11_executeCommands_69 : decode cX11_executeCommands 69 = .ok (.ifCond .eq 9, 3) := by decide +kernel
theorem dX11_executeCommands_72 : decode cX11_executeCommands 72 = .ok (.iinc 1 1, 3) := by decide +kernel
theorem dX11_executeCommands_75 : decode cX11_executeCommands 75 = .ok (.goto (-21), 3) := by decide +kernel
theorem dX11_executeCommands_78 : decode cX11_executeCommands 78 = .ok (.iload_n 1, 1) := by decide +kernel
theorem dX11_executeCommands_79 : decode cX11_executeCommands 79 = .ok (.ireturn, 1) := by decide +kernel
theorem dX11_tells_0 : decode cX11_tells 0 = .ok (.aload_n 0, 1) := by decide +kernel
theorem dX11_tells_1 : decode cX11_tells 1 = .ok (.iconst 0, 1) := by decide +kernel
theorem dX11_tells_2 : decode cX11_tells 2 = .ok (.putfield 68, 3) := by decide +kernel
theorem dX11_tells_5 : decode cX11_tells 5 = .ok (.iload_n 1, 1) := by decide +kernel
theorem dX11_tells_6 : decode cX11_tells 6 = .ok (.ireturn, 1) := by decide +kernel
theorem dX11_tellsEcho_0 : decode cX11_tellsEcho 0 = .ok (.aload_n 0, 1) := by decide +kernel
theorem dX11_tellsEcho_1 : decode cX11_tellsEcho 1 = .ok (.aload_n 0, 1) := by decide +kernel
theorem dX11_tellsEcho_2 : decode cX11_tellsEcho 2 = .ok (.iload_n 1, 1) := by decide +kernel
theorem dX11_tellsEcho_3 : decode cX11_tellsEcho 3 = .ok (.invokevirtual 83, 3) := by decide +kernel
theorem dX11_tellsEcho_6 : decode cX11_tellsEcho 6 = .ok (.invokevirtual 210, 3) := by decide +kernel
theorem dX11_tellsEcho_9 : decode cX11_tellsEcho 9 = .ok (.ifCond .eq 12, 3) := by decide +kernel
theorem dX11_tellsEcho_12 : decode cX11_tellsEcho 12 = .ok (.aload_n 0, 1) := by decide +kernel
theorem dX11_tellsEcho_13 : decode cX11_tellsEcho 13 = .ok (.iload_n 1, 1) := by decide +kernel
theorem dX11_tellsEcho_14 : decode cX11_tellsEcho 14 = .ok (.iload_n 2, 1) := by decide +kernel
theorem dX11_tellsEcho_15 : decode cX11_tellsEcho 15 = .ok (.invokevirtual 86, 3) := by decide +kernel
theorem dX11_tellsEcho_18 : decode cX11_tellsEcho 18 = .ok (.goto 4, 3) := by decide +kernel
theorem dX11_tellsEcho_21 : decode cX11_tellsEcho 21 = .ok (.iconst 0, 1) := by decide +kernel
theorem dX11_tellsEcho_22 : decode cX11_tellsEcho 22 = .ok (.ireturn, 1) := by decide +kernel
theorem dX11_tellsValley_0 : decode cX11_tellsValley 0 = .ok (.aload_n 0, 1) := by decide +kernel
theorem dX11_tellsValley_1 : decode cX11_tellsValley 1 = .ok (.aload_n 0, 1) := by decide +kernel
theorem dX11_tellsValley_2 : decode cX11_tellsValley 2 = .ok (.iload_n 1, 1) := by decide +kernel
theorem dX11_tellsValley_3 : decode cX11_tellsValley 3 = .ok (.invokevirtual 79, 3) := by decide +kernel
theorem dX11_tellsValley_6 : decode cX11_tellsValley 6 = .ok (.invokevirtual 210, 3) := by decide +kernel
theorem dX11_tellsValley_9 : decode cX11_tellsValley 9 = .ok (.ifCond .eq 12, 3) := by decide +kernel
theorem dX11_tellsValley_12 : decode cX11_tellsValley 12 = .ok (.aload_n 0, 1) := by decide +kernel
theorem dX11_tellsValley_13 : decode cX11_tellsValley 13 = .ok (.iload_n 1, 1) := by decide +kernel
theorem dX11_tellsValley_14 : decode cX11_tellsValley 14 = .ok (.iload_n 2, 1) := by decide +kernel
theorem dX11_tellsValley_15 : decode cX11_tellsValley 15 = .ok (.invokevirtual 90, 3) := by decide +kernel
theorem dX11_tellsValley_18 : decode cX11_tellsValley 18 = .ok (.goto 4, 3) := by decide +kernel
theorem dX11_tellsValley_21 : decode cX11_tellsValley 21 = .ok (.iconst 0, 1) := by decide +kernel
theorem dX11_tellsValley_22 : decode cX11_tellsValley 22 = .ok (.ireturn, 1) := by decide +kernel
theorem dX11_echoCount_0 : decode cX11_echoCount 0 = .ok (.aload_n 0, 1) := by decide +kernel
theorem dX11_echoCount_1 : decode cX11_echoCount 1 = .ok (.aload_n 0, 1) := by decide +kernel
theorem dX11_echoCount_2 : decode cX11_echoCount 2 = .ok (.getfield 7, 3) := by decide +kernel
theorem dX11_echoCount_5 : decode cX11_echoCount 5 = .ok (.iconst 0, 1) := by decide +kernel
theorem dX11_echoCount_6 : decode cX11_echoCount 6 = .ok (.iaload, 1) := by decide +kernel
theorem dX11_echoCount_7 : decode cX11_echoCount 7 = .ok (.invokevirtual 386, 3) := by decide +kernel
theorem dX11_echoCount_10 : decode cX11_echoCount 10 = .ok (.ireturn, 1) := by decide +kernel
theorem dX11_valleyCount_0 : decode cX11_valleyCount 0 = .ok (.aload_n 0, 1) := by decide +kernel
theorem dX11_valleyCount_1 : decode cX11_valleyCount 1 = .ok (.aload_n 0, 1) := by decide +kernel
theorem dX11_valleyCount_2 : decode cX11_valleyCount 2 = .ok (.getfield 7, 3) := by decide +kernel
theorem dX11_valleyCount_5 : decode cX11_valleyCount 5 = .ok (.iconst 1, 1) := by decide +kernel
theorem dX11_valleyCount_6 : decode cX11_valleyCount 6 = .ok (.iaload, 1) := by decide +kernel
theorem dX11_valleyCount_7 : decode cX11_valleyCount 7 = .ok (.invokevirtual 386, 3) := by decide +kernel
theorem dX11_valleyCount_10 : decode cX11_valleyCount 10 = .ok (.ireturn, 1) := by decide +kernel
theorem dX11_day_0 : decode cX11_day 0 = .ok (.aload_n 0, 1) := by decide +kernel
theorem dX11_day_1 : decode cX11_day 1 = .ok (.aload_n 0, 1) := by decide +kernel
theorem dX11_day_2 : decode cX11_day 2 = .ok (.getfield 7, 3) := by decide +kernel
theorem dX11_day_5 : decode cX11_day 5 = .ok (.iconst 2, 1) := by decide +kernel
theorem dX11_day_6 : decode cX11_day 6 = .ok (.iaload, 1) := by decide +kernel
theorem dX11_day_7 : decode cX11_day 7 = .ok (.invokevirtual 386, 3) := by decide +kernel
theorem dX11_day_10 : decode cX11_day 10 = .ok (.ireturn, 1) := by decide +kernel
theorem dX11_seasonLength_0 : decode cX11_seasonLength 0 = .ok (.aload_n 0, 1) := by decide +kernel
theorem dX11_seasonLength_1 : decode cX11_seasonLength 1 = .ok (.aload_n 0, 1) := by decide +kernel
theorem dX11_seasonLength_2 : decode cX11_seasonLength 2 = .ok (.getfield 7, 3) := by decide +kernel
theorem dX11_seasonLength_5 : decode cX11_seasonLength 5 = .ok (.iconst 3, 1) := by decide +kernel
theorem dX11_seasonLength_6 : decode cX11_seasonLength 6 = .ok (.iaload, 1) := by decide +kernel
theorem dX11_seasonLength_7 : decode cX11_seasonLength 7 = .ok (.invokevirtual 386, 3) := by decide +kernel
theorem dX11_seasonLength_10 : decode cX11_seasonLength 10 = .ok (.ireturn, 1) := by decide +kernel
theorem dX11_fogOf_0 : decode cX11_fogOf 0 = .ok (.aload_n 0, 1) := by decide +kernel
theorem dX11_fogOf_1 : decode cX11_fogOf 1 = .ok (.iload_n 1, 1) := by decide +kernel
theorem dX11_fogOf_2 : decode cX11_fogOf 2 = .ok (.i2l, 1) := by decide +kernel
theorem dX11_fogOf_3 : decode cX11_fogOf 3 = .ok (.lconst 0, 1) := by decide +kernel
theorem dX11_fogOf_4 : decode cX11_fogOf 4 = .ok (.ldc2_w 389, 3) := by decide +kernel
theorem dX11_fogOf_7 : decode cX11_fogOf 7 = .ok (.invokestatic 75, 3) := by decide +kernel
theorem dX11_fogOf_10 : decode cX11_fogOf 10 = .ok (.invokevirtual 210, 3) := by decide +kernel
theorem dX11_fogOf_13 : decode cX11_fogOf 13 = .ok (.ifCond .eq 11, 3) := by decide +kernel
theorem dX11_fogOf_16 : decode cX11_fogOf 16 = .ok (.aload_n 0, 1) := by decide +kernel
theorem dX11_fogOf_17 : decode cX11_fogOf 17 = .ok (.iload_n 1, 1) := by decide +kernel
theorem dX11_fogOf_18 : decode cX11_fogOf 18 = .ok (.invokevirtual 177, 3) := by decide +kernel
theorem dX11_fogOf_21 : decode cX11_fogOf 21 = .ok (.goto 4, 3) := by decide +kernel
theorem dX11_fogOf_24 : decode cX11_fogOf 24 = .ok (.iconst 0, 1) := by decide +kernel
theorem dX11_fogOf_25 : decode cX11_fogOf 25 = .ok (.ireturn, 1) := by decide +kernel
theorem dX11_finds_0 : decode cX11_finds 0 = .ok (.aload_n 0, 1) := by decide +kernel
theorem dX11_finds_1 : decode cX11_finds 1 = .ok (.iconst 0, 1) := by decide +kernel
theorem dX11_finds_2 : decode cX11_finds 2 = .ok (.putfield 68, 3) := by decide +kernel
theorem dX11_finds_5 : decode cX11_finds 5 = .ok (.aload_n 0, 1) := by decide +kernel
theorem dX11_finds_6 : decode cX11_finds 6 = .ok (.iconst 0, 1) := by decide +kernel
theorem dX11_finds_7 : decode cX11_finds 7 = .ok (.putfield 217, 3) := by decide +kernel
theorem dX11_finds_10 : decode cX11_finds 10 = .ok (.aload_n 0, 1) := by decide +kernel
theorem dX11_finds_11 : decode cX11_finds 11 = .ok (.invokevirtual 239, 3) := by decide +kernel
theorem dX11_finds_14 : decode cX11_finds 14 = .ok (.istore_n 2, 1) := by decide +kernel
theorem dX11_finds_15 : decode cX11_finds 15 = .ok (.aload_n 0, 1) := by decide +kernel
theorem dX11_finds_16 : decode cX11_finds 16 = .ok (.getfield 223, 3) := by decide +kernel
theorem dX11_finds_19 : decode cX11_finds 19 = .ok (.ifCond .ne 29, 3) := by decide +kernel
theorem dX11_finds_22 : decode cX11_finds 22 = .ok (.aload_n 0, 1) := by decide +kernel
theorem dX11_finds_23 : decode cX11_finds 23 = .ok (.getfield 226, 3) := by decide +kernel
theorem dX11_finds_26 : decode cX11_finds 26 = .ok (.aload_n 0, 1) := by decide +kernel
theorem dX11_finds_27 : decode cX11_finds 27 = .ok (.getfield 63, 3) := by decide +kernel
theorem dX11_finds_30 : decode cX11_finds 30 = .ok (.if_icmp .ne 18, 3) := by decide +kernel
theorem dX11_finds_33 : decode cX11_finds 33 = .ok (.aload_n 0, 1) := by decide +kernel
theorem dX11_finds_34 : decode cX11_finds 34 = .ok (.getfield 63, 3) := by decide +kernel
theorem dX11_finds_37 : decode cX11_finds 37 = .ok (.ifCond .le 11, 3) := by decide +kernel
theorem dX11_finds_40 : decode cX11_finds 40 = .ok (.aload_n 0, 1) := by decide +kernel
theorem dX11_finds_41 : decode cX11_finds 41 = .ok (.iload_n 1, 1) := by decide +kernel
theorem dX11_finds_42 : decode cX11_finds 42 = .ok (.invokevirtual 270, 3) := by decide +kernel
theorem dX11_finds_45 : decode cX11_finds 45 = .ok (.goto 4, 3) := by decide +kernel
theorem dX11_finds_48 : decode cX11_finds 48 = .ok (.iconst (-1), 1) := by decide +kernel
theorem dX11_finds_49 : decode cX11_finds 49 = .ok (.ireturn, 1) := by decide +kernel
theorem dX11_findEcho_0 : decode cX11_findEcho 0 = .ok (.aload_n 0, 1) := by decide +kernel
theorem dX11_findEcho_1 : decode cX11_findEcho 1 = .ok (.iconst 0, 1) := by decide +kernel
theorem dX11_findEcho_2 : decode cX11_findEcho 2 = .ok (.invokevirtual 391, 3) := by decide +kernel
theorem dX11_findEcho_5 : decode cX11_findEcho 5 = .ok (.ireturn, 1) := by decide +kernel
theorem dX11_findValley_0 : decode cX11_findValley 0 = .ok (.aload_n 0, 1) := by decide +kernel
theorem dX11_findValley_1 : decode cX11_findValley 1 = .ok (.iconst 1, 1) := by decide +kernel
theorem dX11_findValley_2 : decode cX11_findValley 2 = .ok (.invokevirtual 391, 3) := by decide +kernel
theorem dX11_findValley_5 : decode cX11_findValley 5 = .ok (.ireturn, 1) := by decide +kernel
theorem dX11_delayOf_0 : decode cX11_delayOf 0 = .ok (.aload_n 0, 1) := by decide +kernel
theorem dX11_delayOf_1 : decode cX11_delayOf 1 = .ok (.iload_n 1, 1) := by decide +kernel
theorem dX11_delayOf_2 : decode cX11_delayOf 2 = .ok (.bipush 7, 2) := by decide +kernel
theorem dX11_delayOf_4 : decode cX11_delayOf 4 = .ok (.invokevirtual 394, 3) := by decide +kernel
theorem dX11_delayOf_7 : decode cX11_delayOf 7 = .ok (.ireturn, 1) := by decide +kernel
theorem dX11_repeatsOf_0 : decode cX11_repeatsOf 0 = .ok (.aload_n 0, 1) := by decide +kernel
theorem dX11_repeatsOf_1 : decode cX11_repeatsOf 1 = .ok (.iload_n 1, 1) := by decide +kernel
theorem dX11_repeatsOf_2 : decode cX11_repeatsOf 2 = .ok (.bipush 8, 2) := by decide +kernel
theorem dX11_repeatsOf_4 : decode cX11_repeatsOf 4 = .ok (.invokevirtual 394, 3) := by decide +kernel
theorem dX11_repeatsOf_7 : decode cX11_repeatsOf 7 = .ok (.ireturn, 1) := by decide +kernel
theorem dX11_reserveWage_0 : decode cX11_reserveWage 0 = .ok (.aload_n 0, 1) := by decide +kernel
theorem dX11_reserveWage_1 : decode cX11_reserveWage 1 = .ok (.iload_n 1, 1) := by decide +kernel
theorem dX11_reserveWage_2 : decode cX11_reserveWage 2 = .ok (.bipush 9, 2) := by decide +kernel
theorem dX11_reserveWage_4 : decode cX11_reserveWage 4 = .ok (.invokevirtual 394, 3) := by decide +kernel
theorem dX11_reserveWage_7 : decode cX11_reserveWage 7 = .ok (.ireturn, 1) := by decide +kernel
theorem dX11_resistanceOf_0 : decode cX11_resistanceOf 0 = .ok (.aload_n 0, 1) := by decide +kernel
theorem dX11_resistanceOf_1 : decode cX11_resistanceOf 1 = .ok (.iload_n 1, 1) := by decide +kernel
theorem dX11_resistanceOf_2 : decode cX11_resistanceOf 2 = .ok (.bipush 10, 2) := by decide +kernel
theorem dX11_resistanceOf_4 : decode cX11_resistanceOf 4 = .ok (.invokevirtual 394, 3) := by decide +kernel
theorem dX11_resistanceOf_7 : decode cX11_resistanceOf 7 = .ok (.ireturn, 1) := by decide +kernel
theorem dX11_savingsOf_0 : decode cX11_savingsOf 0 = .ok (.aload_n 0, 1) := by decide +kernel
theorem dX11_savingsOf_1 : decode cX11_savingsOf 1 = .ok (.iload_n 1, 1) := by decide +kernel
theorem dX11_savingsOf_2 : decode cX11_savingsOf 2 = .ok (.bipush 11, 2) := by decide +kernel
theorem dX11_savingsOf_4 : decode cX11_savingsOf 4 = .ok (.invokevirtual 394, 3) := by decide +kernel
theorem dX11_savingsOf_7 : decode cX11_savingsOf 7 = .ok (.ireturn, 1) := by decide +kernel
theorem dX11_unpaidDays_0 : decode cX11_unpaidDays 0 = .ok (.aload_n 0, 1) := by decide +kernel
theorem dX11_unpaidDays_1 : decode cX11_unpaidDays 1 = .ok (.iload_n 1, 1) := by decide +kernel
theorem dX11_unpaidDays_2 : decode cX11_unpaidDays 2 = .ok (.bipush 12, 2) := by decide +kernel
theorem dX11_unpaidDays_4 : decode cX11_unpaidDays 4 = .ok (.invokevirtual 394, 3) := by decide +kernel
theorem dX11_unpaidDays_7 : decode cX11_unpaidDays 7 = .ok (.ireturn, 1) := by decide +kernel
theorem dX11_employerOf_0 : decode cX11_employerOf 0 = .ok (.aload_n 0, 1) := by decide +kernel
theorem dX11_employerOf_1 : decode cX11_employerOf 1 = .ok (.aload_n 0, 1) := by decide +kernel
theorem dX11_employerOf_2 : decode cX11_employerOf 2 = .ok (.iload_n 1, 1) := by decide +kernel
theorem dX11_employerOf_3 : decode cX11_employerOf 3 = .ok (.invokevirtual 83, 3) := by decide +kernel
theorem dX11_employerOf_6 : decode cX11_employerOf 6 = .ok (.invokevirtual 210, 3) := by decide +kernel
theorem dX11_employerOf_9 : decode cX11_employerOf 9 = .ok (.ifCond .eq 11, 3) := by decide +kernel
theorem dX11_employerOf_12 : decode cX11_employerOf 12 = .ok (.aload_n 0, 1) := by decide +kernel
theorem dX11_employerOf_13 : decode cX11_employerOf 13 = .ok (.iload_n 1, 1) := by decide +kernel
theorem dX11_employerOf_14 : decode cX11_employerOf 14 = .ok (.invokevirtual 119, 3) := by decide +kernel
theorem dX11_employerOf_17 : decode cX11_employerOf 17 = .ok (.goto 4, 3) := by decide +kernel
theorem dX11_employerOf_20 : decode cX11_employerOf 20 = .ok (.iconst 0, 1) := by decide +kernel
theorem dX11_employerOf_21 : decode cX11_employerOf 21 = .ok (.ireturn, 1) := by decide +kernel
theorem dX11_widthOf_0 : decode cX11_widthOf 0 = .ok (.aload_n 0, 1) := by decide +kernel
theorem dX11_widthOf_1 : decode cX11_widthOf 1 = .ok (.iload_n 1, 1) := by decide +kernel
theorem dX11_widthOf_2 : decode cX11_widthOf 2 = .ok (.bipush 7, 2) := by decide +kernel
theorem dX11_widthOf_4 : decode cX11_widthOf 4 = .ok (.invokevirtual 397, 3) := by decide +kernel
theorem dX11_widthOf_7 : decode cX11_widthOf 7 = .ok (.ireturn, 1) := by decide +kernel
theorem dX11_postsOf_0 : decode cX11_postsOf 0 = .ok (.aload_n 0, 1) := by decide +kernel
theorem dX11_postsOf_1 : decode cX11_postsOf 1 = .ok (.iload_n 1, 1) := by decide +kernel
theorem dX11_postsOf_2 : decode cX11_postsOf 2 = .ok (.bipush 8, 2) := by decide +kernel
theorem dX11_postsOf_4 : decode cX11_postsOf 4 = .ok (.invokevirtual 397, 3) := by decide +kernel
theorem dX11_postsOf_7 : decode cX11_postsOf 7 = .ok (.ireturn, 1) := by decide +kernel
theorem dX11_wageOf_0 : decode cX11_wageOf 0 = .ok (.aload_n 0, 1) := by decide +kernel
theorem dX11_wageOf_1 : decode cX11_wageOf 1 = .ok (.iload_n 1, 1) := by decide +kernel
theorem dX11_wageOf_2 : decode cX11_wageOf 2 = .ok (.bipush 9, 2) := by decide +kernel
theorem dX11_wageOf_4 : decode cX11_wageOf 4 = .ok (.invokevirtual 397, 3) := by decide +kernel
theorem dX11_wageOf_7 : decode cX11_wageOf 7 = .ok (.ireturn, 1) := by decide +kernel
theorem dX11_purseOf_0 : decode cX11_purseOf 0 = .ok (.aload_n 0, 1) := by decide +kernel
theorem dX11_purseOf_1 : decode cX11_purseOf 1 = .ok (.iload_n 1, 1) := by decide +kernel
theorem dX11_purseOf_2 : decode cX11_purseOf 2 = .ok (.bipush 10, 2) := by decide +kernel
theorem dX11_purseOf_4 : decode cX11_purseOf 4 = .ok (.invokevirtual 397, 3) := by decide +kernel
theorem dX11_purseOf_7 : decode cX11_purseOf 7 = .ok (.ireturn, 1) := by decide +kernel
theorem dX11_staffCount_0 : decode cX11_staffCount 0 = .ok (.aload_n 0, 1) := by decide +kernel
theorem dX11_staffCount_1 : decode cX11_staffCount 1 = .ok (.iload_n 1, 1) := by decide +kernel
theorem dX11_staffCount_2 : decode cX11_staffCount 2 = .ok (.bipush 13, 2) := by decide +kernel
theorem dX11_staffCount_4 : decode cX11_staffCount 4 = .ok (.invokevirtual 397, 3) := by decide +kernel
theorem dX11_staffCount_7 : decode cX11_staffCount 7 = .ok (.ireturn, 1) := by decide +kernel
theorem dX11_staffMember_0 : decode cX11_staffMember 0 = .ok (.aload_n 0, 1) := by decide +kernel
theorem dX11_staffMember_1 : decode cX11_staffMember 1 = .ok (.aload_n 0, 1) := by decide +kernel
theorem dX11_staffMember_2 : decode cX11_staffMember 2 = .ok (.iload_n 1, 1) := by decide +kernel
theorem dX11_staffMember_3 : decode cX11_staffMember 3 = .ok (.invokevirtual 79, 3) := by decide +kernel
theorem dX11_staffMember_6 : decode cX11_staffMember 6 = .ok (.invokevirtual 210, 3) := by decide +kernel
theorem dX11_staffMember_9 : decode cX11_staffMember 9 = .ok (.ifCond .ne 5, 3) := by decide +kernel
theorem dX11_staffMember_12 : decode cX11_staffMember 12 = .ok (.iconst 0, 1) := by decide +kernel
theorem dX11_staffMember_13 : decode cX11_staffMember 13 = .ok (.ireturn, 1) := by decide +kernel
theorem dX11_staffMember_14 : decode cX11_staffMember 14 = .ok (.iload_n 2, 1) := by decide +kernel
theorem dX11_staffMember_15 : decode cX11_staffMember 15 = .ok (.i2l, 1) := by decide +kernel
theorem dX11_staffMember_16 : decode cX11_staffMember 16 = .ok (.lconst 0, 1) := by decide +kernel
theorem dX11_staffMember_17 : decode cX11_staffMember 17 = .ok (.aload_n 0, 1) := by decide +kernel
theorem dX11_staffMember_18 : decode cX11_staffMember 18 = .ok (.iload_n 1, 1) := by decide +kernel
theorem dX11_staffMember_19 : decode cX11_staffMember 19 = .ok (.bipush 13, 2) := by decide +kernel
theorem dX11_staffMember_21 : decode cX11_staffMember 21 = .ok (.invokevirtual 90, 3) := by decide +kernel
theorem dX11_staffMember_24 : decode cX11_staffMember 24 = .ok (.iconst 1, 1) := by decide +kernel
theorem dX11_staffMember_25 : decode cX11_staffMember 25 = .ok (.isub, 1) := by decide +kernel
theorem dX11_staffMember_26 : decode cX11_staffMember 26 = .ok (.i2l, 1) := by decide +kernel
theorem dX11_staffMember_27 : decode cX11_staffMember 27 = .ok (.invokestatic 75, 3) := by decide +kernel
theorem dX11_staffMember_30 : decode cX11_staffMember 30 = .ok (.ifCond .eq 15, 3) := by decide +kernel
theorem dX11_staffMember_33 : decode cX11_staffMember 33 = .ok (.aload_n 0, 1) := by decide +kernel
theorem dX11_staffMember_34 : decode cX11_staffMember 34 = .ok (.iload_n 1, 1) := by decide +kernel
theorem dX11_staffMember_35 : decode cX11_staffMember 35 = .ok (.bipush 14, 2) := by decide +kernel
theorem dX11_staffMember_37 : decode cX11_staffMember 37 = .ok (.iload_n 2, 1) := by decide +kernel
theorem dX11_staffMember_38 : decode cX11_staffMember 38 = .ok (.iadd, 1) := by decide +kernel
theorem dX11_staffMember_39 : decode cX11_staffMember 39 = .ok (.invokevirtual 90, 3) := by decide +kernel
theorem dX11_staffMember_42 : decode cX11_staffMember 42 = .ok (.goto 4, 3) := by decide +kernel
theorem dX11_staffMember_45 : decode cX11_staffMember 45 = .ok (.iconst (-1), 1) := by decide +kernel
theorem dX11_staffMember_46 : decode cX11_staffMember 46 = .ok (.ireturn, 1) := by decide +kernel
theorem dX11_isTested_0 : decode cX11_isTested 0 = .ok (.aload_n 0, 1) := by decide +kernel
theorem dX11_isTested_1 : decode cX11_isTested 1 = .ok (.aload_n 0, 1) := by decide +kernel
theorem dX11_isTested_2 : decode cX11_isTested 2 = .ok (.iload_n 1, 1) := by decide +kernel
theorem dX11_isTested_3 : decode cX11_isTested 3 = .ok (.iload_n 2, 1) := by decide +kernel
theorem dX11_isTested_4 : decode cX11_isTested 4 = .ok (.invokevirtual 400, 3) := by decide +kernel
theorem dX11_isTested_7 : decode cX11_isTested 7 = .ok (.invokevirtual 210, 3) := by decide +kernel
theorem dX11_isTested_10 : decode cX11_isTested 10 = .ok (.ifCond .eq 22, 3) := by decide +kernel
theorem dX11_isTested_13 : decode cX11_isTested 13 = .ok (.aload_n 0, 1) := by decide +kernel
theorem dX11_isTested_14 : decode cX11_isTested 14 = .ok (.getfield 7, 3) := by decide +kernel
theorem dX11_isTested_17 : decode cX11_isTested 17 = .ok (.iload_n 1, 1) := by decide +kernel
theorem dX11_isTested_18 : decode cX11_isTested 18 = .ok (.iload_n 2, 1) := by decide +kernel
theorem dX11_isTested_19 : decode cX11_isTested 19 = .ok (.iconst 0, 1) := by decide +kernel
theorem dX11_isTested_20 : decode cX11_isTested 20 = .ok (.invokestatic 99, 3) := by decide +kernel
theorem dX11_isTested_23 : decode cX11_isTested 23 = .ok (.iaload, 1) := by decide +kernel
theorem dX11_isTested_24 : decode cX11_isTested 24 = .ok (.iconst 1, 1) := by decide +kernel
theorem dX11_isTested_25 : decode cX11_isTested 25 = .ok (.if_icmp .ne 7, 3) := by decide +kernel
theorem dX11_isTested_28 : decode cX11_isTested 28 = .ok (.iconst 1, 1) := by decide +kernel
theorem dX11_isTested_29 : decode cX11_isTested 29 = .ok (.goto 4, 3) := by decide +kernel
theorem dX11_isTested_32 : decode cX11_isTested 32 = .ok (.iconst 0, 1) := by decide +kernel
theorem dX11_isTested_33 : decode cX11_isTested 33 = .ok (.ireturn, 1) := by decide +kernel
theorem dX11_seenScore_0 : decode cX11_seenScore 0 = .ok (.aload_n 0, 1) := by decide +kernel
theorem dX11_seenScore_1 : decode cX11_seenScore 1 = .ok (.aload_n 0, 1) := by decide +kernel
theorem dX11_seenScore_2 : decode cX11_seenScore 2 = .ok (.iload_n 1, 1) := by decide +kernel
theorem dX11_seenScore_3 : decode cX11_seenScore 3 = .ok (.iload_n 2, 1) := by decide +kernel
theorem dX11_seenScore_4 : decode cX11_seenScore 4 = .ok (.invokevirtual 400, 3) := by decide +kernel
theorem dX11_seenScore_7 : decode cX11_seenScore 7 = .ok (.invokevirtual 210, 3) := by decide +kernel
theorem dX11_seenScore_10 : decode cX11_seenScore 10 = .ok (.ifCond .eq 12, 3) := by decide +kernel
theorem dX11_seenScore_13 : decode cX11_seenScore 13 = .ok (.aload_n 0, 1) := by decide +kernel
theorem dX11_seenScore_14 : decode cX11_seenScore 14 = .ok (.iload_n 1, 1) := by decide +kernel
theorem dX11_seenScore_15 : decode cX11_seenScore 15 = .ok (.iload_n 2, 1) := by decide +kernel
theorem dX11_seenScore_16 : decode cX11_seenScore 16 = .ok (.invokevirtual 106, 3) := by decide +kernel
theorem dX11_seenScore_19 : decode cX11_seenScore 19 = .ok (.goto 4, 3) := by decide +kernel
theorem dX11_seenScore_22 : decode cX11_seenScore 22 = .ok (.iconst 0, 1) := by decide +kernel
theorem dX11_seenScore_23 : decode cX11_seenScore 23 = .ok (.ireturn, 1) := by decide +kernel
theorem dX11_pairReason_0 : decode cX11_pairReason 0 = .ok (.aload_n 0, 1) := by decide +kernel
theorem dX11_pairReason_1 : decode cX11_pairReason 1 = .ok (.aload_n 0, 1) := by decide +kernel
theorem dX11_pairReason_2 : decode cX11_pairReason 2 = .ok (.iload_n 1, 1) := by decide +kernel
theorem dX11_pairReason_3 : decode cX11_pairReason 3 = .ok (.iload_n 2, 1) := by decide +kernel
theorem dX11_pairReason_4 : decode cX11_pairReason 4 = .ok (.invokevirtual 400, 3) := by decide +kernel
theorem dX11_pairReason_7 : decode cX11_pairReason 7 = .ok (.invokevirtual 210, 3) := by decide +kernel
theorem dX11_pairReason_10 : decode cX11_pairReason 10 = .ok (.ifCond .eq 12, 3) := by decide +kernel
theorem dX11_pairReason_13 : decode cX11_pairReason 13 = .ok (.aload_n 0, 1) := by decide +kernel
theorem dX11_pairReason_14 : decode cX11_pairReason 14 = .ok (.iload_n 1, 1) := by decide +kernel
theorem dX11_pairReason_15 : decode cX11_pairReason 15 = .ok (.iload_n 2, 1) := by decide +kernel
theorem dX11_pairReason_16 : decode cX11_pairReason 16 = .ok (.invokevirtual 109, 3) := by decide +kernel
theorem dX11_pairReason_19 : decode cX11_pairReason 19 = .ok (.goto 4, 3) := by decide +kernel
theorem dX11_pairReason_22 : decode cX11_pairReason 22 = .ok (.iconst 0, 1) := by decide +kernel
theorem dX11_pairReason_23 : decode cX11_pairReason 23 = .ok (.ireturn, 1) := by decide +kernel
theorem dX11_valleyAt_0 : decode cX11_valleyAt 0 = .ok (.iconst 0, 1) := by decide +kernel
theorem dX11_valleyAt_1 : decode cX11_valleyAt 1 = .ok (.istore_n 3, 1) := by decide +kernel
theorem dX11_valleyAt_2 : decode cX11_valleyAt 2 = .ok (.iload_n 3, 1) := by decide +kernel
theorem dX11_valleyAt_3 : decode cX11_valleyAt 3 = .ok (.aload_n 0, 1) := by decide +kernel
theorem dX11_valleyAt_4 : decode cX11_valleyAt 4 = .ok (.getfield 7, 3) := by decide +kernel
theorem dX11_valleyAt_7 : decode cX11_valleyAt 7 = .ok (.iconst 1, 1) := by decide +kernel
theorem dX11_valleyAt_8 : decode cX11_valleyAt 8 = .ok (.iaload, 1) := by decide +kernel
theorem dX11_valleyAt_9 : decode cX11_valleyAt 9 = .ok (.if_icmp .ge 85, 3) := by decide +kernel
theorem dX11_valleyAt_12 : decode cX11_valleyAt 12 = .ok (.aload_n 0, 1) := by decide +kernel
theorem dX11_valleyAt_13 : decode cX11_valleyAt 13 = .ok (.iload_n 3, 1) := by decide +kernel
theorem dX11_valleyAt_14 : decode cX11_valleyAt 14 = .ok (.iload_n 1, 1) := by decide +kernel
theorem dX11_valleyAt_15 : decode cX11_valleyAt 15 = .ok (.invokevirtual 128, 3) := by decide +kernel
theorem dX11_valleyAt_18 : decode cX11_valleyAt 18 = .ok (.ifCond .ne 6, 3) := by decide +kernel
theorem dX11_valleyAt_21 : decode cX11_valleyAt 21 = .ok (.goto 67, 3) := by decide +kernel
theorem dX11_valleyAt_24 : decode cX11_valleyAt 24 = .ok (.iconst 0, 1) := by decide +kernel
theorem dX11_valleyAt_25 : decode cX11_valleyAt 25 = .ok (.istore 4, 2) := by decide +kernel
theorem dX11_valleyAt_27 : decode cX11_valleyAt 27 = .ok (.iconst 0, 1) := by decide +kernel
theorem dX11_valleyAt_28 : decode cX11_valleyAt 28 = .ok (.istore 5, 2) := by decide +kernel
theorem dX11_valleyAt_30 : decode cX11_valleyAt 30 = .ok (.iload 5, 2) := by decide +kernel
theorem dX11_valleyAt_32 : decode cX11_valleyAt 32 = .ok (.aload_n 0, 1) := by decide +kernel
theorem dX11_valleyAt_33 : decode cX11_valleyAt 33 = .ok (.getfield 7, 3) := by decide +kernel
theorem dX11_valleyAt_36 : decode cX11_valleyAt 36 = .ok (.iconst 1, 1) := by decide +kernel
theorem dX11_valleyAt_37 : decode cX11_valleyAt 37 = .ok (.iaload, 1) := by decide +kernel
theorem dX11_valleyAt_38 : decode cX11_valleyAt 38 = .ok (.if_icmp .ge 42, 3) := by decide +kernel
theorem dX11_valleyAt_41 : decode cX11_valleyAt 41 = .ok (.iload 4, 2) := by decide +kernel
theorem dX11_valleyAt_43 : decode cX11_valleyAt 43 = .ok (.aload_n 0, 1) := by decide +kernel
theorem dX11_valleyAt_44 : decode cX11_valleyAt 44 = .ok (.iload 5, 2) := by decide +kernel
theorem dX11_valleyAt_46 : decode cX11_valleyAt 46 = .ok (.iload_n 1, 1) := by decide +kernel
theorem dX11_valleyAt_47 : decode cX11_valleyAt 47 = .ok (.invokevirtual 128, 3) := by decide +kernel
theorem dX11_valleyAt_50 : decode cX11_valleyAt 50 = .ok (.ifCond .eq 17, 3) := by decide +kernel
theorem dX11_valleyAt_53 : decode cX11_valleyAt 53 = .ok (.aload_n 0, 1) := by decide +kernel
theorem dX11_valleyAt_54 : decode cX11_valleyAt 54 = .ok (.iload 5, 2) := by decide +kernel
theorem dX11_valleyAt_56 : decode cX11_valleyAt 56 = .ok (.iload_n 3, 1) := by decide +kernel
theorem dX11_valleyAt_57 : decode cX11_valleyAt 57 = .ok (.invokevirtual 132, 3) := by decide +kernel
theorem dX11_valleyAt_60 : decode cX11_valleyAt 60 = .ok (.ifCond .eq 7, 3) := by decide +kernel
theorem dX11_valleyAt_63 : decode cX11_valleyAt 63 = .ok (.iconst 1, 1) := by decide +kernel
theorem dX11_valleyAt_64 : decode cX11_valleyAt 64 = .ok (.goto 4, 3) := by decide +kernel
theorem dX11_valleyAt_67 : decode cX11_valleyAt 67 = .ok (.iconst 0, 1) := by decide +kernel
theorem dX11_valleyAt_68 : decode cX11_valleyAt 68 = .ok (.invokestatic 403, 3) := by decide +kernel
theorem dX11_valleyAt_71 : decode cX11_valleyAt 71 = .ok (.iadd, 1) := by decide +kernel
theorem dX11_valleyAt_72 : decode cX11_valleyAt 72 = .ok (.istore 4, 2) := by decide +kernel
theorem dX11_valleyAt_74 : decode cX11_valleyAt 74 = .ok (.iinc 5 1, 3) := by decide +kernel
theorem dX11_valleyAt_77 : decode cX11_valleyAt 77 = .ok (.goto (-47), 3) := by decide +kernel
theorem dX11_valleyAt_80 : decode cX11_valleyAt 80 = .ok (.iload 4, 2) := by decide +kernel
theorem dX11_valleyAt_82 : decode cX11_valleyAt 82 = .ok (.iload_n 2, 1) := by decide +kernel
theorem dX11_valleyAt_83 : decode cX11_valleyAt 83 = .ok (.if_icmp .ne 5, 3) := by decide +kernel
theorem dX11_valleyAt_86 : decode cX11_valleyAt 86 = .ok (.iload_n 3, 1) := by decide +kernel
theorem dX11_valleyAt_87 : decode cX11_valleyAt 87 = .ok (.ireturn, 1) := by decide +kernel
theorem dX11_valleyAt_88 : decode cX11_valleyAt 88 = .ok (.iinc 3 1, 3) := by decide +kernel
theorem dX11_valleyAt_91 : decode cX11_valleyAt 91 = .ok (.goto (-89), 3) := by decide +kernel
theorem dX11_valleyAt_94 : decode cX11_valleyAt 94 = .ok (.iconst (-1), 1) := by decide +kernel
theorem dX11_valleyAt_95 : decode cX11_valleyAt 95 = .ok (.ireturn, 1) := by decide +kernel
theorem dX11_preferredValley_0 : decode cX11_preferredValley 0 = .ok (.aload_n 0, 1) := by decide +kernel
theorem dX11_preferredValley_1 : decode cX11_preferredValley 1 = .ok (.aload_n 0, 1) := by decide +kernel
theorem dX11_preferredValley_2 : decode cX11_preferredValley 2 = .ok (.iload_n 1, 1) := by decide +kernel
theorem dX11_preferredValley_3 : decode cX11_preferredValley 3 = .ok (.invokevirtual 83, 3) := by decide +kernel
theorem dX11_preferredValley_6 : decode cX11_preferredValley 6 = .ok (.invokevirtual 210, 3) := by decide +kernel
theorem dX11_preferredValley_9 : decode cX11_preferredValley 9 = .ok (.ifCond .eq 12, 3) := by decide +kernel
theorem dX11_preferredValley_12 : decode cX11_preferredValley 12 = .ok (.aload_n 0, 1) := by decide +kernel
theorem dX11_preferredValley_13 : decode cX11_preferredValley 13 = .ok (.iload_n 1, 1) := by decide +kernel
theorem dX11_preferredValley_14 : decode cX11_preferredValley 14 = .ok (.iload_n 2, 1) := by decide +kernel
theorem dX11_preferredValley_15 : decode cX11_preferredValley 15 = .ok (.invokevirtual 406, 3) := by decide +kernel
theorem dX11_preferredValley_18 : decode cX11_preferredValley 18 = .ok (.goto 4, 3) := by decide +kernel
theorem dX11_preferredValley_21 : decode cX11_preferredValley 21 = .ok (.iconst 0, 1) := by decide +kernel
theorem dX11_preferredValley_22 : decode cX11_preferredValley 22 = .ok (.ireturn, 1) := by decide +kernel
theorem dX11_echoAt_0 : decode cX11_echoAt 0 = .ok (.iconst 0, 1) := by decide +kernel
theorem dX11_echoAt_1 : decode cX11_echoAt 1 = .ok (.istore_n 3, 1) := by decide +kernel
theorem dX11_echoAt_2 : decode cX11_echoAt 2 = .ok (.iload_n 3, 1) := by decide +kernel
theorem dX11_echoAt_3 : decode cX11_echoAt 3 = .ok (.aload_n 0, 1) := by decide +kernel
theorem dX11_echoAt_4 : decode cX11_echoAt 4 = .ok (.getfield 7, 3) := by decide +kernel
theorem dX11_echoAt_7 : decode cX11_echoAt 7 = .ok (.iconst 0, 1) := by decide +kernel
theorem dX11_echoAt_8 : decode cX11_echoAt 8 = .ok (.iaload, 1) := by decide +kernel
theorem dX11_echoAt_9 : decode cX11_echoAt 9 = .ok (.if_icmp .ge 86, 3) := by decide +kernel
theorem dX11_echoAt_12 : decode cX11_echoAt 12 = .ok (.aload_n 0, 1) := by decide +kernel
theorem dX11_echoAt_13 : decode cX11_echoAt 13 = .ok (.iload_n 1, 1) := by decide +kernel
theorem dX11_echoAt_14 : decode cX11_echoAt 14 = .ok (.iload_n 3, 1) := by decide +kernel
theorem dX11_echoAt_15 : decode cX11_echoAt 15 = .ok (.invokevirtual 128, 3) := by decide +kernel
theorem dX11_echoAt_18 : decode cX11_echoAt 18 = .ok (.ifCond .ne 6, 3) := by decide +kernel
theorem dX11_echoAt_21 : decode cX11_echoAt 21 = .ok (.goto 68, 3) := by decide +kernel
theorem dX11_echoAt_24 : decode cX11_echoAt 24 = .ok (.iconst 0, 1) := by decide +kernel
theorem dX11_echoAt_25 : decode cX11_echoAt 25 = .ok (.istore 4, 2) := by decide +kernel
theorem dX11_echoAt_27 : decode cX11_echoAt 27 = .ok (.iconst 0, 1) := by decide +kernel
theorem dX11_echoAt_28 : decode cX11_echoAt 28 = .ok (.istore 5, 2) := by decide +kernel
theorem dX11_echoAt_30 : decode cX11_echoAt 30 = .ok (.iload 5, 2) := by decide +kernel
theorem dX11_echoAt_32 : decode cX11_echoAt 32 = .ok (.aload_n 0, 1) := by decide +kernel
theorem dX11_echoAt_33 : decode cX11_echoAt 33 = .ok (.getfield 7, 3) := by decide +kernel
theorem dX11_echoAt_36 : decode cX11_echoAt 36 = .ok (.iconst 0, 1) := by decide +kernel
theorem dX11_echoAt_37 : decode cX11_echoAt 37 = .ok (.iaload, 1) := by decide +kernel
theorem dX11_echoAt_38 : decode cX11_echoAt 38 = .ok (.if_icmp .ge 43, 3) := by decide +kernel
theorem dX11_echoAt_41 : decode cX11_echoAt 41 = .ok (.iload 4, 2) := by decide +kernel
theorem dX11_echoAt_43 : decode cX11_echoAt 43 = .ok (.aload_n 0, 1) := by decide +kernel
theorem dX11_echoAt_44 : decode cX11_echoAt 44 = .ok (.iload_n 1, 1) := by decide +kernel
theorem dX11_echoAt_45 : decode cX11_echoAt 45 = .ok (.iload 5, 2) := by decide +kernel
theorem dX11_echoAt_47 : decode cX11_echoAt 47 = .ok (.invokevirtual 128, 3) := by decide +kernel
theorem dX11_echoAt_50 : decode cX11_echoAt 50 = .ok (.ifCond .eq 18, 3) := by decide +kernel
theorem dX11_echoAt_53 : decode cX11_echoAt 53 = .ok (.aload_n 0, 1) := by decide +kernel
theorem dX11_echoAt_54 : decode cX11_echoAt 54 = .ok (.iload_n 1, 1) := by decide +kernel
theorem dX11_echoAt_55 : decode cX11_echoAt 55 = .ok (.iload 5, 2) := by decide +kernel
theorem dX11_echoAt_57 : decode cX11_echoAt 57 = .ok (.iload_n 3, 1) := by decide +kernel
theorem dX11_echoAt_58 : decode cX11_echoAt 58 = .ok (.invokevirtual 135, 3) := by decide +kernel
theorem dX11_echoAt_61 : decode cX11_echoAt 61 = .ok (.ifCond .eq 7, 3) := by decide +kernel
theorem dX11_echoAt_64 : decode cX11_echoAt 64 = .ok (.iconst 1, 1) := by decide +kernel
theorem dX11_echoAt_65 : decode cX11_echoAt 65 = .ok (.goto 4, 3) := by decide +kernel
theorem dX11_echoAt_68 : decode cX11_echoAt 68 = .ok (.iconst 0, 1) := by decide +kernel
theorem dX11_echoAt_69 : decode cX11_echoAt 69 = .ok (.invokestatic 403, 3) := by decide +kernel
theorem dX11_echoAt_72 : decode cX11_echoAt 72 = .ok (.iadd, 1) := by decide +kernel
theorem dX11_echoAt_73 : decode cX11_echoAt 73 = .ok (.istore 4, 2) := by decide +kernel
theorem dX11_echoAt_75 : decode cX11_echoAt 75 = .ok (.iinc 5 1, 3) := by decide +kernel
theorem dX11_echoAt_78 : decode cX11_echoAt 78 = .ok (.goto (-48), 3) := by decide +kernel
theorem dX11_echoAt_81 : decode cX11_echoAt 81 = .ok (.iload 4, 2) := by decide +kernel
theorem dX11_echoAt_83 : decode cX11_echoAt 83 = .ok (.iload_n 2, 1) := by decide +kernel
theorem dX11_echoAt_84 : decode cX11_echoAt 84 = .ok (.if_icmp .ne 5, 3) := by decide +kernel
theorem dX11_echoAt_87 : decode cX11_echoAt 87 = .ok (.iload_n 3, 1) := by decide +kernel
theorem dX11_echoAt_88 : decode cX11_echoAt 88 = .ok (.ireturn, 1) := by decide +kernel
theorem dX11_echoAt_89 : decode cX11_echoAt 89 = .ok (.iinc 3 1, 3) := by decide +kernel
theorem dX11_echoAt_92 : decode cX11_echoAt 92 = .ok (.goto (-90), 3) := by decide +kernel
theorem dX11_echoAt_95 : decode cX11_echoAt 95 = .ok (.iconst (-1), 1) := by decide +kernel
theorem dX11_echoAt_96 : decode cX11_echoAt 96 = .ok (.ireturn, 1) := by decide +kernel
theorem dX11_preferredEcho_0 : decode cX11_preferredEcho 0 = .ok (.aload_n 0, 1) := by decide +kernel
theorem dX11_preferredEcho_1 : decode cX11_preferredEcho 1 = .ok (.aload_n 0, 1) := by decide +kernel
theorem dX11_preferredEcho_2 : decode cX11_preferredEcho 2 = .ok (.iload_n 1, 1) := by decide +kernel
theorem dX11_preferredEcho_3 : decode cX11_preferredEcho 3 = .ok (.invokevirtual 79, 3) := by decide +kernel
theorem dX11_preferredEcho_6 : decode cX11_preferredEcho 6 = .ok (.invokevirtual 210, 3) := by decide +kernel
theorem dX11_preferredEcho_9 : decode cX11_preferredEcho 9 = .ok (.ifCond .eq 12, 3) := by decide +kernel
theorem dX11_preferredEcho_12 : decode cX11_preferredEcho 12 = .ok (.aload_n 0, 1) := by decide +kernel
theorem dX11_preferredEcho_13 : decode cX11_preferredEcho 13 = .ok (.iload_n 1, 1) := by decide +kernel
theorem dX11_preferredEcho_14 : decode cX11_preferredEcho 14 = .ok (.iload_n 2, 1) := by decide +kernel
theorem dX11_preferredEcho_15 : decode cX11_preferredEcho 15 = .ok (.invokevirtual 409, 3) := by decide +kernel
theorem dX11_preferredEcho_18 : decode cX11_preferredEcho 18 = .ok (.goto 4, 3) := by decide +kernel
theorem dX11_preferredEcho_21 : decode cX11_preferredEcho 21 = .ok (.iconst 0, 1) := by decide +kernel
theorem dX11_preferredEcho_22 : decode cX11_preferredEcho 22 = .ok (.ireturn, 1) := by decide +kernel
theorem dX11_wouldLeave_0 : decode cX11_wouldLeave 0 = .ok (.aload_n 0, 1) := by decide +kernel
theorem dX11_wouldLeave_1 : decode cX11_wouldLeave 1 = .ok (.iload_n 1, 1) := by decide +kernel
theorem dX11_wouldLeave_2 : decode cX11_wouldLeave 2 = .ok (.invokevirtual 149, 3) := by decide +kernel
theorem dX11_wouldLeave_5 : decode cX11_wouldLeave 5 = .ok (.ifCond .ne 5, 3) := by decide +kernel
theorem dX11_wouldLeave_8 : decode cX11_wouldLeave 8 = .ok (.iconst 1, 1) := by decide +kernel
theorem dX11_wouldLeave_9 : decode cX11_wouldLeave 9 = .ok (.ireturn, 1) := by decide +kernel
theorem dX11_wouldLeave_10 : decode cX11_wouldLeave 10 = .ok (.aload_n 0, 1) := by decide +kernel
theorem dX11_wouldLeave_11 : decode cX11_wouldLeave 11 = .ok (.iload_n 1, 1) := by decide +kernel
theorem dX11_wouldLeave_12 : decode cX11_wouldLeave 12 = .ok (.invokevirtual 119, 3) := by decide +kernel
theorem dX11_wouldLeave_15 : decode cX11_wouldLeave 15 = .ok (.istore_n 3, 1) := by decide +kernel
theorem dX11_wouldLeave_16 : decode cX11_wouldLeave 16 = .ok (.aload_n 0, 1) := by decide +kernel
theorem dX11_wouldLeave_17 : decode cX11_wouldLeave 17 = .ok (.iload_n 3, 1) := by decide +kernel
theorem dX11_wouldLeave_18 : decode cX11_wouldLeave 18 = .ok (.iload_n 1, 1) := by decide +kernel
theorem dX11_wouldLeave_19 : decode cX11_wouldLeave 19 = .ok (.invokevirtual 128, 3) := by decide +kernel
theorem dX11_wouldLeave_22 : decode cX11_wouldLeave 22 = .ok (.ifCond .eq 12, 3) := by decide +kernel
theorem dX11_wouldLeave_25 : decode cX11_wouldLeave 25 = .ok (.aload_n 0, 1) := by decide +kernel
theorem dX11_wouldLeave_26 : decode cX11_wouldLeave 26 = .ok (.iload_n 2, 1) := by decide +kernel
theorem dX11_wouldLeave_27 : decode cX11_wouldLeave 27 = .ok (.iload_n 3, 1) := by decide +kernel
theorem dX11_wouldLeave_28 : decode cX11_wouldLeave 28 = .ok (.invokevirtual 132, 3) := by decide +kernel
theorem dX11_wouldLeave_31 : decode cX11_wouldLeave 31 = .ok (.ifCond .eq 7, 3) := by decide +kernel
theorem dX11_wouldLeave_34 : decode cX11_wouldLeave 34 = .ok (.iconst 1, 1) := by decide +kernel
theorem dX11_wouldLeave_35 : decode cX11_wouldLeave 35 = .ok (.goto 4, 3) := by decide +kernel
theorem dX11_wouldLeave_38 : decode cX11_wouldLeave 38 = .ok (.iconst 0, 1) := by decide +kernel
theorem dX11_wouldLeave_39 : decode cX11_wouldLeave 39 = .ok (.ireturn, 1) := by decide +kernel
theorem dX11_wouldTake_0 : decode cX11_wouldTake 0 = .ok (.aload_n 0, 1) := by decide +kernel
theorem dX11_wouldTake_1 : decode cX11_wouldTake 1 = .ok (.iload_n 1, 1) := by decide +kernel
theorem dX11_wouldTake_2 : decode cX11_wouldTake 2 = .ok (.invokevirtual 139, 3) := by decide +kernel
theorem dX11_wouldTake_5 : decode cX11_wouldTake 5 = .ok (.ifCond .le 5, 3) := by decide +kernel
theorem dX11_wouldTake_8 : decode cX11_wouldTake 8 = .ok (.iconst 1, 1) := by decide +kernel
theorem dX11_wouldTake_9 : decode cX11_wouldTake 9 = .ok (.ireturn, 1) := by decide +kernel
theorem dX11_wouldTake_10 : decode cX11_wouldTake 10 = .ok (.iconst 0, 1) := by decide +kernel
theorem dX11_wouldTake_11 : decode cX11_wouldTake 11 = .ok (.istore_n 3, 1) := by decide +kernel
theorem dX11_wouldTake_12 : decode cX11_wouldTake 12 = .ok (.iload_n 3, 1) := by decide +kernel
theorem dX11_wouldTake_13 : decode cX11_wouldTake 13 = .ok (.aload_n 0, 1) := by decide +kernel
theorem dX11_wouldTake_14 : decode cX11_wouldTake 14 = .ok (.iload_n 1, 1) := by decide +kernel
theorem dX11_wouldTake_15 : decode cX11_wouldTake 15 = .ok (.bipush 13, 2) := by decide +kernel
theorem dX11_wouldTake_17 : decode cX11_wouldTake 17 = .ok (.invokevirtual 90, 3) := by decide +kernel
theorem dX11_wouldTake_20 : decode cX11_wouldTake 20 = .ok (.if_icmp .ge 29, 3) := by decide +kernel
theorem dX11_wouldTake_23 : decode cX11_wouldTake 23 = .ok (.aload_n 0, 1) := by decide +kernel
theorem dX11_wouldTake_24 : decode cX11_wouldTake 24 = .ok (.iload_n 1, 1) := by decide +kernel
theorem dX11_wouldTake_25 : decode cX11_wouldTake 25 = .ok (.iload_n 2, 1) := by decide +kernel
theorem dX11_wouldTake_26 : decode cX11_wouldTake 26 = .ok (.aload_n 0, 1) := by decide +kernel
theorem dX11_wouldTake_27 : decode cX11_wouldTake 27 = .ok (.iload_n 1, 1) := by decide +kernel
theorem dX11_wouldTake_28 : decode cX11_wouldTake 28 = .ok (.bipush 14, 2) := by decide +kernel
theorem dX11_wouldTake_30 : decode cX11_wouldTake 30 = .ok (.iload_n 3, 1) := by decide +kernel
theorem dX11_wouldTake_31 : decode cX11_wouldTake 31 = .ok (.iadd, 1) := by decide +kernel
theorem dX11_wouldTake_32 : decode cX11_wouldTake 32 = .ok (.invokevirtual 90, 3) := by decide +kernel
theorem dX11_wouldTake_35 : decode cX11_wouldTake 35 = .ok (.invokevirtual 135, 3) := by decide +kernel
theorem dX11_wouldTake_38 : decode cX11_wouldTake 38 = .ok (.ifCond .eq 5, 3) := by decide +kernel
theorem dX11_wouldTake_41 : decode cX11_wouldTake 41 = .ok (.iconst 1, 1) := by decide +kernel
theorem dX11_wouldTake_42 : decode cX11_wouldTake 42 = .ok (.ireturn, 1) := by decide +kernel
theorem dX11_wouldTake_43 : decode cX11_wouldTake 43 = .ok (.iinc 3 1, 3) := by decide +kernel
theorem dX11_wouldTake_46 : decode cX11_wouldTake 46 = .ok (.goto (-34), 3) := by decide +kernel
theorem dX11_wouldTake_49 : decode cX11_wouldTake 49 = .ok (.iconst 0, 1) := by decide +kernel
theorem dX11_wouldTake_50 : decode cX11_wouldTake 50 = .ok (.ireturn, 1) := by decide +kernel
theorem dX11_isBlocking_0 : decode cX11_isBlocking 0 = .ok (.aload_n 0, 1) := by decide +kernel
theorem dX11_isBlocking_1 : decode cX11_isBlocking 1 = .ok (.iload_n 2, 1) := by decide +kernel
theorem dX11_isBlocking_2 : decode cX11_isBlocking 2 = .ok (.invokevirtual 119, 3) := by decide +kernel
theorem dX11_isBlocking_5 : decode cX11_isBlocking 5 = .ok (.iload_n 1, 1) := by decide +kernel
theorem dX11_isBlocking_6 : decode cX11_isBlocking 6 = .ok (.if_icmp .eq 34, 3) := by decide +kernel
theorem dX11_isBlocking_9 : decode cX11_isBlocking 9 = .ok (.aload_n 0, 1) := by decide +kernel
theorem dX11_isBlocking_10 : decode cX11_isBlocking 10 = .ok (.iload_n 1, 1) := by decide +kernel
theorem dX11_isBlocking_11 : decode cX11_isBlocking 11 = .ok (.iload_n 2, 1) := by decide +kernel
theorem dX11_isBlocking_12 : decode cX11_isBlocking 12 = .ok (.invokevirtual 128, 3) := by decide +kernel
theorem dX11_isBlocking_15 : decode cX11_isBlocking 15 = .ok (.ifCond .eq 25, 3) := by decide +kernel
theorem dX11_isBlocking_18 : decode cX11_isBlocking 18 = .ok (.aload_n 0, 1) := by decide +kernel
theorem dX11_isBlocking_19 : decode cX11_isBlocking 19 = .ok (.iload_n 2, 1) := by decide +kernel
theorem dX11_isBlocking_20 : decode cX11_isBlocking 20 = .ok (.iload_n 1, 1) := by decide +kernel
theorem dX11_isBlocking_21 : decode cX11_isBlocking 21 = .ok (.invokevirtual 412, 3) := by decide +kernel
theorem dX11_isBlocking_24 : decode cX11_isBlocking 24 = .ok (.ifCond .eq 16, 3) := by decide +kernel
theorem dX11_isBlocking_27 : decode cX11_isBlocking 27 = .ok (.aload_n 0, 1) := by decide +kernel
theorem dX11_isBlocking_28 : decode cX11_isBlocking 28 = .ok (.iload_n 1, 1) := by decide +kernel
theorem dX11_isBlocking_29 : decode cX11_isBlocking 29 = .ok (.iload_n 2, 1) := by decide +kernel
theorem dX11_isBlocking_30 : decode cX11_isBlocking 30 = .ok (.invokevirtual 415, 3) := by decide +kernel
theorem dX11_isBlocking_33 : decode cX11_isBlocking 33 = .ok (.ifCond .eq 7, 3) := by decide +kernel
theorem dX11_isBlocking_36 : decode cX11_isBlocking 36 = .ok (.iconst 1, 1) := by decide +kernel
theorem dX11_isBlocking_37 : decode cX11_isBlocking 37 = .ok (.goto 4, 3) := by decide +kernel
theorem dX11_isBlocking_40 : decode cX11_isBlocking 40 = .ok (.iconst 0, 1) := by decide +kernel
theorem dX11_isBlocking_41 : decode cX11_isBlocking 41 = .ok (.ireturn, 1) := by decide +kernel
theorem dX11_blockingPairs_0 : decode cX11_blockingPairs 0 = .ok (.aload_n 0, 1) := by decide +kernel
theorem dX11_blockingPairs_1 : decode cX11_blockingPairs 1 = .ok (.iconst 0, 1) := by decide +kernel
theorem dX11_blockingPairs_2 : decode cX11_blockingPairs 2 = .ok (.putfield 68, 3) := by decide +kernel
theorem dX11_blockingPairs_5 : decode cX11_blockingPairs 5 = .ok (.iconst 0, 1) := by decide +kernel
theorem dX11_blockingPairs_6 : decode cX11_blockingPairs 6 = .ok (.istore_n 1, 1) := by decide +kernel
theorem dX11_blockingPairs_7 : decode cX11_blockingPairs 7 = .ok (.iconst 0, 1) := by decide +kernel
theorem dX11_blockingPairs_8 : decode cX11_blockingPairs 8 = .ok (.istore_n 2, 1) := by decide +kernel
theorem dX11_blockingPairs_9 : decode cX11_blockingPairs 9 = .ok (.iload_n 2, 1) := by decide +kernel
theorem dX11_blockingPairs_10 : decode cX11_blockingPairs 10 = .ok (.aload_n 0, 1) := by decide +kernel
theorem dX11_blockingPairs_11 : decode cX11_blockingPairs 11 = .ok (.getfield 7, 3) := by decide +kernel
theorem dX11_blockingPairs_14 : decode cX11_blockingPairs 14 = .ok (.iconst 1, 1) := by decide +kernel
theorem dX11_blockingPairs_15 : decode cX11_blockingPairs 15 = .ok (.iaload, 1) := by decide +kernel
theorem dX11_blockingPairs_16 : decode cX11_blockingPairs 16 = .ok (.if_icmp .ge 39, 3) := by decide +kernel
theorem dX11_blockingPairs_19 : decode cX11_blockingPairs 19 = .ok (.iconst 0, 1) := by decide +kernel
theorem dX11_blockingPairs_20 : decode cX11_blockingPairs 20 = .ok (.istore_n 3, 1) := by decide +kernel
theorem dX11_blockingPairs_21 : decode cX11_blockingPairs 21 = .ok (.iload_n 3, 1) := by decide +kernel
theorem dX11_blockingPairs_22 : decode cX11_blockingPairs 22 = .ok (.aload_n 0, 1) := by decide +kernel
theorem dX11_blockingPairs_23 : decode cX11_blockingPairs 23 = .ok (.getfield 7, 3) := by decide +kernel
theorem dX11_blockingPairs_26 : decode cX11_blockingPairs 26 = .ok (.iconst 0, 1) := by decide +kernel
theorem dX11_blockingPairs_27 : decode cX11_blockingPairs 27 = .ok (.iaload, 1) := by decide +kernel
theorem dX11_blockingPairs_28 : decode cX11_blockingPairs 28 = .ok (.if_icmp .ge 21, 3) := by decide +kernel
theorem dX11_blockingPairs_31 : decode cX11_blockingPairs 31 = .ok (.iload_n 1, 1) := by decide +kernel
theorem dX11_blockingPairs_32 : decode cX11_blockingPairs 32 = .ok (.aload_n 0, 1) := by decide +kernel
theorem dX11_blockingPairs_33 : decode cX11_blockingPairs 33 = .ok (.iload_n 2, 1) := by decide +kernel
theorem dX11_blockingPairs_34 : decode cX11_blockingPairs 34 = .ok (.iload_n 3, 1) := by decide +kernel
theorem dX11_blockingPairs_35 : decode cX11_blockingPairs 35 = .ok (.invokevirtual 418, 3) := by decide +kernel
theorem dX11_blockingPairs_38 : decode cX11_blockingPairs 38 = .ok (.invokestatic 403, 3) := by decide +kernel
theorem dX11_blockingPairs_41 : decode cX11_blockingPairs 41 = .ok (.iadd, 1) := by decide +kernel
theorem dX11_blockingPairs_42 : decode cX11_blockingPairs 42 = .ok (.istore_n 1, 1) := by decide +kernel
theorem dX11_blockingPairs_43 : decode cX11_blockingPairs 43 = .ok (.iinc 3 1, 3) := by decide +kernel
theorem dX11_blockingPairs_46 : decode cX11_blockingPairs 46 = .ok (.goto (-25), 3) := by decide +kernel
theorem dX11_blockingPairs_49 : decode cX11_blockingPairs 49 = .ok (.iinc 2 1, 3) := by decide +kernel
theorem dX11_blockingPairs_52 : decode cX11_blockingPairs 52 = .ok (.goto (-43), 3) := by decide +kernel
theorem dX11_blockingPairs_55 : decode cX11_blockingPairs 55 = .ok (.iload_n 1, 1) := by decide +kernel
theorem dX11_blockingPairs_56 : decode cX11_blockingPairs 56 = .ok (.ireturn, 1) := by decide +kernel
theorem dX11_resultOf_0 : decode cX11_resultOf 0 = .ok (.aload_n 0, 1) := by decide +kernel
theorem dX11_resultOf_1 : decode cX11_resultOf 1 = .ok (.invokevirtual 421, 3) := by decide +kernel
theorem dX11_resultOf_4 : decode cX11_resultOf 4 = .ok (.aload_n 0, 1) := by decide +kernel
theorem dX11_resultOf_5 : decode cX11_resultOf 5 = .ok (.invokevirtual 174, 3) := by decide +kernel
theorem dX11_resultOf_8 : decode cX11_resultOf 8 = .ok (.aload_n 0, 1) := by decide +kernel
theorem dX11_resultOf_9 : decode cX11_resultOf 9 = .ok (.aload_n 0, 1) := by decide +kernel
theorem dX11_resultOf_10 : decode cX11_resultOf 10 = .ok (.iload_n 1, 1) := by decide +kernel
theorem dX11_resultOf_11 : decode cX11_resultOf 11 = .ok (.invokevirtual 119, 3) := by decide +kernel
theorem dX11_resultOf_14 : decode cX11_resultOf 14 = .ok (.invokevirtual 424, 3) := by decide +kernel
theorem dX11_resultOf_17 : decode cX11_resultOf 17 = .ok (.ireturn, 1) := by decide +kernel
theorem dX11_fairResult_0 : decode cX11_fairResult 0 = .ok (.aload_n 0, 1) := by decide +kernel
theorem dX11_fairResult_1 : decode cX11_fairResult 1 = .ok (.aload_n 0, 1) := by decide +kernel
theorem dX11_fairResult_2 : decode cX11_fairResult 2 = .ok (.iload_n 1, 1) := by decide +kernel
theorem dX11_fairResult_3 : decode cX11_fairResult 3 = .ok (.invokevirtual 83, 3) := by decide +kernel
theorem dX11_fairResult_6 : decode cX11_fairResult 6 = .ok (.invokevirtual 210, 3) := by decide +kernel
theorem dX11_fairResult_9 : decode cX11_fairResult 9 = .ok (.ifCond .eq 11, 3) := by decide +kernel
theorem dX11_fairResult_12 : decode cX11_fairResult 12 = .ok (.aload_n 0, 1) := by decide +kernel
theorem dX11_fairResult_13 : decode cX11_fairResult 13 = .ok (.iload_n 1, 1) := by decide +kernel
theorem dX11_fairResult_14 : decode cX11_fairResult 14 = .ok (.invokevirtual 427, 3) := by decide +kernel
theorem dX11_fairResult_17 : decode cX11_fairResult 17 = .ok (.goto 4, 3) := by decide +kernel
theorem dX11_fairResult_20 : decode cX11_fairResult 20 = .ok (.iconst 0, 1) := by decide +kernel
theorem dX11_fairResult_21 : decode cX11_fairResult 21 = .ok (.ireturn, 1) := by decide +kernel
theorem dX11_areDays_0 : decode cX11_areDays 0 = .ok (.iload_n 0, 1) := by decide +kernel
theorem dX11_areDays_1 : decode cX11_areDays 1 = .ok (.i2l, 1) := by decide +kernel
theorem dX11_areDays_2 : decode cX11_areDays 2 = .ok (.lconst 0, 1) := by decide +kernel
theorem dX11_areDays_3 : decode cX11_areDays 3 = .ok (.ldc2_w 430, 3) := by decide +kernel
theorem dX11_areDays_6 : decode cX11_areDays 6 = .ok (.invokestatic 75, 3) := by decide +kernel
theorem dX11_areDays_9 : decode cX11_areDays 9 = .ok (.ireturn, 1) := by decide +kernel
theorem dX11_savingsAfter_0 : decode cX11_savingsAfter 0 = .ok (.aload_n 0, 1) := by decide +kernel
theorem dX11_savingsAfter_1 : decode cX11_savingsAfter 1 = .ok (.aload_n 0, 1) := by decide +kernel
theorem dX11_savingsAfter_2 : decode cX11_savingsAfter 2 = .ok (.iload_n 1, 1) := by decide +kernel
theorem dX11_savingsAfter_3 : decode cX11_savingsAfter 3 = .ok (.invokevirtual 83, 3) := by decide +kernel
theorem dX11_savingsAfter_6 : decode cX11_savingsAfter 6 = .ok (.iload_n 2, 1) := by decide +kernel
theorem dX11_savingsAfter_7 : decode cX11_savingsAfter 7 = .ok (.invokestatic 432, 3) := by decide +kernel
theorem dX11_savingsAfter_10 : decode cX11_savingsAfter 10 = .ok (.invokevirtual 435, 3) := by decide +kernel
theorem dX11_savingsAfter_13 : decode cX11_savingsAfter 13 = .ok (.ifCond .ne 5, 3) := by decide +kernel
theorem dX11_savingsAfter_16 : decode cX11_savingsAfter 16 = .ok (.iconst 0, 1) := by decide +kernel
theorem dX11_savingsAfter_17 : decode cX11_savingsAfter 17 = .ok (.ireturn, 1) := by decide +kernel
theorem dX11_savingsAfter_18 : decode cX11_savingsAfter 18 = .ok (.aload_n 0, 1) := by decide +kernel
theorem dX11_savingsAfter_19 : decode cX11_savingsAfter 19 = .ok (.invokevirtual 421, 3) := by decide +kernel
theorem dX11_savingsAfter_22 : decode cX11_savingsAfter 22 = .ok (.aload_n 0, 1) := by decide +kernel
theorem dX11_savingsAfter_23 : decode cX11_savingsAfter 23 = .ok (.iload_n 2, 1) := by decide +kernel
theorem dX11_savingsAfter_24 : decode cX11_savingsAfter 24 = .ok (.invokevirtual 198, 3) := by decide +kernel
theorem dX11_savingsAfter_27 : decode cX11_savingsAfter 27 = .ok (.aload_n 0, 1) := by decide +kernel
theorem dX11_savingsAfter_28 : decode cX11_savingsAfter 28 = .ok (.aload_n 0, 1) := by decide +kernel
theorem dX11_savingsAfter_29 : decode cX11_savingsAfter 29 = .ok (.iload_n 1, 1) := by decide +kernel
theorem dX11_savingsAfter_30 : decode cX11_savingsAfter 30 = .ok (.bipush 11, 2) := by decide +kernel
theorem dX11_savingsAfter_32 : decode cX11_savingsAfter 32 = .ok (.invokevirtual 86, 3) := by decide +kernel
theorem dX11_savingsAfter_35 : decode cX11_savingsAfter 35 = .ok (.invokevirtual 424, 3) := by decide +kernel
theorem dX11_savingsAfter_38 : decode cX11_savingsAfter 38 = .ok (.ireturn, 1) := by decide +kernel
theorem dX11_purseAfter_0 : decode cX11_purseAfter 0 = .ok (.aload_n 0, 1) := by decide +kernel
theorem dX11_purseAfter_1 : decode cX11_purseAfter 1 = .ok (.aload_n 0, 1) := by decide +kernel
theorem dX11_purseAfter_2 : decode cX11_purseAfter 2 = .ok (.iload_n 1, 1) := by decide +kernel
theorem dX11_purseAfter_3 : decode cX11_purseAfter 3 = .ok (.invokevirtual 79, 3) := by decide +kernel
theorem dX11_purseAfter_6 : decode cX11_purseAfter 6 = .ok (.iload_n 2, 1) := by decide +kernel
theorem dX11_purseAfter_7 : decode cX11_purseAfter 7 = .ok (.invokestatic 432, 3) := by decide +kernel
theorem dX11_purseAfter_10 : decode cX11_purseAfter 10 = .ok (.invokevirtual 435, 3) := by decide +kernel
theorem dX11_purseAfter_13 : decode cX11_purseAfter 13 = .ok (.ifCond .ne 5, 3) := by decide +kernel
theorem dX11_purseAfter_16 : decode cX11_purseAfter 16 = .ok (.iconst 0, 1) := by decide +kernel
theorem dX11_purseAfter_17 : decode cX11_purseAfter 17 = .ok (.ireturn, 1) := by decide +kernel
theorem dX11_purseAfter_18 : decode cX11_purseAfter 18 = .ok (.aload_n 0, 1) := by decide +kernel
theorem dX11_purseAfter_19 : decode cX11_purseAfter 19 = .ok (.invokevirtual 421, 3) := by decide +kernel
theorem dX11_purseAfter_22 : decode cX11_purseAfter 22 = .ok (.aload_n 0, 1) := by decide +kernel
theorem dX11_purseAfter_23 : decode cX11_purseAfter 23 = .ok (.iload_n 2, 1) := by decide +kernel
theorem dX11_purseAfter_24 : decode cX11_purseAfter 24 = .ok (.invokevirtual 198, 3) := by decide +kernel
theorem dX11_purseAfter_27 : decode cX11_purseAfter 27 = .ok (.aload_n 0, 1) := by decide +kernel
theorem dX11_purseAfter_28 : decode cX11_purseAfter 28 = .ok (.aload_n 0, 1) := by decide +kernel
theorem dX11_purseAfter_29 : decode cX11_purseAfter 29 = .ok (.iload_n 1, 1) := by decide +kernel
theorem dX11_purseAfter_30 : decode cX11_purseAfter 30 = .ok (.bipush 10, 2) := by decide +kernel
theorem dX11_purseAfter_32 : decode cX11_purseAfter 32 = .ok (.invokevirtual 90, 3) := by decide +kernel
theorem dX11_purseAfter_35 : decode cX11_purseAfter 35 = .ok (.invokevirtual 424, 3) := by decide +kernel
theorem dX11_purseAfter_38 : decode cX11_purseAfter 38 = .ok (.ireturn, 1) := by decide +kernel
theorem dX11_desertsIn_0 : decode cX11_desertsIn 0 = .ok (.aload_n 0, 1) := by decide +kernel
theorem dX11_desertsIn_1 : decode cX11_desertsIn 1 = .ok (.aload_n 0, 1) := by decide +kernel
theorem dX11_desertsIn_2 : decode cX11_desertsIn 2 = .ok (.iload_n 1, 1) := by decide +kernel
theorem dX11_desertsIn_3 : decode cX11_desertsIn 3 = .ok (.invokevirtual 83, 3) := by decide +kernel
theorem dX11_desertsIn_6 : decode cX11_desertsIn 6 = .ok (.invokevirtual 210, 3) := by decide +kernel
theorem dX11_desertsIn_9 : decode cX11_desertsIn 9 = .ok (.ifCond .ne 5, 3) := by decide +kernel
theorem dX11_desertsIn_12 : decode cX11_desertsIn 12 = .ok (.iconst 0, 1) := by decide +kernel
theorem dX11_desertsIn_13 : decode cX11_desertsIn 13 = .ok (.ireturn, 1) := by decide +kernel
theorem dX11_desertsIn_14 : decode cX11_desertsIn 14 = .ok (.aload_n 0, 1) := by decide +kernel
theorem dX11_desertsIn_15 : decode cX11_desertsIn 15 = .ok (.iload_n 1, 1) := by decide +kernel
theorem dX11_desertsIn_16 : decode cX11_desertsIn 16 = .ok (.bipush 14, 2) := by decide +kernel
theorem dX11_desertsIn_18 : decode cX11_desertsIn 18 = .ok (.invokevirtual 86, 3) := by decide +kernel
theorem dX11_desertsIn_21 : decode cX11_desertsIn 21 = .ok (.istore_n 2, 1) := by decide +kernel
theorem dX11_desertsIn_22 : decode cX11_desertsIn 22 = .ok (.aload_n 0, 1) := by decide +kernel
theorem dX11_desertsIn_23 : decode cX11_desertsIn 23 = .ok (.invokevirtual 421, 3) := by decide +kernel
theorem dX11_desertsIn_26 : decode cX11_desertsIn 26 = .ok (.iconst 1, 1) := by decide +kernel
theorem dX11_desertsIn_27 : decode cX11_desertsIn 27 = .ok (.istore_n 3, 1) := by decide +kernel
theorem dX11_desertsIn_28 : decode cX11_desertsIn 28 = .ok (.iload_n 3, 1) := by decide +kernel
theorem dX11_desertsIn_29 : decode cX11_desertsIn 29 = .ok (.bipush 120, 2) := by decide +kernel
theorem dX11_desertsIn_31 : decode cX11_desertsIn 31 = .ok (.if_icmp .gt 30, 3) := by decide +kernel
theorem dX11_desertsIn_34 : decode cX11_desertsIn 34 = .ok (.aload_n 0, 1) := by decide +kernel
theorem dX11_desertsIn_35 : decode cX11_desertsIn 35 = .ok (.invokevirtual 192, 3) := by decide +kernel
theorem dX11_desertsIn_38 : decode cX11_desertsIn 38 = .ok (.aload_n 0, 1) := by decide +kernel
theorem dX11_desertsIn_39 : decode cX11_desertsIn 39 = .ok (.iload_n 1, 1) := by decide +kernel
theorem dX11_desertsIn_40 : decode cX11_desertsIn 40 = .ok (.bipush 14, 2) := by decide +kernel
theorem dX11_desertsIn_42 : decode cX11_desertsIn 42 = .ok (.invokevirtual 86, 3) := by decide +kernel
theorem dX11_desertsIn_45 : decode cX11_desertsIn 45 = .ok (.iload_n 2, 1) := by decide +kernel
theorem dX11_desertsIn_46 : decode cX11_desertsIn 46 = .ok (.if_icmp .le 9, 3) := by decide +kernel
theorem dX11_desertsIn_49 : decode cX11_desertsIn 49 = .ok (.aload_n 0, 1) := by decide +kernel
theorem dX11_desertsIn_50 : decode cX11_desertsIn 50 = .ok (.iload_n 3, 1) := by decide +kernel
theorem dX11_desertsIn_51 : decode cX11_desertsIn 51 = .ok (.invokevirtual 424, 3) := by decide +kernel
theorem dX11_desertsIn_54 : decode cX11_desertsIn 54 = .ok (.ireturn, 1) := by decide +kernel
theorem dX11_desertsIn_55 : decode cX11_desertsIn 55 = .ok (.iinc 3 1, 3) := by decide +kernel
theorem dX11_desertsIn_58 : decode cX11_desertsIn 58 = .ok (.goto (-30), 3) := by decide +kernel
theorem dX11_desertsIn_61 : decode cX11_desertsIn 61 = .ok (.aload_n 0, 1) := by decide +kernel
theorem dX11_desertsIn_62 : decode cX11_desertsIn 62 = .ok (.iconst (-1), 1) := by decide +kernel
theorem dX11_desertsIn_63 : decode cX11_desertsIn 63 = .ok (.invokevirtual 424, 3) := by decide +kernel
theorem dX11_desertsIn_66 : decode cX11_desertsIn 66 = .ok (.ireturn, 1) := by decide +kernel
theorem dX11_leastWage_0 : decode cX11_leastWage 0 = .ok (.aload_n 0, 1) := by decide +kernel
theorem dX11_leastWage_1 : decode cX11_leastWage 1 = .ok (.aload_n 0, 1) := by decide +kernel
theorem dX11_leastWage_2 : decode cX11_leastWage 2 = .ok (.iload_n 1, 1) := by decide +kernel
theorem dX11_leastWage_3 : decode cX11_leastWage 3 = .ok (.iload_n 2, 1) := by decide +kernel
theorem dX11_leastWage_4 : decode cX11_leastWage 4 = .ok (.invokevirtual 400, 3) := by decide +kernel
theorem dX11_leastWage_7 : decode cX11_leastWage 7 = .ok (.invokevirtual 210, 3) := by decide +kernel
theorem dX11_leastWage_10 : decode cX11_leastWage 10 = .ok (.ifCond .ne 5, 3) := by decide +kernel
theorem dX11_leastWage_13 : decode cX11_leastWage 13 = .ok (.iconst 0, 1) := by decide +kernel
theorem dX11_leastWage_14 : decode cX11_leastWage 14 = .ok (.ireturn, 1) := by decide +kernel
theorem dX11_leastWage_15 : decode cX11_leastWage 15 = .ok (.aload_n 0, 1) := by decide +kernel
theorem dX11_leastWage_16 : decode cX11_leastWage 16 = .ok (.iload_n 1, 1) := by decide +kernel
theorem dX11_leastWage_17 : decode cX11_leastWage 17 = .ok (.bipush 9, 2) := by decide +kernel
theorem dX11_leastWage_19 : decode cX11_leastWage 19 = .ok (.invokevirtual 90, 3) := by decide +kernel
theorem dX11_leastWage_22 : decode cX11_leastWage 22 = .ok (.istore_n 3, 1) := by decide +kernel
theorem dX11_leastWage_23 : decode cX11_leastWage 23 = .ok (.iconst (-1), 1) := by decide +kernel
theorem dX11_leastWage_24 : decode cX11_leastWage 24 = .ok (.istore 4, 2) := by decide +kernel
theorem dX11_leastWage_26 : decode cX11_leastWage 26 = .ok (.iconst 1, 1) := by decide +kernel
theorem dX11_leastWage_27 : decode cX11_leastWage 27 = .ok (.istore 5, 2) := by decide +kernel
theorem dX11_leastWage_29 : decode cX11_leastWage 29 = .ok (.iload 5, 2) := by decide +kernel
theorem dX11_leastWage_31 : decode cX11_leastWage 31 = .ok (.bipush 99, 2) := by decide +kernel
theorem dX11_leastWage_33 : decode cX11_leastWage 33 = .ok (.if_icmp .gt 41, 3) := by decide +kernel
theorem dX11_leastWage_36 : decode cX11_leastWage 36 = .ok (.iload 4, 2) := by decide +kernel
theorem dX11_leastWage_38 : decode cX11_leastWage 38 = .ok (.iconst (-1), 1) := by decide +kernel
theorem dX11_leastWage_39 : decode cX11_leastWage 39 = .ok (.if_icmp .ne 35, 3) := by decide +kernel
theorem dX11_leastWage_42 : decode cX11_leastWage 42 = .ok (.aload_n 0, 1) := by decide +kernel
theorem dX11_leastWage_43 : decode cX11_leastWage 43 = .ok (.iload_n 1, 1) := by decide +kernel
theorem dX11_leastWage_44 : decode cX11_leastWage 44 = .ok (.bipush 9, 2) := by decide +kernel
theorem dX11_leastWage_46 : decode cX11_leastWage 46 = .ok (.iload 5, 2) := by decide +kernel
theorem dX11_leastWage_48 : decode cX11_leastWage 48 = .ok (.invokevirtual 112, 3) := by decide +kernel
theorem dX11_leastWage_51 : decode cX11_leastWage 51 = .ok (.aload_n 0, 1) := by decide +kernel
theorem dX11_leastWage_52 : decode cX11_leastWage 52 = .ok (.iload_n 2, 1) := by decide +kernel
theorem dX11_leastWage_53 : decode cX11_leastWage 53 = .ok (.invokevirtual 427, 3) := by decide +kernel
theorem dX11_leastWage_56 : decode cX11_leastWage 56 = .ok (.iload_n 1, 1) := by decide +kernel
theorem dX11_leastWage_57 : decode cX11_leastWage 57 = .ok (.if_icmp .ne 8, 3) := by decide +kernel
theorem dX11_leastWage_60 : decode cX11_leastWage 60 = .ok (.iload 5, 2) := by decide +kernel
theorem dX11_leastWage_62 : decode cX11_leastWage 62 = .ok (.goto 4, 3) := by decide +kernel
theorem dX11_leastWage_65 : decode cX11_leastWage 65 = .ok (.iconst (-1), 1) := by decide +kernel
theorem dX11_leastWage_66 : decode cX11_leastWage 66 = .ok (.istore 4, 2) := by decide +kernel
theorem dX11_leastWage_68 : decode cX11_leastWage 68 = .ok (.iinc 5 1, 3) := by decide +kernel
theorem dX11_leastWage_71 : decode cX11_leastWage 71 = .ok (.goto (-42), 3) := by decide +kernel
theorem dX11_leastWage_74 : decode cX11_leastWage 74 = .ok (.aload_n 0, 1) := by decide +kernel
theorem dX11_leastWage_75 : decode cX11_leastWage 75 = .ok (.iload_n 1, 1) := by decide +kernel
theorem dX11_leastWage_76 : decode cX11_leastWage 76 = .ok (.bipush 9, 2) := by decide +kernel
theorem dX11_leastWage_78 : decode cX11_leastWage 78 = .ok (.iload_n 3, 1) := by decide +kernel
theorem dX11_leastWage_79 : decode cX11_leastWage 79 = .ok (.invokevirtual 112, 3) := by decide +kernel
theorem dX11_leastWage_82 : decode cX11_leastWage 82 = .ok (.iload 4, 2) := by decide +kernel
theorem dX11_leastWage_84 : decode cX11_leastWage 84 = .ok (.ireturn, 1) := by decide +kernel
theorem dX11_bestTest_0 : decode cX11_bestTest 0 = .ok (.aload_n 0, 1) := by decide +kernel
theorem dX11_bestTest_1 : decode cX11_bestTest 1 = .ok (.aload_n 0, 1) := by decide +kernel
theorem dX11_bestTest_2 : decode cX11_bestTest 2 = .ok (.iload_n 1, 1) := by decide +kernel
theorem dX11_bestTest_3 : decode cX11_bestTest 3 = .ok (.invokevirtual 79, 3) := by decide +kernel
theorem dX11_bestTest_6 : decode cX11_bestTest 6 = .ok (.invokevirtual 210, 3) := by decide +kernel
theorem dX11_bestTest_9 : decode cX11_bestTest 9 = .ok (.ifCond .ne 5, 3) := by decide +kernel
theorem dX11_bestTest_12 : decode cX11_bestTest 12 = .ok (.iconst 0, 1) := by decide +kernel
theorem dX11_bestTest_13 : decode cX11_bestTest 13 = .ok (.ireturn, 1) := by decide +kernel
theorem dX11_bestTest_14 : decode cX11_bestTest 14 = .ok (.iconst (-1), 1) := by decide +kernel
theorem dX11_bestTest_15 : decode cX11_bestTest 15 = .ok (.istore_n 2, 1) := by decide +kernel
theorem dX11_bestTest_16 : decode cX11_bestTest 16 = .ok (.iconst 0, 1) := by decide +kernel
theorem dX11_bestTest_17 : decode cX11_bestTest 17 = .ok (.istore_n 3, 1) := by decide +kernel
theorem dX11_bestTest_18 : decode cX11_bestTest 18 = .ok (.iload_n 3, 1) := by decide +kernel
theorem dX11_bestTest_19 : decode cX11_bestTest 19 = .ok (.aload_n 0, 1) := by decide +kernel
theorem dX11_bestTest_20 : decode cX11_bestTest 20 = .ok (.getfield 7, 3) := by decide +kernel
theorem dX11_bestTest_23 : decode cX11_bestTest 23 = .ok (.iconst 0, 1) := by decide +kernel
theorem dX11_bestTest_24 : decode cX11_bestTest 24 = .ok (.iaload, 1) := by decide +kernel
theorem dX11_bestTest_25 : decode cX11_bestTest 25 = .ok (.if_icmp .ge 40, 3) := by decide +kernel
theorem dX11_bestTest_28 : decode cX11_bestTest 28 = .ok (.aload_n 0, 1) := by decide +kernel
theorem dX11_bestTest_29 : decode cX11_bestTest 29 = .ok (.iload_n 1, 1) := by decide +kernel
theorem dX11_bestTest_30 : decode cX11_bestTest 30 = .ok (.iload_n 3, 1) := by decide +kernel
theorem dX11_bestTest_31 : decode cX11_bestTest 31 = .ok (.invokevirtual 204, 3) := by decide +kernel
theorem dX11_bestTest_34 : decode cX11_bestTest 34 = .ok (.ifCond .eq 25, 3) := by decide +kernel
theorem dX11_bestTest_37 : decode cX11_bestTest 37 = .ok (.iload_n 2, 1) := by decide +kernel
theorem dX11_bestTest_38 : decode cX11_bestTest 38 = .ok (.iconst (-1), 1) := by decide +kernel
theorem dX11_bestTest_39 : decode cX11_bestTest 39 = .ok (.if_icmp .eq 18, 3) := by decide +kernel
theorem dX11_bestTest_42 : decode cX11_bestTest 42 = .ok (.aload_n 0, 1) := by decide +kernel
theorem dX11_bestTest_43 : decode cX11_bestTest 43 = .ok (.iload_n 1, 1) := by decide +kernel
theorem dX11_bestTest_44 : decode cX11_bestTest 44 = .ok (.iload_n 3, 1) := by decide +kernel
theorem dX11_bestTest_45 : decode cX11_bestTest 45 = .ok (.invokevirtual 103, 3) := by decide +kernel
theorem dX11_bestTest_48 : decode cX11_bestTest 48 = .ok (.aload_n 0, 1) := by decide +kernel
theorem dX11_bestTest_49 : decode cX11_bestTest 49 = .ok (.iload_n 1, 1) := by decide +kernel
theorem dX11_bestTest_50 : decode cX11_bestTest 50 = .ok (.iload_n 2, 1) := by decide +kernel
theorem dX11_bestTest_51 : decode cX11_bestTest 51 = .ok (.invokevirtual 103, 3) := by decide +kernel
theorem dX11_bestTest_54 : decode cX11_bestTest 54 = .ok (.if_icmp .le 5, 3) := by decide +kernel
theorem dX11_bestTest_57 : decode cX11_bestTest 57 = .ok (.iload_n 3, 1) := by decide +kernel
theorem dX11_bestTest_58 : decode cX11_bestTest 58 = .ok (.istore_n 2, 1) := by decide +kernel
theorem dX11_bestTest_59 : decode cX11_bestTest 59 = .ok (.iinc 3 1, 3) := by decide +kernel
theorem dX11_bestTest_62 : decode cX11_bestTest 62 = .ok (.goto (-44), 3) := by decide +kernel
theorem dX11_bestTest_65 : decode cX11_bestTest 65 = .ok (.iload_n 2, 1) := by decide +kernel
theorem dX11_bestTest_66 : decode cX11_bestTest 66 = .ok (.ireturn, 1) := by decide +kernel
theorem dX11_richestEcho_0 : decode cX11_richestEcho 0 = .ok (.aload_n 0, 1) := by decide +kernel
theorem dX11_richestEcho_1 : decode cX11_richestEcho 1 = .ok (.iconst 0, 1) := by decide +kernel
theorem dX11_richestEcho_2 : decode cX11_richestEcho 2 = .ok (.putfield 68, 3) := by decide +kernel
theorem dX11_richestEcho_5 : decode cX11_richestEcho 5 = .ok (.iconst 0, 1) := by decide +kernel
theorem dX11_richestEcho_6 : decode cX11_richestEcho 6 = .ok (.istore_n 1, 1) := by decide +kernel
theorem dX11_richestEcho_7 : decode cX11_richestEcho 7 = .ok (.iconst 1, 1) := by decide +kernel
theorem dX11_richestEcho_8 : decode cX11_richestEcho 8 = .ok (.istore_n 2, 1) := by decide +kernel
theorem dX11_richestEcho_9 : decode cX11_richestEcho 9 = .ok (.iload_n 2, 1) := by decide +kernel
theorem dX11_richestEcho_10 : decode cX11_richestEcho 10 = .ok (.aload_n 0, 1) := by decide +kernel
theorem dX11_richestEcho_11 : decode cX11_richestEcho 11 = .ok (.getfield 7, 3) := by decide +kernel
theorem dX11_richestEcho_14 : decode cX11_richestEcho 14 = .ok (.iconst 0, 1) := by decide +kernel
theorem dX11_richestEcho_15 : decode cX11_richestEcho 15 = .ok (.iaload, 1) := by decide +kernel
theorem dX11_richestEcho_16 : decode cX11_richestEcho 16 = .ok (.if_icmp .ge 32, 3) := by decide +kernel
theorem dX11_richestEcho_19 : decode cX11_richestEcho 19 = .ok (.aload_n 0, 1) := by decide +kernel
theorem dX11_richestEcho_20 : decode cX11_richestEcho 20 = .ok (.iload_n 2, 1) := by decide +kernel
theorem dX11_richestEcho_21 : decode cX11_richestEcho 21 = .ok (.bipush 11, 2) := by decide +kernel
theorem dX11_richestEcho_23 : decode cX11_richestEcho 23 = .ok (.invokevirtual 86, 3) := by decide +kernel
theorem dX11_richestEcho_26 : decode cX11_richestEcho 26 = .ok (.aload_n 0, 1) := by decide +kernel
theorem dX11_richestEcho_27 : decode cX11_richestEcho 27 = .ok (.iload_n 1, 1) := by decide +kernel
theorem dX11_richestEcho_28 : decode cX11_richestEcho 28 = .ok (.bipush 11, 2) := by decide +kernel
theorem dX11_richestEcho_30 : decode cX11_richestEcho 30 = .ok (.invokevirtual 86, 3) := by decide +kernel
theorem dX11_richestEcho_33 : decode cX11_richestEcho 33 = .ok (.if_icmp .le 7, 3) := by decide +kernel
theorem dX11_richestEcho_36 : decode cX11_richestEcho 36 = .ok (.iload_n 2, 1) := by decide +kernel
theorem dX11_richestEcho_37 : decode cX11_richestEcho 37 = .ok (.goto 4, 3) := by decide +kernel
theorem dX11_richestEcho_40 : decode cX11_richestEcho 40 = .ok (.iload_n 1, 1) := by decide +kernel
theorem dX11_richestEcho_41 : decode cX11_richestEcho 41 = .ok (.istore_n 1, 1) := by decide +kernel
theorem dX11_richestEcho_42 : decode cX11_richestEcho 42 = .ok (.iinc 2 1, 3) := by decide +kernel
theorem dX11_richestEcho_45 : decode cX11_richestEcho 45 = .ok (.goto (-36), 3) := by decide +kernel
theorem dX11_richestEcho_48 : decode cX11_richestEcho 48 = .ok (.iload_n 1, 1) := by decide +kernel
theorem dX11_richestEcho_49 : decode cX11_richestEcho 49 = .ok (.ireturn, 1) := by decide +kernel
theorem dX11_daysServed_0 : decode cX11_daysServed 0 = .ok (.aload_n 0, 1) := by decide +kernel
theorem dX11_daysServed_1 : decode cX11_daysServed 1 = .ok (.aload_n 0, 1) := by decide +kernel
theorem dX11_daysServed_2 : decode cX11_daysServed 2 = .ok (.iload_n 1, 1) := by decide +kernel
theorem dX11_daysServed_3 : decode cX11_daysServed 3 = .ok (.iload_n 2, 1) := by decide +kernel
theorem dX11_daysServed_4 : decode cX11_daysServed 4 = .ok (.invokevirtual 400, 3) := by decide +kernel
theorem dX11_daysServed_7 : decode cX11_daysServed 7 = .ok (.invokevirtual 210, 3) := by decide +kernel
theorem dX11_daysServed_10 : decode cX11_daysServed 10 = .ok (.ifCond .eq 17, 3) := by decide +kernel
theorem dX11_daysServed_13 : decode cX11_daysServed 13 = .ok (.aload_n 0, 1) := by decide +kernel
theorem dX11_daysServed_14 : decode cX11_daysServed 14 = .ok (.getfield 7, 3) := by decide +kernel
theorem dX11_daysServed_17 : decode cX11_daysServed 17 = .ok (.iload_n 1, 1) := by decide +kernel
theorem dX11_daysServed_18 : decode cX11_daysServed 18 = .ok (.iload_n 2, 1) := by decide +kernel
theorem dX11_daysServed_19 : decode cX11_daysServed 19 = .ok (.iconst 2, 1) := by decide +kernel
theorem dX11_daysServed_20 : decode cX11_daysServed 20 = .ok (.invokestatic 99, 3) := by decide +kernel
theorem dX11_daysServed_23 : decode cX11_daysServed 23 = .ok (.iaload, 1) := by decide +kernel
theorem dX11_daysServed_24 : decode cX11_daysServed 24 = .ok (.goto 4, 3) := by decide +kernel
theorem dX11_daysServed_27 : decode cX11_daysServed 27 = .ok (.iconst 0, 1) := by decide +kernel
theorem dX11_daysServed_28 : decode cX11_daysServed 28 = .ok (.ireturn, 1) := by decide +kernel
theorem dX11_contractsMade_0 : decode cX11_contractsMade 0 = .ok (.aload_n 0, 1) := by decide +kernel
theorem dX11_contractsMade_1 : decode cX11_contractsMade 1 = .ok (.aload_n 0, 1) := by decide +kernel
theorem dX11_contractsMade_2 : decode cX11_contractsMade 2 = .ok (.getfield 7, 3) := by decide +kernel
theorem dX11_contractsMade_5 : decode cX11_contractsMade 5 = .ok (.iconst 5, 1) := by decide +kernel
theorem dX11_contractsMade_6 : decode cX11_contractsMade 6 = .ok (.iaload, 1) := by decide +kernel
theorem dX11_contractsMade_7 : decode cX11_contractsMade 7 = .ok (.invokevirtual 386, 3) := by decide +kernel
theorem dX11_contractsMade_10 : decode cX11_contractsMade 10 = .ok (.ireturn, 1) := by decide +kernel
theorem dX11_contractsEnded_0 : decode cX11_contractsEnded 0 = .ok (.aload_n 0, 1) := by decide +kernel
theorem dX11_contractsEnded_1 : decode cX11_contractsEnded 1 = .ok (.aload_n 0, 1) := by decide +kernel
theorem dX11_contractsEnded_2 : decode cX11_contractsEnded 2 = .ok (.getfield 7, 3) := by decide +kernel
theorem dX11_contractsEnded_5 : decode cX11_contractsEnded 5 = .ok (.bipush 6, 2) := by decide +kernel
theorem dX11_contractsEnded_7 : decode cX11_contractsEnded 7 = .ok (.iaload, 1) := by decide +kernel
theorem dX11_contractsEnded_8 : decode cX11_contractsEnded 8 = .ok (.invokevirtual 386, 3) := by decide +kernel
theorem dX11_contractsEnded_11 : decode cX11_contractsEnded 11 = .ok (.ireturn, 1) := by decide +kernel
theorem dX11_desertions_0 : decode cX11_desertions 0 = .ok (.aload_n 0, 1) := by decide +kernel
theorem dX11_desertions_1 : decode cX11_desertions 1 = .ok (.iload_n 1, 1) := by decide +kernel
theorem dX11_desertions_2 : decode cX11_desertions 2 = .ok (.bipush 14, 2) := by decide +kernel
theorem dX11_desertions_4 : decode cX11_desertions 4 = .ok (.invokevirtual 394, 3) := by decide +kernel
theorem dX11_desertions_7 : decode cX11_desertions 7 = .ok (.ireturn, 1) := by decide +kernel
theorem dX11_repliesHeard_0 : decode cX11_repliesHeard 0 = .ok (.aload_n 0, 1) := by decide +kernel
theorem dX11_repliesHeard_1 : decode cX11_repliesHeard 1 = .ok (.iload_n 1, 1) := by decide +kernel
theorem dX11_repliesHeard_2 : decode cX11_repliesHeard 2 = .ok (.bipush 11, 2) := by decide +kernel
theorem dX11_repliesHeard_4 : decode cX11_repliesHeard 4 = .ok (.invokevirtual 397, 3) := by decide +kernel
theorem dX11_repliesHeard_7 : decode cX11_repliesHeard 7 = .ok (.ireturn, 1) := by decide +kernel
theorem dX11_wagesPaid_0 : decode cX11_wagesPaid 0 = .ok (.aload_n 0, 1) := by decide +kernel
theorem dX11_wagesPaid_1 : decode cX11_wagesPaid 1 = .ok (.iload_n 1, 1) := by decide +kernel
theorem dX11_wagesPaid_2 : decode cX11_wagesPaid 2 = .ok (.bipush 12, 2) := by decide +kernel
theorem dX11_wagesPaid_4 : decode cX11_wagesPaid 4 = .ok (.invokevirtual 397, 3) := by decide +kernel
theorem dX11_wagesPaid_7 : decode cX11_wagesPaid 7 = .ok (.ireturn, 1) := by decide +kernel
theorem dX11_savings_0 : decode cX11_savings 0 = .ok (.iconst 0, 1) := by decide +kernel
theorem dX11_savings_1 : decode cX11_savings 1 = .ok (.istore_n 1, 1) := by decide +kernel
theorem dX11_savings_2 : decode cX11_savings 2 = .ok (.iconst 0, 1) := by decide +kernel
theorem dX11_savings_3 : decode cX11_savings 3 = .ok (.istore_n 2, 1) := by decide +kernel
theorem dX11_savings_4 : decode cX11_savings 4 = .ok (.iload_n 2, 1) := by decide +kernel
theorem dX11_savings_5 : decode cX11_savings 5 = .ok (.aload_n 0, 1) := by decide +kernel
theorem dX11_savings_6 : decode cX11_savings 6 = .ok (.getfield 7, 3) := by decide +kernel
theorem dX11_savings_9 : decode cX11_savings 9 = .ok (.iconst 0, 1) := by decide +kernel
theorem dX11_savings_10 : decode cX11_savings 10 = .ok (.iaload, 1) := by decide +kernel
theorem dX11_savings_11 : decode cX11_savings 11 = .ok (.if_icmp .ge 19, 3) := by decide +kernel
theorem dX11_savings_14 : decode cX11_savings 14 = .ok (.iload_n 1, 1) := by decide +kernel
theorem dX11_savings_15 : decode cX11_savings 15 = .ok (.aload_n 0, 1) := by decide +kernel
theorem dX11_savings_16 : decode cX11_savings 16 = .ok (.iload_n 2, 1) := by decide +kernel
theorem dX11_savings_17 : decode cX11_savings 17 = .ok (.bipush 11, 2) := by decide +kernel
theorem dX11_savings_19 : decode cX11_savings 19 = .ok (.invokevirtual 86, 3) := by decide +kernel
theorem dX11_savings_22 : decode cX11_savings 22 = .ok (.iadd, 1) := by decide +kernel
theorem dX11_savings_23 : decode cX11_savings 23 = .ok (.istore_n 1, 1) := by decide +kernel
theorem dX11_savings_24 : decode cX11_savings 24 = .ok (.iinc 2 1, 3) := by decide +kernel
theorem dX11_savings_27 : decode cX11_savings 27 = .ok (.goto (-23), 3) := by decide +kernel
theorem dX11_savings_30 : decode cX11_savings 30 = .ok (.iload_n 1, 1) := by decide +kernel
theorem dX11_savings_31 : decode cX11_savings 31 = .ok (.ireturn, 1) := by decide +kernel
theorem dX11_purses_0 : decode cX11_purses 0 = .ok (.iconst 0, 1) := by decide +kernel
theorem dX11_purses_1 : decode cX11_purses 1 = .ok (.istore_n 1, 1) := by decide +kernel
theorem dX11_purses_2 : decode cX11_purses 2 = .ok (.iconst 0, 1) := by decide +kernel
theorem dX11_purses_3 : decode cX11_purses 3 = .ok (.istore_n 2, 1) := by decide +kernel
theorem dX11_purses_4 : decode cX11_purses 4 = .ok (.iload_n 2, 1) := by decide +kernel
theorem dX11_purses_5 : decode cX11_purses 5 = .ok (.aload_n 0, 1) := by decide +kernel
theorem dX11_purses_6 : decode cX11_purses 6 = .ok (.getfield 7, 3) := by decide +kernel
theorem dX11_purses_9 : decode cX11_purses 9 = .ok (.iconst 1, 1) := by decide +kernel
theorem dX11_purses_10 : decode cX11_purses 10 = .ok (.iaload, 1) := by decide +kernel
theorem dX11_purses_11 : decode cX11_purses 11 = .ok (.if_icmp .ge 19, 3) := by decide +kernel
theorem dX11_purses_14 : decode cX11_purses 14 = .ok (.iload_n 1, 1) := by decide +kernel
theorem dX11_purses_15 : decode cX11_purses 15 = .ok (.aload_n 0, 1) := by decide +kernel
theorem dX11_purses_16 : decode cX11_purses 16 = .ok (.iload_n 2, 1) := by decide +kernel
theorem dX11_purses_17 : decode cX11_purses 17 = .ok (.bipush 10, 2) := by decide +kernel
theorem dX11_purses_19 : decode cX11_purses 19 = .ok (.invokevirtual 90, 3) := by decide +kernel
theorem dX11_purses_22 : decode cX11_purses 22 = .ok (.iadd, 1) := by decide +kernel
theorem dX11_purses_23 : decode cX11_purses 23 = .ok (.istore_n 1, 1) := by decide +kernel
theorem dX11_purses_24 : decode cX11_purses 24 = .ok (.iinc 2 1, 3) := by decide +kernel
theorem dX11_purses_27 : decode cX11_purses 27 = .ok (.goto (-23), 3) := by decide +kernel
theorem dX11_purses_30 : decode cX11_purses 30 = .ok (.iload_n 1, 1) := by decide +kernel
theorem dX11_purses_31 : decode cX11_purses 31 = .ok (.ireturn, 1) := by decide +kernel
theorem dX11_contracts_0 : decode cX11_contracts 0 = .ok (.iconst 0, 1) := by decide +kernel
theorem dX11_contracts_1 : decode cX11_contracts 1 = .ok (.istore_n 1, 1) := by decide +kernel
theorem dX11_contracts_2 : decode cX11_contracts 2 = .ok (.iconst 0, 1) := by decide +kernel
theorem dX11_contracts_3 : decode cX11_contracts 3 = .ok (.istore_n 2, 1) := by decide +kernel
theorem dX11_contracts_4 : decode cX11_contracts 4 = .ok (.iload_n 2, 1) := by decide +kernel
theorem dX11_contracts_5 : decode cX11_contracts 5 = .ok (.aload_n 0, 1) := by decide +kernel
theorem dX11_contracts_6 : decode cX11_contracts 6 = .ok (.getfield 7, 3) := by decide +kernel
theorem dX11_contracts_9 : decode cX11_contracts 9 = .ok (.iconst 0, 1) := by decide +kernel
theorem dX11_contracts_10 : decode cX11_contracts 10 = .ok (.iaload, 1) := by decide +kernel
theorem dX11_contracts_11 : decode cX11_contracts 11 = .ok (.if_icmp .ge 20, 3) := by decide +kernel
theorem dX11_contracts_14 : decode cX11_contracts 14 = .ok (.iload_n 1, 1) := by decide +kernel
theorem dX11_contracts_15 : decode cX11_contracts 15 = .ok (.aload_n 0, 1) := by decide +kernel
theorem dX11_contracts_16 : decode cX11_contracts 16 = .ok (.iload_n 2, 1) := by decide +kernel
theorem dX11_contracts_17 : decode cX11_contracts 17 = .ok (.invokevirtual 149, 3) := by decide +kernel
theorem dX11_contracts_20 : decode cX11_contracts 20 = .ok (.invokestatic 403, 3) := by decide +kernel
theorem dX11_contracts_23 : decode cX11_contracts 23 = .ok (.iadd, 1) := by decide +kernel
theorem dX11_contracts_24 : decode cX11_contracts 24 = .ok (.istore_n 1, 1) := by decide +kernel
theorem dX11_contracts_25 : decode cX11_contracts 25 = .ok (.iinc 2 1, 3) := by decide +kernel
theorem dX11_contracts_28 : decode cX11_contracts 28 = .ok (.goto (-24), 3) := by decide +kernel
theorem dX11_contracts_31 : decode cX11_contracts 31 = .ok (.iload_n 1, 1) := by decide +kernel
theorem dX11_contracts_32 : decode cX11_contracts 32 = .ok (.ireturn, 1) := by decide +kernel
theorem dX11_moneyImbalance_0 : decode cX11_moneyImbalance 0 = .ok (.aload_n 0, 1) := by decide +kernel
theorem dX11_moneyImbalance_1 : decode cX11_moneyImbalance 1 = .ok (.iconst 0, 1) := by decide +kernel
theorem dX11_moneyImbalance_2 : decode cX11_moneyImbalance 2 = .ok (.putfield 68, 3) := by decide +kernel
theorem dX11_moneyImbalance_5 : decode cX11_moneyImbalance 5 = .ok (.aload_n 0, 1) := by decide +kernel
theorem dX11_moneyImbalance_6 : decode cX11_moneyImbalance 6 = .ok (.getfield 7, 3) := by decide +kernel
theorem dX11_moneyImbalance_9 : decode cX11_moneyImbalance 9 = .ok (.bipush 7, 2) := by decide +kernel
theorem dX11_moneyImbalance_11 : decode cX11_moneyImbalance 11 = .ok (.iaload, 1) := by decide +kernel
theorem dX11_moneyImbalance_12 : decode cX11_moneyImbalance 12 = .ok (.aload_n 0, 1) := by decide +kernel
theorem dX11_moneyImbalance_13 : decode cX11_moneyImbalance 13 = .ok (.getfield 7, 3) := by decide +kernel
theorem dX11_moneyImbalance_16 : decode cX11_moneyImbalance 16 = .ok (.bipush 8, 2) := by decide +kernel
theorem dX11_moneyImbalance_18 : decode cX11_moneyImbalance 18 = .ok (.iaload, 1) := by decide +kernel
theorem dX11_moneyImbalance_19 : decode cX11_moneyImbalance 19 = .ok (.iadd, 1) := by decide +kernel
theorem dX11_moneyImbalance_20 : decode cX11_moneyImbalance 20 = .ok (.aload_n 0, 1) := by decide +kernel
theorem dX11_moneyImbalance_21 : decode cX11_moneyImbalance 21 = .ok (.getfield 7, 3) := by decide +kernel
theorem dX11_moneyImbalance_24 : decode cX11_moneyImbalance 24 = .ok (.bipush 9, 2) := by decide +kernel
theorem dX11_moneyImbalance_26 : decode cX11_moneyImbalance 26 = .ok (.iaload, 1) := by decide +kernel
theorem dX11_moneyImbalance_27 : decode cX11_moneyImbalance 27 = .ok (.iadd, 1) := by decide +kernel
theorem dX11_moneyImbalance_28 : decode cX11_moneyImbalance 28 = .ok (.aload_n 0, 1) := by decide +kernel
theorem dX11_moneyImbalance_29 : decode cX11_moneyImbalance 29 = .ok (.getfield 7, 3) := by decide +kernel
theorem dX11_moneyImbalance_32 : decode cX11_moneyImbalance 32 = .ok (.bipush 10, 2) := by decide +kernel
theorem dX11_moneyImbalance_34 : decode cX11_moneyImbalance 34 = .ok (.iaload, 1) := by decide +kernel
theorem dX11_moneyImbalance_35 : decode cX11_moneyImbalance 35 = .ok (.isub, 1) := by decide +kernel
theorem dX11_moneyImbalance_36 : decode cX11_moneyImbalance 36 = .ok (.aload_n 0, 1) := by decide +kernel
theorem dX11_moneyImbalance_37 : decode cX11_moneyImbalance 37 = .ok (.invokevirtual 439, 3) := by decide +kernel
theorem dX11_moneyImbalance_40 : decode cX11_moneyImbalance 40 = .ok (.isub, 1) := by decide +kernel
theorem dX11_moneyImbalance_41 : decode cX11_moneyImbalance 41 = .ok (.aload_n 0, 1) := by decide +kernel
theorem dX11_moneyImbalance_42 : decode cX11_moneyImbalance 42 = .ok (.invokevirtual 442, 3) := by decide +kernel
theorem dX11_moneyImbalance_45 : decode cX11_moneyImbalance 45 = .ok (.isub, 1) := by decide +kernel
theorem dX11_moneyImbalance_46 : decode cX11_moneyImbalance 46 = .ok (.ireturn, 1) := by decide +kernel
theorem dX11_contractImbalance_0 : decode cX11_contractImbalance 0 = .ok (.aload_n 0, 1) := by decide +kernel
theorem dX11_contractImbalance_1 : decode cX11_contractImbalance 1 = .ok (.iconst 0, 1) := by decide +kernel
theorem dX11_contractImbalance_2 : decode cX11_contractImbalance 2 = .ok (.putfield 68, 3) := by decide +kernel
theorem dX11_contractImbalance_5 : decode cX11_contractImbalance 5 = .ok (.aload_n 0, 1) := by decide +kernel
theorem dX11_contractImbalance_6 : decode cX11_contractImbalance 6 = .ok (.getfield 7, 3) := by decide +kernel
theorem dX11_contractImbalance_9 : decode cX11_contractImbalance 9 = .ok (.iconst 5, 1) := by decide +kernel
theorem dX11_contractImbalance_10 : decode cX11_contractImbalance 10 = .ok (.iaload, 1) := by decide +kernel
theorem dX11_contractImbalance_11 : decode cX11_contractImbalance 11 = .ok (.aload_n 0, 1) := by decide +kernel
theorem dX11_contractImbalance_12 : decode cX11_contractImbalance 12 = .ok (.getfield 7, 3) := by decide +kernel
theorem dX11_contractImbalance_15 : decode cX11_contractImbalance 15 = .ok (.bipush 6, 2) := by decide +kernel
theorem dX11_contractImbalance_17 : decode cX11_contractImbalance 17 = .ok (.iaload, 1) := by decide +kernel
theorem dX11_contractImbalance_18 : decode cX11_contractImbalance 18 = .ok (.isub, 1) := by decide +kernel
theorem dX11_contractImbalance_19 : decode cX11_contractImbalance 19 = .ok (.aload_n 0, 1) := by decide +kernel
theorem dX11_contractImbalance_20 : decode cX11_contractImbalance 20 = .ok (.invokevirtual 445, 3) := by decide +kernel
theorem dX11_contractImbalance_23 : decode cX11_contractImbalance 23 = .ok (.isub, 1) := by decide +kernel
theorem dX11_contractImbalance_24 : decode cX11_contractImbalance 24 = .ok (.ireturn, 1) := by decide +kernel
theorem dX11_servedBy_0 : decode cX11_servedBy 0 = .ok (.iconst 0, 1) := by decide +kernel
theorem dX11_servedBy_1 : decode cX11_servedBy 1 = .ok (.istore_n 2, 1) := by decide +kernel
theorem dX11_servedBy_2 : decode cX11_servedBy 2 = .ok (.iconst 0, 1) := by decide +kernel
theorem dX11_servedBy_3 : decode cX11_servedBy 3 = .ok (.istore_n 3, 1) := by decide +kernel
theorem dX11_servedBy_4 : decode cX11_servedBy 4 = .ok (.iload_n 3, 1) := by decide +kernel
theorem dX11_servedBy_5 : decode cX11_servedBy 5 = .ok (.aload_n 0, 1) := by decide +kernel
theorem dX11_servedBy_6 : decode cX11_servedBy 6 = .ok (.getfield 7, 3) := by decide +kernel
theorem dX11_servedBy_9 : decode cX11_servedBy 9 = .ok (.iconst 1, 1) := by decide +kernel
theorem dX11_servedBy_10 : decode cX11_servedBy 10 = .ok (.iaload, 1) := by decide +kernel
theorem dX11_servedBy_11 : decode cX11_servedBy 11 = .ok (.if_icmp .ge 55, 3) := by decide +kernel
theorem dX11_servedBy_14 : decode cX11_servedBy 14 = .ok (.iconst 0, 1) := by decide +kernel
theorem dX11_servedBy_15 : decode cX11_servedBy 15 = .ok (.istore 4, 2) := by decide +kernel
theorem dX11_servedBy_17 : decode cX11_servedBy 17 = .ok (.iload 4, 2) := by decide +kernel
theorem dX11_servedBy_19 : decode cX11_servedBy 19 = .ok (.aload_n 0, 1) := by decide +kernel
theorem dX11_servedBy_20 : decode cX11_servedBy 20 = .ok (.iload_n 3, 1) := by decide +kernel
theorem dX11_servedBy_21 : decode cX11_servedBy 21 = .ok (.bipush 13, 2) := by decide +kernel
theorem dX11_servedBy_23 : decode cX11_servedBy 23 = .ok (.invokevirtual 90, 3) := by decide +kernel
theorem dX11_servedBy_26 : decode cX11_servedBy 26 = .ok (.if_icmp .ge 34, 3) := by decide +kernel
theorem dX11_servedBy_29 : decode cX11_servedBy 29 = .ok (.iload_n 2, 1) := by decide +kernel
theorem dX11_servedBy_30 : decode cX11_servedBy 30 = .ok (.aload_n 0, 1) := by decide +kernel
theorem dX11_servedBy_31 : decode cX11_servedBy 31 = .ok (.iload_n 3, 1) := by decide +kernel
theorem dX11_servedBy_32 : decode cX11_servedBy 32 = .ok (.bipush 14, 2) := by decide +kernel
theorem dX11_servedBy_34 : decode cX11_servedBy 34 = .ok (.iload 4, 2) := by decide +kernel
theorem dX11_servedBy_36 : decode cX11_servedBy 36 = .ok (.iadd, 1) := by decide +kernel
theorem dX11_servedBy_37 : decode cX11_servedBy 37 = .ok (.invokevirtual 90, 3) := by decide +kernel
theorem dX11_servedBy_40 : decode cX11_servedBy 40 = .ok (.iload_n 1, 1) := by decide +kernel
theorem dX11_servedBy_41 : decode cX11_servedBy 41 = .ok (.if_icmp .ne 7, 3) := by decide +kernel
theorem dX11_servedBy_44 : decode cX11_servedBy 44 = .ok (.iconst 1, 1) := by decide +kernel
theorem dX11_servedBy_45 : decode cX11_servedBy 45 = .ok (.goto 4, 3) := by decide +kernel
theorem dX11_servedBy_48 : decode cX11_servedBy 48 = .ok (.iconst 0, 1) := by decide +kernel
theorem dX11_servedBy_49 : decode cX11_servedBy 49 = .ok (.invokestatic 403, 3) := by decide +kernel
theorem dX11_servedBy_52 : decode cX11_servedBy 52 = .ok (.iadd, 1) := by decide +kernel
theorem dX11_servedBy_53 : decode cX11_servedBy 53 = .ok (.istore_n 2, 1) := by decide +kernel
theorem dX11_servedBy_54 : decode cX11_servedBy 54 = .ok (.iinc 4 1, 3) := by decide +kernel
theorem dX11_servedBy_57 : decode cX11_servedBy 57 = .ok (.goto (-40), 3) := by decide +kernel
theorem dX11_servedBy_60 : decode cX11_servedBy 60 = .ok (.iinc 3 1, 3) := by decide +kernel
theorem dX11_servedBy_63 : decode cX11_servedBy 63 = .ok (.goto (-59), 3) := by decide +kernel
theorem dX11_servedBy_66 : decode cX11_servedBy 66 = .ok (.iload_n 2, 1) := by decide +kernel
theorem dX11_servedBy_67 : decode cX11_servedBy 67 = .ok (.ireturn, 1) := by decide +kernel
theorem dX11_doubleServants_0 : decode cX11_doubleServants 0 = .ok (.aload_n 0, 1) := by decide +kernel
theorem dX11_doubleServants_1 : decode cX11_doubleServants 1 = .ok (.iconst 0, 1) := by decide +kernel
theorem dX11_doubleServants_2 : decode cX11_doubleServants 2 = .ok (.putfield 68, 3) := by decide +kernel
theorem dX11_doubleServants_5 : decode cX11_doubleServants 5 = .ok (.iconst 0, 1) := by decide +kernel
theorem dX11_doubleServants_6 : decode cX11_doubleServants 6 = .ok (.istore_n 1, 1) := by decide +kernel
theorem dX11_doubleServants_7 : decode cX11_doubleServants 7 = .ok (.iconst 0, 1) := by decide +kernel
theorem dX11_doubleServants_8 : decode cX11_doubleServants 8 = .ok (.istore_n 2, 1) := by decide +kernel
theorem dX11_doubleServants_9 : decode cX11_doubleServants 9 = .ok (.iload_n 2, 1) := by decide +kernel
theorem dX11_doubleServants_10 : decode cX11_doubleServants 10 = .ok (.aload_n 0, 1) := by decide +kernel
theorem dX11_doubleServants_11 : decode cX11_doubleServants 11 = .ok (.getfield 7, 3) := by decide +kernel
theorem dX11_doubleServants_14 : decode cX11_doubleServants 14 = .ok (.iconst 0, 1) := by decide +kernel
theorem dX11_doubleServants_15 : decode cX11_doubleServants 15 = .ok (.iaload, 1) := by decide +kernel
theorem dX11_doubleServants_16 : decode cX11_doubleServants 16 = .ok (.if_icmp .ge 29, 3) := by decide +kernel
theorem dX11_doubleServants_19 : decode cX11_doubleServants 19 = .ok (.iload_n 1, 1) := by decide +kernel
theorem dX11_doubleServants_20 : decode cX11_doubleServants 20 = .ok (.aload_n 0, 1) := by decide +kernel
theorem dX11_doubleServants_21 : decode cX11_doubleServants 21 = .ok (.iload_n 2, 1) := by decide +kernel
theorem dX11_doubleServants_22 : decode cX11_doubleServants 22 = .ok (.invokevirtual 448, 3) := by decide +kernel
theorem dX11_doubleServants_25 : decode cX11_doubleServants 25 = .ok (.iconst 1, 1) := by decide +kernel
theorem dX11_doubleServants_26 : decode cX11_doubleServants 26 = .ok (.if_icmp .le 7, 3) := by decide +kernel
theorem dX11_doubleServants_29 : decode cX11_doubleServants 29 = .ok (.iconst 1, 1) := by decide +kernel
theorem dX11_doubleServants_30 : decode cX11_doubleServants 30 = .ok (.goto 4, 3) := by decide +kernel
theorem dX11_doubleServants_33 : decode cX11_doubleServants 33 = .ok (.iconst 0, 1) := by decide +kernel
theorem dX11_doubleServants_34 : decode cX11_doubleServants 34 = .ok (.invokestatic 403, 3) := by decide +kernel
theorem dX11_doubleServants_37 : decode cX11_doubleServants 37 = .ok (.iadd, 1) := by decide +kernel
theorem dX11_doubleServants_38 : decode cX11_doubleServants 38 = .ok (.istore_n 1, 1) := by decide +kernel
theorem dX11_doubleServants_39 : decode cX11_doubleServants 39 = .ok (.iinc 2 1, 3) := by decide +kernel
theorem dX11_doubleServants_42 : decode cX11_doubleServants 42 = .ok (.goto (-33), 3) := by decide +kernel
theorem dX11_doubleServants_45 : decode cX11_doubleServants 45 = .ok (.iload_n 1, 1) := by decide +kernel
theorem dX11_doubleServants_46 : decode cX11_doubleServants 46 = .ok (.ireturn, 1) := by decide +kernel
theorem dX11_meanSavings_0 : decode cX11_meanSavings 0 = .ok (.aload_n 0, 1) := by decide +kernel
theorem dX11_meanSavings_1 : decode cX11_meanSavings 1 = .ok (.iconst 0, 1) := by decide +kernel
theorem dX11_meanSavings_2 : decode cX11_meanSavings 2 = .ok (.putfield 68, 3) := by decide +kernel
theorem dX11_meanSavings_5 : decode cX11_meanSavings 5 = .ok (.aload_n 0, 1) := by decide +kernel
theorem dX11_meanSavings_6 : decode cX11_meanSavings 6 = .ok (.invokevirtual 442, 3) := by decide +kernel
theorem dX11_meanSavings_9 : decode cX11_meanSavings 9 = .ok (.i2d, 1) := by decide +kernel
theorem dX11_meanSavings_10 : decode cX11_meanSavings 10 = .ok (.aload_n 0, 1) := by decide +kernel
theorem dX11_meanSavings_11 : decode cX11_meanSavings 11 = .ok (.getfield 7, 3) := by decide +kernel
theorem dX11_meanSavings_14 : decode cX11_meanSavings 14 = .ok (.iconst 0, 1) := by decide +kernel
theorem dX11_meanSavings_15 : decode cX11_meanSavings 15 = .ok (.iaload, 1) := by decide +kernel
theorem dX11_meanSavings_16 : decode cX11_meanSavings 16 = .ok (.i2d, 1) := by decide +kernel
theorem dX11_meanSavings_17 : decode cX11_meanSavings 17 = .ok (.ddiv, 1) := by decide +kernel
theorem dX11_meanSavings_18 : decode cX11_meanSavings 18 = .ok (.dreturn, 1) := by decide +kernel
theorem dX11_employmentRate_0 : decode cX11_employmentRate 0 = .ok (.aload_n 0, 1) := by decide +kernel
theorem dX11_employmentRate_1 : decode cX11_employmentRate 1 = .ok (.iconst 0, 1) := by decide +kernel
theorem dX11_employmentRate_2 : decode cX11_employmentRate 2 = .ok (.putfield 68, 3) := by decide +kernel
theorem dX11_employmentRate_5 : decode cX11_employmentRate 5 = .ok (.aload_n 0, 1) := by decide +kernel
theorem dX11_employmentRate_6 : decode cX11_employmentRate 6 = .ok (.invokevirtual 445, 3) := by decide +kernel
theorem dX11_employmentRate_9 : decode cX11_employmentRate 9 = .ok (.i2f, 1) := by decide +kernel
theorem dX11_employmentRate_10 : decode cX11_employmentRate 10 = .ok (.aload_n 0, 1) := by decide +kernel
theorem dX11_employmentRate_11 : decode cX11_employmentRate 11 = .ok (.getfield 7, 3) := by decide +kernel
theorem dX11_employmentRate_14 : decode cX11_employmentRate 14 = .ok (.iconst 0, 1) := by decide +kernel
theorem dX11_employmentRate_15 : decode cX11_employmentRate 15 = .ok (.iaload, 1) := by decide +kernel
theorem dX11_employmentRate_16 : decode cX11_employmentRate 16 = .ok (.i2f, 1) := by decide +kernel
theorem dX11_employmentRate_17 : decode cX11_employmentRate 17 = .ok (.fdiv, 1) := by decide +kernel
theorem dX11_employmentRate_18 : decode cX11_employmentRate 18 = .ok (.freturn, 1) := by decide +kernel
theorem dX11_tried_0 : decode cX11_tried 0 = .ok (.iload_n 1, 1) := by decide +kernel
theorem dX11_tried_1 : decode cX11_tried 1 = .ok (.ifCond .eq 16, 3) := by decide +kernel
theorem dX11_tried_4 : decode cX11_tried 4 = .ok (.aload_n 0, 1) := by decide +kernel
theorem dX11_tried_5 : decode cX11_tried 5 = .ok (.getfield 7, 3) := by decide +kernel
theorem dX11_tried_8 : decode cX11_tried 8 = .ok (.iconst 0, 1) := by decide +kernel
theorem dX11_tried_9 : decode cX11_tried 9 = .ok (.aload_n 0, 1) := by decide +kernel
theorem dX11_tried_10 : decode cX11_tried 10 = .ok (.getfield 16, 3) := by decide +kernel
theorem dX11_tried_13 : decode cX11_tried 13 = .ok (.iconst 0, 1) := by decide +kernel
theorem dX11_tried_14 : decode cX11_tried 14 = .ok (.invokestatic 71, 3) := by decide +kernel
theorem dX11_tried_17 : decode cX11_tried 17 = .ok (.iload_n 1, 1) := by decide +kernel
theorem dX11_tried_18 : decode cX11_tried 18 = .ok (.ireturn, 1) := by decide +kernel
theorem dX11_done_0 : decode cX11_done 0 = .ok (.aload_n 0, 1) := by decide +kernel
theorem dX11_done_1 : decode cX11_done 1 = .ok (.aload_n 0, 1) := by decide +kernel
theorem dX11_done_2 : decode cX11_done 2 = .ok (.getfield 16, 3) := by decide +kernel
theorem dX11_done_5 : decode cX11_done 5 = .ok (.invokevirtual 379, 3) := by decide +kernel
theorem dX11_done_8 : decode cX11_done 8 = .ok (.aload_n 0, 1) := by decide +kernel
theorem dX11_done_9 : decode cX11_done 9 = .ok (.getfield 201, 3) := by decide +kernel
theorem dX11_done_12 : decode cX11_done 12 = .ok (.ireturn, 1) := by decide +kernel
theorem dX11_passDays_0 : decode cX11_passDays 0 = .ok (.aload_n 0, 1) := by decide +kernel
theorem dX11_passDays_1 : decode cX11_passDays 1 = .ok (.aload_n 0, 1) := by decide +kernel
theorem dX11_passDays_2 : decode cX11_passDays 2 = .ok (.iload_n 1, 1) := by decide +kernel
theorem dX11_passDays_3 : decode cX11_passDays 3 = .ok (.i2l, 1) := by decide +kernel
theorem dX11_passDays_4 : decode cX11_passDays 4 = .ok (.lconst 1, 1) := by decide +kernel
theorem dX11_passDays_5 : decode cX11_passDays 5 = .ok (.ldc2_w 451, 3) := by decide +kernel
theorem dX11_passDays_8 : decode cX11_passDays 8 = .ok (.invokestatic 75, 3) := by decide +kernel
theorem dX11_passDays_11 : decode cX11_passDays 11 = .ok (.invokevirtual 210, 3) := by decide +kernel
theorem dX11_passDays_14 : decode cX11_passDays 14 = .ok (.invokevirtual 453, 3) := by decide +kernel
theorem dX11_passDays_17 : decode cX11_passDays 17 = .ok (.ifCond .eq 15, 3) := by decide +kernel
theorem dX11_passDays_20 : decode cX11_passDays 20 = .ok (.aload_n 0, 1) := by decide +kernel
theorem dX11_passDays_21 : decode cX11_passDays 21 = .ok (.aload_n 0, 1) := by decide +kernel
theorem dX11_passDays_22 : decode cX11_passDays 22 = .ok (.iload_n 1, 1) := by decide +kernel
theorem dX11_passDays_23 : decode cX11_passDays 23 = .ok (.invokevirtual 355, 3) := by decide +kernel
theorem dX11_passDays_26 : decode cX11_passDays 26 = .ok (.invokevirtual 456, 3) := by decide +kernel
theorem dX11_passDays_29 : decode cX11_passDays 29 = .ok (.goto 4, 3) := by decide +kernel
theorem dX11_passDays_32 : decode cX11_passDays 32 = .ok (.iconst 0, 1) := by decide +kernel
theorem dX11_passDays_33 : decode cX11_passDays 33 = .ok (.ireturn, 1) := by decide +kernel
theorem dX11_holdFair_0 : decode cX11_holdFair 0 = .ok (.aload_n 0, 1) := by decide +kernel
theorem dX11_holdFair_1 : decode cX11_holdFair 1 = .ok (.aload_n 0, 1) := by decide +kernel
theorem dX11_holdFair_2 : decode cX11_holdFair 2 = .ok (.iconst 1, 1) := by decide +kernel
theorem dX11_holdFair_3 : decode cX11_holdFair 3 = .ok (.invokevirtual 210, 3) := by decide +kernel
theorem dX11_holdFair_6 : decode cX11_holdFair 6 = .ok (.invokevirtual 453, 3) := by decide +kernel
theorem dX11_holdFair_9 : decode cX11_holdFair 9 = .ok (.ifCond .eq 14, 3) := by decide +kernel
theorem dX11_holdFair_12 : decode cX11_holdFair 12 = .ok (.aload_n 0, 1) := by decide +kernel
theorem dX11_holdFair_13 : decode cX11_holdFair 13 = .ok (.aload_n 0, 1) := by decide +kernel
theorem dX11_holdFair_14 : decode cX11_holdFair 14 = .ok (.invokevirtual 358, 3) := by decide +kernel
theorem dX11_holdFair_17 : decode cX11_holdFair 17 = .ok (.invokevirtual 456, 3) := by decide +kernel
theorem dX11_holdFair_20 : decode cX11_holdFair 20 = .ok (.goto 4, 3) := by decide +kernel
theorem dX11_holdFair_23 : decode cX11_holdFair 23 = .ok (.iconst 0, 1) := by decide +kernel
theorem dX11_holdFair_24 : decode cX11_holdFair 24 = .ok (.ireturn, 1) := by decide +kernel
theorem dX11_test_0 : decode cX11_test 0 = .ok (.aload_n 0, 1) := by decide +kernel
theorem dX11_test_1 : decode cX11_test 1 = .ok (.iload_n 1, 1) := by decide +kernel
theorem dX11_test_2 : decode cX11_test 2 = .ok (.iload_n 2, 1) := by decide +kernel
theorem dX11_test_3 : decode cX11_test 3 = .ok (.invokevirtual 400, 3) := by decide +kernel
theorem dX11_test_6 : decode cX11_test 6 = .ok (.ifCond .eq 16, 3) := by decide +kernel
theorem dX11_test_9 : decode cX11_test 9 = .ok (.aload_n 0, 1) := by decide +kernel
theorem dX11_test_10 : decode cX11_test 10 = .ok (.iload_n 1, 1) := by decide +kernel
theorem dX11_test_11 : decode cX11_test 11 = .ok (.iload_n 2, 1) := by decide +kernel
theorem dX11_test_12 : decode cX11_test 12 = .ok (.invokevirtual 204, 3) := by decide +kernel
theorem dX11_test_15 : decode cX11_test 15 = .ok (.ifCond .eq 7, 3) := by decide +kernel
theorem dX11_test_18 : decode cX11_test 18 = .ok (.iconst 1, 1) := by decide +kernel
theorem dX11_test_19 : decode cX11_test 19 = .ok (.goto 4, 3) := by decide +kernel
theorem dX11_test_22 : decode cX11_test 22 = .ok (.iconst 0, 1) := by decide +kernel
theorem dX11_test_23 : decode cX11_test 23 = .ok (.istore_n 3, 1) := by decide +kernel
theorem dX11_test_24 : decode cX11_test 24 = .ok (.aload_n 0, 1) := by decide +kernel
theorem dX11_test_25 : decode cX11_test 25 = .ok (.aload_n 0, 1) := by decide +kernel
theorem dX11_test_26 : decode cX11_test 26 = .ok (.aload_n 0, 1) := by decide +kernel
theorem dX11_test_27 : decode cX11_test 27 = .ok (.iload_n 1, 1) := by decide +kernel
theorem dX11_test_28 : decode cX11_test 28 = .ok (.iload_n 2, 1) := by decide +kernel
theorem dX11_test_29 : decode cX11_test 29 = .ok (.invokevirtual 400, 3) := by decide +kernel
theorem dX11_test_32 : decode cX11_test 32 = .ok (.iload_n 3, 1) := by decide +kernel
theorem dX11_test_33 : decode cX11_test 33 = .ok (.invokevirtual 435, 3) := by decide +kernel
theorem dX11_test_36 : decode cX11_test 36 = .ok (.invokevirtual 453, 3) := by decide +kernel
theorem dX11_test_39 : decode cX11_test 39 = .ok (.ifCond .eq 16, 3) := by decide +kernel
theorem dX11_test_42 : decode cX11_test 42 = .ok (.aload_n 0, 1) := by decide +kernel
theorem dX11_test_43 : decode cX11_test 43 = .ok (.aload_n 0, 1) := by decide +kernel
theorem dX11_test_44 : decode cX11_test 44 = .ok (.iload_n 1, 1) := by decide +kernel
theorem dX11_test_45 : decode cX11_test 45 = .ok (.iload_n 2, 1) := by decide +kernel
theorem dX11_test_46 : decode cX11_test 46 = .ok (.invokevirtual 361, 3) := by decide +kernel
theorem dX11_test_49 : decode cX11_test 49 = .ok (.invokevirtual 456, 3) := by decide +kernel
theorem dX11_test_52 : decode cX11_test 52 = .ok (.goto 4, 3) := by decide +kernel
theorem dX11_test_55 : decode cX11_test 55 = .ok (.iconst 0, 1) := by decide +kernel
theorem dX11_test_56 : decode cX11_test 56 = .ok (.ireturn, 1) := by decide +kernel
theorem dX11_dismiss_0 : decode cX11_dismiss 0 = .ok (.aload_n 0, 1) := by decide +kernel
theorem dX11_dismiss_1 : decode cX11_dismiss 1 = .ok (.aload_n 0, 1) := by decide +kernel
theorem dX11_dismiss_2 : decode cX11_dismiss 2 = .ok (.aload_n 0, 1) := by decide +kernel
theorem dX11_dismiss_3 : decode cX11_dismiss 3 = .ok (.iload_n 1, 1) := by decide +kernel
theorem dX11_dismiss_4 : decode cX11_dismiss 4 = .ok (.invokevirtual 83, 3) := by decide +kernel
theorem dX11_dismiss_7 : decode cX11_dismiss 7 = .ok (.aload_n 0, 1) := by decide +kernel
theorem dX11_dismiss_8 : decode cX11_dismiss 8 = .ok (.iload_n 1, 1) := by decide +kernel
theorem dX11_dismiss_9 : decode cX11_dismiss 9 = .ok (.invokevirtual 83, 3) := by decide +kernel
theorem dX11_dismiss_12 : decode cX11_dismiss 12 = .ok (.ifCond .eq 15, 3) := by decide +kernel
theorem dX11_dismiss_15 : decode cX11_dismiss 15 = .ok (.aload_n 0, 1) := by decide +kernel
theorem dX11_dismiss_16 : decode cX11_dismiss 16 = .ok (.iload_n 1, 1) := by decide +kernel
theorem dX11_dismiss_17 : decode cX11_dismiss 17 = .ok (.invokevirtual 149, 3) := by decide +kernel
theorem dX11_dismiss_20 : decode cX11_dismiss 20 = .ok (.ifCond .eq 7, 3) := by decide +kernel
theorem dX11_dismiss_23 : decode cX11_dismiss 23 = .ok (.iconst 1, 1) := by decide +kernel
theorem dX11_dismiss_24 : decode cX11_dismiss 24 = .ok (.goto 4, 3) := by decide +kernel
theorem dX11_dismiss_27 : decode cX11_dismiss 27 = .ok (.iconst 0, 1) := by decide +kernel
theorem dX11_dismiss_28 : decode cX11_dismiss 28 = .ok (.invokevirtual 435, 3) := by decide +kernel
theorem dX11_dismiss_31 : decode cX11_dismiss 31 = .ok (.invokevirtual 453, 3) := by decide +kernel
theorem dX11_dismiss_34 : decode cX11_dismiss 34 = .ok (.ifCond .eq 15, 3) := by decide +kernel
theorem dX11_dismiss_37 : decode cX11_dismiss 37 = .ok (.aload_n 0, 1) := by decide +kernel
theorem dX11_dismiss_38 : decode cX11_dismiss 38 = .ok (.aload_n 0, 1) := by decide +kernel
theorem dX11_dismiss_39 : decode cX11_dismiss 39 = .ok (.iload_n 1, 1) := by decide +kernel
theorem dX11_dismiss_40 : decode cX11_dismiss 40 = .ok (.invokevirtual 364, 3) := by decide +kernel
theorem dX11_dismiss_43 : decode cX11_dismiss 43 = .ok (.invokevirtual 456, 3) := by decide +kernel
theorem dX11_dismiss_46 : decode cX11_dismiss 46 = .ok (.goto 4, 3) := by decide +kernel
theorem dX11_dismiss_49 : decode cX11_dismiss 49 = .ok (.iconst 0, 1) := by decide +kernel
theorem dX11_dismiss_50 : decode cX11_dismiss 50 = .ok (.ireturn, 1) := by decide +kernel
theorem dX11_setWage_0 : decode cX11_setWage 0 = .ok (.aload_n 0, 1) := by decide +kernel
theorem dX11_setWage_1 : decode cX11_setWage 1 = .ok (.aload_n 0, 1) := by decide +kernel
theorem dX11_setWage_2 : decode cX11_setWage 2 = .ok (.aload_n 0, 1) := by decide +kernel
theorem dX11_setWage_3 : decode cX11_setWage 3 = .ok (.iload_n 1, 1) := by decide +kernel
theorem dX11_setWage_4 : decode cX11_setWage 4 = .ok (.invokevirtual 79, 3) := by decide +kernel
theorem dX11_setWage_7 : decode cX11_setWage 7 = .ok (.iload_n 2, 1) := by decide +kernel
theorem dX11_setWage_8 : decode cX11_setWage 8 = .ok (.i2l, 1) := by decide +kernel
theorem dX11_setWage_9 : decode cX11_setWage 9 = .ok (.lconst 1, 1) := by decide +kernel
theorem dX11_setWage_10 : decode cX11_setWage 10 = .ok (.ldc2_w 459, 3) := by decide +kernel
theorem dX11_setWage_13 : decode cX11_setWage 13 = .ok (.invokestatic 75, 3) := by decide +kernel
theorem dX11_setWage_16 : decode cX11_setWage 16 = .ok (.invokevirtual 435, 3) := by decide +kernel
theorem dX11_setWage_19 : decode cX11_setWage 19 = .ok (.invokevirtual 453, 3) := by decide +kernel
theorem dX11_setWage_22 : decode cX11_setWage 22 = .ok (.ifCond .eq 16, 3) := by decide +kernel
theorem dX11_setWage_25 : decode cX11_setWage 25 = .ok (.aload_n 0, 1) := by decide +kernel
theorem dX11_setWage_26 : decode cX11_setWage 26 = .ok (.aload_n 0, 1) := by decide +kernel
theorem dX11_setWage_27 : decode cX11_setWage 27 = .ok (.iload_n 1, 1) := by decide +kernel
theorem dX11_setWage_28 : decode cX11_setWage 28 = .ok (.iload_n 2, 1) := by decide +kernel
theorem dX11_setWage_29 : decode cX11_setWage 29 = .ok (.invokevirtual 367, 3) := by decide +kernel
theorem dX11_setWage_32 : decode cX11_setWage 32 = .ok (.invokevirtual 456, 3) := by decide +kernel
theorem dX11_setWage_35 : decode cX11_setWage 35 = .ok (.goto 4, 3) := by decide +kernel
theorem dX11_setWage_38 : decode cX11_setWage 38 = .ok (.iconst 0, 1) := by decide +kernel
theorem dX11_setWage_39 : decode cX11_setWage 39 = .ok (.ireturn, 1) := by decide +kernel
theorem dX11_fund_0 : decode cX11_fund 0 = .ok (.aload_n 0, 1) := by decide +kernel
theorem dX11_fund_1 : decode cX11_fund 1 = .ok (.aload_n 0, 1) := by decide +kernel
theorem dX11_fund_2 : decode cX11_fund 2 = .ok (.aload_n 0, 1) := by decide +kernel
theorem dX11_fund_3 : decode cX11_fund 3 = .ok (.iload_n 1, 1) := by decide +kernel
theorem dX11_fund_4 : decode cX11_fund 4 = .ok (.invokevirtual 79, 3) := by decide +kernel
theorem dX11_fund_7 : decode cX11_fund 7 = .ok (.iload_n 2, 1) := by decide +kernel
theorem dX11_fund_8 : decode cX11_fund 8 = .ok (.i2l, 1) := by decide +kernel
theorem dX11_fund_9 : decode cX11_fund 9 = .ok (.lconst 1, 1) := by decide +kernel
theorem dX11_fund_10 : decode cX11_fund 10 = .ok (.ldc2_w 461, 3) := by decide +kernel
theorem dX11_fund_13 : decode cX11_fund 13 = .ok (.invokestatic 75, 3) := by decide +kernel
theorem dX11_fund_16 : decode cX11_fund 16 = .ok (.invokevirtual 435, 3) := by decide +kernel
theorem dX11_fund_19 : decode cX11_fund 19 = .ok (.invokevirtual 453, 3) := by decide +kernel
theorem dX11_fund_22 : decode cX11_fund 22 = .ok (.ifCond .eq 16, 3) := by decide +kernel
theorem dX11_fund_25 : decode cX11_fund 25 = .ok (.aload_n 0, 1) := by decide +kernel
theorem dX11_fund_26 : decode cX11_fund 26 = .ok (.aload_n 0, 1) := by decide +kernel
theorem dX11_fund_27 : decode cX11_fund 27 = .ok (.iload_n 1, 1) := by decide +kernel
theorem dX11_fund_28 : decode cX11_fund 28 = .ok (.iload_n 2, 1) := by decide +kernel
theorem dX11_fund_29 : decode cX11_fund 29 = .ok (.invokevirtual 370, 3) := by decide +kernel
theorem dX11_fund_32 : decode cX11_fund 32 = .ok (.invokevirtual 456, 3) := by decide +kernel
theorem dX11_fund_35 : decode cX11_fund 35 = .ok (.goto 4, 3) := by decide +kernel
theorem dX11_fund_38 : decode cX11_fund 38 = .ok (.iconst 0, 1) := by decide +kernel
theorem dX11_fund_39 : decode cX11_fund 39 = .ok (.ireturn, 1) := by decide +kernel
theorem dX11_train_0 : decode cX11_train 0 = .ok (.aload_n 0, 1) := by decide +kernel
theorem dX11_train_1 : decode cX11_train 1 = .ok (.aload_n 0, 1) := by decide +kernel
theorem dX11_train_2 : decode cX11_train 2 = .ok (.aload_n 0, 1) := by decide +kernel
theorem dX11_train_3 : decode cX11_train 3 = .ok (.iload_n 1, 1) := by decide +kernel
theorem dX11_train_4 : decode cX11_train 4 = .ok (.invokevirtual 83, 3) := by decide +kernel
theorem dX11_train_7 : decode cX11_train 7 = .ok (.aload_n 0, 1) := by decide +kernel
theorem dX11_train_8 : decode cX11_train 8 = .ok (.iload_n 1, 1) := by decide +kernel
theorem dX11_train_9 : decode cX11_train 9 = .ok (.invokevirtual 83, 3) := by decide +kernel
theorem dX11_train_12 : decode cX11_train 12 = .ok (.ifCond .eq 15, 3) := by decide +kernel
theorem dX11_train_15 : decode cX11_train 15 = .ok (.aload_n 0, 1) := by decide +kernel
theorem dX11_train_16 : decode cX11_train 16 = .ok (.iload_n 1, 1) := by decide +kernel
theorem dX11_train_17 : decode cX11_train 17 = .ok (.invokevirtual 207, 3) := by decide +kernel
theorem dX11_train_20 : decode cX11_train 20 = .ok (.ifCond .eq 7, 3) := by decide +kernel
theorem dX11_train_23 : decode cX11_train 23 = .ok (.iconst 1, 1) := by decide +kernel
theorem dX11_train_24 : decode cX11_train 24 = .ok (.goto 4, 3) := by decide +kernel
theorem dX11_train_27 : decode cX11_train 27 = .ok (.iconst 0, 1) := by decide +kernel
theorem dX11_train_28 : decode cX11_train 28 = .ok (.invokevirtual 435, 3) := by decide +kernel
theorem dX11_train_31 : decode cX11_train 31 = .ok (.invokevirtual 453, 3) := by decide +kernel
theorem dX11_train_34 : decode cX11_train 34 = .ok (.ifCond .eq 15, 3) := by decide +kernel
theorem dX11_train_37 : decode cX11_train 37 = .ok (.aload_n 0, 1) := by decide +kernel
theorem dX11_train_38 : decode cX11_train 38 = .ok (.aload_n 0, 1) := by decide +kernel
theorem dX11_train_39 : decode cX11_train 39 = .ok (.iload_n 1, 1) := by decide +kernel
theorem dX11_train_40 : decode cX11_train 40 = .ok (.invokevirtual 373, 3) := by decide +kernel
theorem dX11_train_43 : decode cX11_train 43 = .ok (.invokevirtual 456, 3) := by decide +kernel
theorem dX11_train_46 : decode cX11_train 46 = .ok (.goto 4, 3) := by decide +kernel
theorem dX11_train_49 : decode cX11_train 49 = .ok (.iconst 0, 1) := by decide +kernel
theorem dX11_train_50 : decode cX11_train 50 = .ok (.ireturn, 1) := by decide +kernel
theorem dX11_undo_0 : decode cX11_undo 0 = .ok (.aload_n 0, 1) := by decide +kernel
theorem dX11_undo_1 : decode cX11_undo 1 = .ok (.aload_n 0, 1) := by decide +kernel
theorem dX11_undo_2 : decode cX11_undo 2 = .ok (.getfield 328, 3) := by decide +kernel
theorem dX11_undo_5 : decode cX11_undo 5 = .ok (.ifCond .le 7, 3) := by decide +kernel
theorem dX11_undo_8 : decode cX11_undo 8 = .ok (.iconst 1, 1) := by decide +kernel
theorem dX11_undo_9 : decode cX11_undo 9 = .ok (.goto 4, 3) := by decide +kernel
theorem dX11_undo_12 : decode cX11_undo 12 = .ok (.iconst 0, 1) := by decide +kernel
theorem dX11_undo_13 : decode cX11_undo 13 = .ok (.invokevirtual 210, 3) := by decide +kernel
theorem dX11_undo_16 : decode cX11_undo 16 = .ok (.ifCond .ne 5, 3) := by decide +kernel
theorem dX11_undo_19 : decode cX11_undo 19 = .ok (.iconst 0, 1) := by decide +kernel
theorem dX11_undo_20 : decode cX11_undo 20 = .ok (.ireturn, 1) := by decide +kernel
theorem dX11_undo_21 : decode cX11_undo 21 = .ok (.aload_n 0, 1) := by decide +kernel
theorem dX11_undo_22 : decode cX11_undo 22 = .ok (.dup, 1) := by decide +kernel
theorem dX11_undo_23 : decode cX11_undo 23 = .ok (.getfield 328, 3) := by decide +kernel
theorem dX11_undo_26 : decode cX11_undo 26 = .ok (.iconst 1, 1) := by decide +kernel
theorem dX11_undo_27 : decode cX11_undo 27 = .ok (.isub, 1) := by decide +kernel
theorem dX11_undo_28 : decode cX11_undo 28 = .ok (.putfield 328, 3) := by decide +kernel
theorem dX11_undo_31 : decode cX11_undo 31 = .ok (.aload_n 0, 1) := by decide +kernel
theorem dX11_undo_32 : decode cX11_undo 32 = .ok (.getfield 22, 3) := by decide +kernel
theorem dX11_undo_35 : decode cX11_undo 35 = .ok (.sipush 627, 3) := by decide +kernel
theorem dX11_undo_38 : decode cX11_undo 38 = .ok (.aload_n 0, 1) := by decide +kernel
theorem dX11_undo_39 : decode cX11_undo 39 = .ok (.getfield 328, 3) := by decide +kernel
theorem dX11_undo_42 : decode cX11_undo 42 = .ok (.imul, 1) := by decide +kernel
theorem dX11_undo_43 : decode cX11_undo 43 = .ok (.aload_n 0, 1) := by decide +kernel
theorem dX11_undo_44 : decode cX11_undo 44 = .ok (.getfield 7, 3) := by decide +kernel
theorem dX11_undo_47 : decode cX11_undo 47 = .ok (.iconst 0, 1) := by decide +kernel
theorem dX11_undo_48 : decode cX11_undo 48 = .ok (.invokestatic 71, 3) := by decide +kernel
theorem dX11_undo_51 : decode cX11_undo 51 = .ok (.aload_n 0, 1) := by decide +kernel
theorem dX11_undo_52 : decode cX11_undo 52 = .ok (.getfield 328, 3) := by decide +kernel
theorem dX11_undo_55 : decode cX11_undo 55 = .ok (.ireturn, 1) := by decide +kernel
theorem dX11_save_0 : decode cX11_save 0 = .ok (.aload_n 0, 1) := by decide +kernel
theorem dX11_save_1 : decode cX11_save 1 = .ok (.iconst 0, 1) := by decide +kernel
theorem dX11_save_2 : decode cX11_save 2 = .ok (.putfield 68, 3) := by decide +kernel
theorem dX11_save_5 : decode cX11_save 5 = .ok (.aload_n 0, 1) := by decide +kernel
theorem dX11_save_6 : decode cX11_save 6 = .ok (.getfield 7, 3) := by decide +kernel
theorem dX11_save_9 : decode cX11_save 9 = .ok (.iconst 0, 1) := by decide +kernel
theorem dX11_save_10 : decode cX11_save 10 = .ok (.aload_n 0, 1) := by decide +kernel
theorem dX11_save_11 : decode cX11_save 11 = .ok (.getfield 13, 3) := by decide +kernel
theorem dX11_save_14 : decode cX11_save 14 = .ok (.iconst 0, 1) := by decide +kernel
theorem dX11_save_15 : decode cX11_save 15 = .ok (.invokestatic 71, 3) := by decide +kernel
theorem dX11_save_18 : decode cX11_save 18 = .ok (.aload_n 0, 1) := by decide +kernel
theorem dX11_save_19 : decode cX11_save 19 = .ok (.iconst 1, 1) := by decide +kernel
theorem dX11_save_20 : decode cX11_save 20 = .ok (.putfield 463, 3) := by decide +kernel
theorem dX11_save_23 : decode cX11_save 23 = .ok (.aload_n 0, 1) := by decide +kernel
theorem dX11_save_24 : decode cX11_save 24 = .ok (.getfield 7, 3) := by decide +kernel
theorem dX11_save_27 : decode cX11_save 27 = .ok (.iconst 2, 1) := by decide +kernel
theorem dX11_save_28 : decode cX11_save 28 = .ok (.iaload, 1) := by decide +kernel
theorem dX11_save_29 : decode cX11_save 29 = .ok (.ireturn, 1) := by decide +kernel
theorem dX11_restore_0 : decode cX11_restore 0 = .ok (.aload_n 0, 1) := by decide +kernel
theorem dX11_restore_1 : decode cX11_restore 1 = .ok (.aload_n 0, 1) := by decide +kernel
theorem dX11_restore_2 : decode cX11_restore 2 = .ok (.getfield 463, 3) := by decide +kernel
theorem dX11_restore_5 : decode cX11_restore 5 = .ok (.invokevirtual 210, 3) := by decide +kernel
theorem dX11_restore_8 : decode cX11_restore 8 = .ok (.ifCond .ne 5, 3) := by decide +kernel
theorem dX11_restore_11 : decode cX11_restore 11 = .ok (.iconst 0, 1) := by decide +kernel
theorem dX11_restore_12 : decode cX11_restore 12 = .ok (.ireturn, 1) := by decide +kernel
theorem dX11_restore_13 : decode cX11_restore 13 = .ok (.aload_n 0, 1) := by decide +kernel
theorem dX11_restore_14 : decode cX11_restore 14 = .ok (.getfield 13, 3) := by decide +kernel
theorem dX11_restore_17 : decode cX11_restore 17 = .ok (.iconst 0, 1) := by decide +kernel
theorem dX11_restore_18 : decode cX11_restore 18 = .ok (.aload_n 0, 1) := by decide +kernel
theorem dX11_restore_19 : decode cX11_restore 19 = .ok (.getfield 7, 3) := by decide +kernel
theorem dX11_restore_22 : decode cX11_restore 22 = .ok (.iconst 0, 1) := by decide +kernel
theorem dX11_restore_23 : decode cX11_restore 23 = .ok (.invokestatic 71, 3) := by decide +kernel
theorem dX11_restore_26 : decode cX11_restore 26 = .ok (.aload_n 0, 1) := by decide +kernel
theorem dX11_restore_27 : decode cX11_restore 27 = .ok (.iconst 0, 1) := by decide +kernel
theorem dX11_restore_28 : decode cX11_restore 28 = .ok (.putfield 328, 3) := by decide +kernel
theorem dX11_restore_31 : decode cX11_restore 31 = .ok (.aload_n 0, 1) := by decide +kernel
theorem dX11_restore_32 : decode cX11_restore 32 = .ok (.getfield 7, 3) := by decide +kernel
theorem dX11_restore_35 : decode cX11_restore 35 = .ok (.iconst 2, 1) := by decide +kernel
theorem dX11_restore_36 : decode cX11_restore 36 = .ok (.iaload, 1) := by decide +kernel
theorem dX11_restore_37 : decode cX11_restore 37 = .ok (.ireturn, 1) := by decide +kernel
theorem dX11_writes_0 : decode cX11_writes 0 = .ok (.aload_n 0, 1) := by decide +kernel
theorem dX11_writes_1 : decode cX11_writes 1 = .ok (.getfield 48, 3) := by decide +kernel
theorem dX11_writes_4 : decode cX11_writes 4 = .ok (.aload_n 0, 1) := by decide +kernel
theorem dX11_writes_5 : decode cX11_writes 5 = .ok (.getfield 467, 3) := by decide +kernel
theorem dX11_writes_8 : decode cX11_writes 8 = .ok (.iload_n 1, 1) := by decide +kernel
theorem dX11_writes_9 : decode cX11_writes 9 = .ok (.iastore, 1) := by decide +kernel
theorem dX11_writes_10 : decode cX11_writes 10 = .ok (.aload_n 0, 1) := by decide +kernel
theorem dX11_writes_11 : decode cX11_writes 11 = .ok (.dup, 1) := by decide +kernel
theorem dX11_writes_12 : decode cX11_writes 12 = .ok (.getfield 467, 3) := by decide +kernel
theorem dX11_writes_15 : decode cX11_writes 15 = .ok (.iconst 1, 1) := by decide +kernel
theorem dX11_writes_16 : decode cX11_writes 16 = .ok (.iadd, 1) := by decide +kernel
theorem dX11_writes_17 : decode cX11_writes 17 = .ok (.putfield 467, 3) := by decide +kernel
theorem dX11_writes_20 : decode cX11_writes 20 = .ok (.return_, 1) := by decide +kernel
theorem dX11_writesName_0 : decode cX11_writesName 0 = .ok (.iconst 0, 1) := by decide +kernel
theorem dX11_writesName_1 : decode cX11_writesName 1 = .ok (.istore_n 2, 1) := by decide +kernel
theorem dX11_writesName_2 : decode cX11_writesName 2 = .ok (.iload_n 2, 1) := by decide +kernel
theorem dX11_writesName_3 : decode cX11_writesName 3 = .ok (.aload_n 0, 1) := by decide +kernel
theorem dX11_writesName_4 : decode cX11_writesName 4 = .ok (.getfield 7, 3) := by decide +kernel
theorem dX11_writesName_7 : decode cX11_writesName 7 = .ok (.iload_n 1, 1) := by decide +kernel
theorem dX11_writesName_8 : decode cX11_writesName 8 = .ok (.iaload, 1) := by decide +kernel
theorem dX11_writesName_9 : decode cX11_writesName 9 = .ok (.if_icmp .ge 23, 3) := by decide +kernel
theorem dX11_writesName_12 : decode cX11_writesName 12 = .ok (.aload_n 0, 1) := by decide +kernel
theorem dX11_writesName_13 : decode cX11_writesName 13 = .ok (.aload_n 0, 1) := by decide +kernel
theorem dX11_writesName_14 : decode cX11_writesName 14 = .ok (.getfield 7, 3) := by decide +kernel
theorem dX11_writesName_17 : decode cX11_writesName 17 = .ok (.iload_n 1, 1) := by decide +kernel
theorem dX11_writesName_18 : decode cX11_writesName 18 = .ok (.iconst 1, 1) := by decide +kernel
theorem dX11_writesName_19 : decode cX11_writesName 19 = .ok (.iadd, 1) := by decide +kernel
theorem dX11_writesName_20 : decode cX11_writesName 20 = .ok (.iload_n 2, 1) := by decide +kernel
theorem dX11_writesName_21 : decode cX11_writesName 21 = .ok (.iadd, 1) := by decide +kernel
theorem dX11_writesName_22 : decode cX11_writesName 22 = .ok (.iaload, 1) := by decide +kernel
theorem dX11_writesName_23 : decode cX11_writesName 23 = .ok (.invokevirtual 470, 3) := by decide +kernel
theorem dX11_writesName_26 : decode cX11_writesName 26 = .ok (.iinc 2 1, 3) := by decide +kernel
theorem dX11_writesName_29 : decode cX11_writesName 29 = .ok (.goto (-27), 3) := by decide +kernel
theorem dX11_writesName_32 : decode cX11_writesName 32 = .ok (.return_, 1) := by decide +kernel
theorem dX11_formatContracts_0 : decode cX11_formatContracts 0 = .ok (.aload_n 0, 1) := by decide +kernel
theorem dX11_formatContracts_1 : decode cX11_formatContracts 1 = .ok (.iconst 0, 1) := by decide +kernel
theorem dX11_formatContracts_2 : decode cX11_formatContracts 2 = .ok (.putfield 68, 3) := by decide +kernel
theorem dX11_formatContracts_5 : decode cX11_formatContracts 5 = .ok (.aload_n 0, 1) := by decide +kernel
theorem dX11_formatContracts_6 : decode cX11_formatContracts 6 = .ok (.iconst 0, 1) := by decide +kernel
theorem dX11_formatContracts_7 : decode cX11_formatContracts 7 = .ok (.putfield 467, 3) := by decide +kernel
theorem dX11_formatContracts_10 : decode cX11_formatContracts 10 = .ok (.iconst 0, 1) := by decide +kernel
theorem dX11_formatContracts_11 : decode cX11_formatContracts 11 = .ok (.istore_n 1, 1) := by decide +kernel
theorem dX11_formatContracts_12 : decode cX11_formatContracts 12 = .ok (.iload_n 1, 1) := by decide +kernel
theorem dX11_formatContracts_13 : decode cX11_formatContracts 13 = .ok (.aload_n 0, 1) := by decide +kernel
theorem dX11_formatContracts_14 : decode cX11_formatContracts 14 = .ok (.getfield 7, 3) := by decide +kernel
theorem dX11_formatContracts_17 : decode cX11_formatContracts 17 = .ok (.iconst 1, 1) := by decide +kernel
theorem dX11_formatContracts_18 : decode cX11_formatContracts 18 = .ok (.iaload, 1) := by decide +kernel
theorem dX11_formatContracts_19 : decode cX11_formatContracts 19 = .ok (.if_icmp .ge 80, 3) := by decide +kernel
theorem dX11_formatContracts_22 : decode cX11_formatContracts 22 = .ok (.iload_n 1, 1) := by decide +kernel
theorem dX11_formatContracts_23 : decode cX11_formatContracts 23 = .ok (.ifCond .le 9, 3) := by decide +kernel
theorem dX11_formatContracts_26 : decode cX11_formatContracts 26 = .ok (.aload_n 0, 1) := by decide +kernel
theorem dX11_formatContracts_27 : decode cX11_formatContracts 27 = .ok (.bipush 32, 2) := by decide +kernel
theorem dX11_formatContracts_29 : decode cX11_formatContracts 29 = .ok (.invokevirtual 470, 3) := by decide +kernel
theorem dX11_formatContracts_32 : decode cX11_formatContracts 32 = .ok (.aload_n 0, 1) := by decide +kernel
theorem dX11_formatContracts_33 : decode cX11_formatContracts 33 = .ok (.iload_n 1, 1) := by decide +kernel
theorem dX11_formatContracts_34 : decode cX11_formatContracts 34 = .ok (.iconst 1, 1) := by decide +kernel
theorem dX11_formatContracts_35 : decode cX11_formatContracts 35 = .ok (.invokestatic 259, 3) := by decide +kernel
theorem dX11_formatContracts_38 : decode cX11_formatContracts 38 = .ok (.invokevirtual 473, 3) := by decide +kernel
theorem dX11_formatContracts_41 : decode cX11_formatContracts 41 = .ok (.aload_n 0, 1) := by decide +kernel
theorem dX11_formatContracts_42 : decode cX11_formatContracts 42 = .ok (.bipush 61, 2) := by decide +kernel
theorem dX11_formatContracts_44 : decode cX11_formatContracts 44 = .ok (.invokevirtual 470, 3) := by decide +kernel
theorem dX11_formatContracts_47 : decode cX11_formatContracts 47 = .ok (.iconst 0, 1) := by decide +kernel
theorem dX11_formatContracts_48 : decode cX11_formatContracts 48 = .ok (.istore_n 2, 1) := by decide +kernel
theorem dX11_formatContracts_49 : decode cX11_formatContracts 49 = .ok (.iload_n 2, 1) := by decide +kernel
theorem dX11_formatContracts_50 : decode cX11_formatContracts 50 = .ok (.aload_n 0, 1) := by decide +kernel
theorem dX11_formatContracts_51 : decode cX11_formatContracts 51 = .ok (.iload_n 1, 1) := by decide +kernel
theorem dX11_formatContracts_52 : decode cX11_formatContracts 52 = .ok (.bipush 13, 2) := by decide +kernel
theorem dX11_formatContracts_54 : decode cX11_formatContracts 54 = .ok (.invokevirtual 90, 3) := by decide +kernel
theorem dX11_formatContracts_57 : decode cX11_formatContracts 57 = .ok (.if_icmp .ge 36, 3) := by decide +kernel
theorem dX11_formatContracts_60 : decode cX11_formatContracts 60 = .ok (.iload_n 2, 1) := by decide +kernel
theorem dX11_formatContracts_61 : decode cX11_formatContracts 61 = .ok (.ifCond .le 9, 3) := by decide +kernel
theorem dX11_formatContracts_64 : decode cX11_formatContracts 64 = .ok (.aload_n 0, 1) := by decide +kernel
theorem dX11_formatContracts_65 : decode cX11_formatContracts 65 = .ok (.bipush 43, 2) := by decide +kernel
theorem dX11_formatContracts_67 : decode cX11_formatContracts 67 = .ok (.invokevirtual 470, 3) := by decide +kernel
theorem dX11_formatContracts_70 : decode cX11_formatContracts 70 = .ok (.aload_n 0, 1) := by decide +kernel
theorem dX11_formatContracts_71 : decode cX11_formatContracts 71 = .ok (.aload_n 0, 1) := by decide +kernel
theorem dX11_formatContracts_72 : decode cX11_formatContracts 72 = .ok (.iload_n 1, 1) := by decide +kernel
theorem dX11_formatContracts_73 : decode cX11_formatContracts 73 = .ok (.bipush 14, 2) := by decide +kernel
theorem dX11_formatContracts_75 : decode cX11_formatContracts 75 = .ok (.iload_n 2, 1) := by decide +kernel
theorem dX11_formatContracts_76 : decode cX11_formatContracts 76 = .ok (.iadd, 1) := by decide +kernel
theorem dX11_formatContracts_77 : decode cX11_formatContracts 77 = .ok (.invokevirtual 90, 3) := by decide +kernel
theorem dX11_formatContracts_80 : decode cX11_formatContracts 80 = .ok (.iconst 0, 1) := by decide +kernel
theorem dX11_formatContracts_81 : decode cX11_formatContracts 81 = .ok (.invokestatic 259, 3) := by decide +kernel
theorem dX11_formatContracts_84 : decode cX11_formatContracts 84 = .ok (.invokevirtual 473, 3) := by decide +kernel
theorem dX11_formatContracts_87 : decode cX11_formatContracts 87 = .ok (.iinc 2 1, 3) := by decide +kernel
theorem dX11_formatContracts_90 : decode cX11_formatContracts 90 = .ok (.goto (-41), 3) := by decide +kernel
theorem dX11_formatContracts_93 : decode cX11_formatContracts 93 = .ok (.iinc 1 1, 3) := by decide +kernel
theorem dX11_formatContracts_96 : decode cX11_formatContracts 96 = .ok (.goto (-84), 3) := by decide +kernel
theorem dX11_formatContracts_99 : decode cX11_formatContracts 99 = .ok (.aload_n 0, 1) := by decide +kernel
theorem dX11_formatContracts_100 : decode cX11_formatContracts 100 = .ok (.getfield 467, 3) := by decide +kernel
theorem dX11_formatContracts_103 : decode cX11_formatContracts 103 = .ok (.ireturn, 1) := by decide +kernel
theorem dX11_outputByte_0 : decode cX11_outputByte 0 = .ok (.aload_n 0, 1) := by decide +kernel
theorem dX11_outputByte_1 : decode cX11_outputByte 1 = .ok (.iconst 0, 1) := by decide +kernel
theorem dX11_outputByte_2 : decode cX11_outputByte 2 = .ok (.putfield 68, 3) := by decide +kernel
theorem dX11_outputByte_5 : decode cX11_outputByte 5 = .ok (.iload_n 1, 1) := by decide +kernel
theorem dX11_outputByte_6 : decode cX11_outputByte 6 = .ok (.i2l, 1) := by decide +kernel
theorem dX11_outputByte_7 : decode cX11_outputByte 7 = .ok (.lconst 0, 1) := by decide +kernel
theorem dX11_outputByte_8 : decode cX11_outputByte 8 = .ok (.aload_n 0, 1) := by decide +kernel
theorem dX11_outputByte_9 : decode cX11_outputByte 9 = .ok (.getfield 467, 3) := by decide +kernel
theorem dX11_outputByte_12 : decode cX11_outputByte 12 = .ok (.iconst 1, 1) := by decide +kernel
theorem dX11_outputByte_13 : decode cX11_outputByte 13 = .ok (.isub, 1) := by decide +kernel
theorem dX11_outputByte_14 : decode cX11_outputByte 14 = .ok (.i2l, 1) := by decide +kernel
theorem dX11_outputByte_15 : decode cX11_outputByte 15 = .ok (.invokestatic 75, 3) := by decide +kernel
theorem dX11_outputByte_18 : decode cX11_outputByte 18 = .ok (.ifCond .eq 12, 3) := by decide +kernel
theorem dX11_outputByte_21 : decode cX11_outputByte 21 = .ok (.aload_n 0, 1) := by decide +kernel
theorem dX11_outputByte_22 : decode cX11_outputByte 22 = .ok (.getfield 48, 3) := by decide +kernel
theorem dX11_outputByte_25 : decode cX11_outputByte 25 = .ok (.iload_n 1, 1) := by decide +kernel
theorem dX11_outputByte_26 : decode cX11_outputByte 26 = .ok (.iaload, 1) := by decide +kernel
theorem dX11_outputByte_27 : decode cX11_outputByte 27 = .ok (.goto 4, 3) := by decide +kernel
theorem dX11_outputByte_30 : decode cX11_outputByte 30 = .ok (.iconst (-1), 1) := by decide +kernel
theorem dX11_outputByte_31 : decode cX11_outputByte 31 = .ok (.ireturn, 1) := by decide +kernel
theorem dJ9_floorMod_7cf53_0 : decode cJ9_floorMod_7cf53 0 = .ok (.iload_n 0, 1) := by decide +kernel
theorem dJ9_floorMod_7cf53_1 : decode cJ9_floorMod_7cf53 1 = .ok (.iload_n 1, 1) := by decide +kernel
theorem dJ9_floorMod_7cf53_2 : decode cJ9_floorMod_7cf53 2 = .ok (.irem, 1) := by decide +kernel
theorem dJ9_floorMod_7cf53_3 : decode cJ9_floorMod_7cf53 3 = .ok (.istore_n 2, 1) := by decide +kernel
theorem dJ9_floorMod_7cf53_4 : decode cJ9_floorMod_7cf53 4 = .ok (.iload_n 0, 1) := by decide +kernel
theorem dJ9_floorMod_7cf53_5 : decode cJ9_floorMod_7cf53 5 = .ok (.iload_n 1, 1) := by decide +kernel
theorem dJ9_floorMod_7cf53_6 : decode cJ9_floorMod_7cf53 6 = .ok (.ixor, 1) := by decide +kernel
theorem dJ9_floorMod_7cf53_7 : decode cJ9_floorMod_7cf53 7 = .ok (.ifCond .ge 11, 3) := by decide +kernel
theorem dJ9_floorMod_7cf53_10 : decode cJ9_floorMod_7cf53 10 = .ok (.iload_n 2, 1) := by decide +kernel
theorem dJ9_floorMod_7cf53_11 : decode cJ9_floorMod_7cf53 11 = .ok (.ifCond .eq 7, 3) := by decide +kernel
theorem dJ9_floorMod_7cf53_14 : decode cJ9_floorMod_7cf53 14 = .ok (.iload_n 2, 1) := by decide +kernel
theorem dJ9_floorMod_7cf53_15 : decode cJ9_floorMod_7cf53 15 = .ok (.iload_n 1, 1) := by decide +kernel
theorem dJ9_floorMod_7cf53_16 : decode cJ9_floorMod_7cf53 16 = .ok (.iadd, 1) := by decide +kernel
theorem dJ9_floorMod_7cf53_17 : decode cJ9_floorMod_7cf53 17 = .ok (.ireturn, 1) := by decide +kernel
theorem dJ9_floorMod_7cf53_18 : decode cJ9_floorMod_7cf53 18 = .ok (.iload_n 2, 1) := by decide +kernel
theorem dJ9_floorMod_7cf53_19 : decode cJ9_floorMod_7cf53 19 = .ok (.ireturn, 1) := by decide +kernel
theorem dJ9_abs_0f7a4_0 : decode cJ9_abs_0f7a4 0 = .ok (.iload_n 0, 1) := by decide +kernel
theorem dJ9_abs_0f7a4_1 : decode cJ9_abs_0f7a4 1 = .ok (.ifCond .ge 8, 3) := by decide +kernel
theorem dJ9_abs_0f7a4_4 : decode cJ9_abs_0f7a4 4 = .ok (.iload_n 0, 1) := by decide +kernel
theorem dJ9_abs_0f7a4_5 : decode cJ9_abs_0f7a4 5 = .ok (.ineg, 1) := by decide +kernel
theorem dJ9_abs_0f7a4_6 : decode cJ9_abs_0f7a4 6 = .ok (.goto 4, 3) := by decide +kernel
theorem dJ9_abs_0f7a4_9 : decode cJ9_abs_0f7a4 9 = .ok (.iload_n 0, 1) := by decide +kernel
theorem dJ9_abs_0f7a4_10 : decode cJ9_abs_0f7a4 10 = .ok (.ireturn, 1) := by decide +kernel
theorem dJ9_max_7cf53_0 : decode cJ9_max_7cf53 0 = .ok (.iload_n 0, 1) := by decide +kernel
theorem dJ9_max_7cf53_1 : decode cJ9_max_7cf53 1 = .ok (.iload_n 1, 1) := by decide +kernel
theorem dJ9_max_7cf53_2 : decode cJ9_max_7cf53 2 = .ok (.if_icmp .lt 7, 3) := by decide +kernel
theorem dJ9_max_7cf53_5 : decode cJ9_max_7cf53 5 = .ok (.iload_n 0, 1) := by decide +kernel
theorem dJ9_max_7cf53_6 : decode cJ9_max_7cf53 6 = .ok (.goto 4, 3) := by decide +kernel
theorem dJ9_max_7cf53_9 : decode cJ9_max_7cf53 9 = .ok (.iload_n 1, 1) := by decide +kernel
theorem dJ9_max_7cf53_10 : decode cJ9_max_7cf53 10 = .ok (.ireturn, 1) := by decide +kernel
theorem dJ0_length_8abf5_0 : decode cJ0_length_8abf5 0 = .ok (.aload_n 0, 1) := by decide +kernel
theorem dJ0_length_8abf5_1 : decode cJ0_length_8abf5 1 = .ok (.getfield 9, 3) := by decide +kernel
theorem dJ0_length_8abf5_4 : decode cJ0_length_8abf5 4 = .ok (.arraylength, 1) := by decide +kernel
theorem dJ0_length_8abf5_5 : decode cJ0_length_8abf5 5 = .ok (.aload_n 0, 1) := by decide +kernel
theorem dJ0_length_8abf5_6 : decode cJ0_length_8abf5 6 = .ok (.invokevirtual 335, 3) := by decide +kernel
theorem dJ0_length_8abf5_9 : decode cJ0_length_8abf5 9 = .ok (.ishr, 1) := by decide +kernel
theorem dJ0_length_8abf5_10 : decode cJ0_length_8abf5 10 = .ok (.ireturn, 1) := by decide +kernel
theorem dJ0_charAt_5068e_0 : decode cJ0_charAt_5068e 0 = .ok (.aload_n 0, 1) := by decide +kernel
theorem dJ0_charAt_5068e_1 : decode cJ0_charAt_5068e 1 = .ok (.invokevirtual 492, 3) := by decide +kernel
theorem dJ0_charAt_5068e_4 : decode cJ0_charAt_5068e 4 = .ok (.ifCond .eq 12, 3) := by decide +kernel
theorem dJ0_charAt_5068e_7 : decode cJ0_charAt_5068e 7 = .ok (.aload_n 0, 1) := by decide +kernel
theorem dJ0_charAt_5068e_8 : decode cJ0_charAt_5068e 8 = .ok (.getfield 9, 3) := by decide +kernel
theorem dJ0_charAt_5068e_11 : decode cJ0_charAt_5068e 11 = .ok (.iload_n 1, 1) := by decide +kernel
theorem dJ0_charAt_5068e_12 : decode cJ0_charAt_5068e 12 = .ok (.invokestatic 495, 3) := by decide +kernel
theorem dJ0_charAt_5068e_15 : decode cJ0_charAt_5068e 15 = .ok (.ireturn, 1) := by decide +kernel
theorem dJ0_charAt_5068e_16 : decode cJ0_charAt_5068e 16 = .ok (.aload_n 0, 1) := by decide +kernel
theorem dJ0_charAt_5068e_17 : decode cJ0_charAt_5068e 17 = .ok (.getfield 9, 3) := by decide +kernel
theorem dJ0_charAt_5068e_20 : decode cJ0_charAt_5068e 20 = .ok (.iload_n 1, 1) := by decide +kernel
theorem dJ0_charAt_5068e_21 : decode cJ0_charAt_5068e 21 = .ok (.invokestatic 498, 3) := by decide +kernel
theorem dJ0_charAt_5068e_24 : decode cJ0_charAt_5068e 24 = .ok (.ireturn, 1) := by decide +kernel
theorem dJ0_coder_7d493_0 : decode cJ0_coder_7d493 0 = .ok (.getstatic 38, 3) := by decide +kernel
theorem dJ0_coder_7d493_3 : decode cJ0_coder_7d493 3 = .ok (.ifCond .eq 10, 3) := by decide +kernel
theorem dJ0_coder_7d493_6 : decode cJ0_coder_7d493 6 = .ok (.aload_n 0, 1) := by decide +kernel
theorem dJ0_coder_7d493_7 : decode cJ0_coder_7d493 7 = .ok (.getfield 15, 3) := by decide +kernel
theorem dJ0_coder_7d493_10 : decode cJ0_coder_7d493 10 = .ok (.goto 4, 3) := by decide +kernel
theorem dJ0_coder_7d493_13 : decode cJ0_coder_7d493 13 = .ok (.iconst 1, 1) := by decide +kernel
theorem dJ0_coder_7d493_14 : decode cJ0_coder_7d493 14 = .ok (.ireturn, 1) := by decide +kernel
theorem dJ0_isLatin1_aae02_0 : decode cJ0_isLatin1_aae02 0 = .ok (.getstatic 38, 3) := by decide +kernel
theorem dJ0_isLatin1_aae02_3 : decode cJ0_isLatin1_aae02 3 = .ok (.ifCond .eq 14, 3) := by decide +kernel
theorem dJ0_isLatin1_aae02_6 : decode cJ0_isLatin1_aae02 6 = .ok (.aload_n 0, 1) := by decide +kernel
theorem dJ0_isLatin1_aae02_7 : decode cJ0_isLatin1_aae02 7 = .ok (.getfield 15, 3) := by decide +kernel
theorem dJ0_isLatin1_aae02_10 : decode cJ0_isLatin1_aae02 10 = .ok (.ifCond .ne 7, 3) := by decide +kernel
theorem dJ0_isLatin1_aae02_13 : decode cJ0_isLatin1_aae02 13 = .ok (.iconst 1, 1) := by decide +kernel
theorem dJ0_isLatin1_aae02_14 : decode cJ0_isLatin1_aae02 14 = .ok (.goto 4, 3) := by decide +kernel
theorem dJ0_isLatin1_aae02_17 : decode cJ0_isLatin1_aae02 17 = .ok (.iconst 0, 1) := by decide +kernel
theorem dJ0_isLatin1_aae02_18 : decode cJ0_isLatin1_aae02 18 = .ok (.ireturn, 1) := by decide +kernel
theorem dJ0_checkIndex_df160_0 : decode cJ0_checkIndex_df160 0 = .ok (.iload_n 0, 1) := by decide +kernel
theorem dJ0_checkIndex_df160_1 : decode cJ0_checkIndex_df160 1 = .ok (.iload_n 1, 1) := by decide +kernel
theorem dJ0_checkIndex_df160_2 : decode cJ0_checkIndex_df160 2 = .ok (.getstatic 1053, 3) := by decide +kernel
theorem dJ0_checkIndex_df160_5 : decode cJ0_checkIndex_df160 5 = .ok (.invokestatic 1059, 3) := by decide +kernel
theorem dJ0_checkIndex_df160_8 : decode cJ0_checkIndex_df160 8 = .ok (.pop, 1) := by decide +kernel
theorem dJ0_checkIndex_df160_9 : decode cJ0_checkIndex_df160 9 = .ok (.return_, 1) := by decide +kernel
theorem dJ1_charAt_3b067_0 : decode cJ1_charAt_3b067 0 = .ok (.iload_n 1, 1) := by decide +kernel
theorem dJ1_charAt_3b067_1 : decode cJ1_charAt_3b067 1 = .ok (.aload_n 0, 1) := by decide +kernel
theorem dJ1_charAt_3b067_2 : decode cJ1_charAt_3b067 2 = .ok (.arraylength, 1) := by decide +kernel
theorem dJ1_charAt_3b067_3 : decode cJ1_charAt_3b067 3 = .ok (.invokestatic 9, 3) := by decide +kernel
theorem dJ1_charAt_3b067_6 : decode cJ1_charAt_3b067 6 = .ok (.aload_n 0, 1) := by decide +kernel
theorem dJ1_charAt_3b067_7 : decode cJ1_charAt_3b067 7 = .ok (.iload_n 1, 1) := by decide +kernel
theorem dJ1_charAt_3b067_8 : decode cJ1_charAt_3b067 8 = .ok (.baload, 1) := by decide +kernel
theorem dJ1_charAt_3b067_9 : decode cJ1_charAt_3b067 9 = .ok (.sipush 255, 3) := by decide +kernel
theorem dJ1_charAt_3b067_12 : decode cJ1_charAt_3b067 12 = .ok (.iand, 1) := by decide +kernel
theorem dJ1_charAt_3b067_13 : decode cJ1_charAt_3b067 13 = .ok (.i2c, 1) := by decide +kernel
theorem dJ1_charAt_3b067_14 : decode cJ1_charAt_3b067 14 = .ok (.ireturn, 1) := by decide +kernel
theorem dJ2_getChar_3b067_0 : decode cJ2_getChar_3b067 0 = .ok (.getstatic 44, 3) := by decide +kernel
theorem dJ2_getChar_3b067_3 : decode cJ2_getChar_3b067 3 = .ok (.ifCond .ne 25, 3) := by decide +kernel
theorem dJ2_getChar_3b067_6 : decode cJ2_getChar_3b067 6 = .ok (.iload_n 1, 1) := by decide +kernel
theorem dJ2_getChar_3b067_7 : decode cJ2_getChar_3b067 7 = .ok (.ifCond .lt 11, 3) := by decide +kernel
theorem dJ2_getChar_3b067_10 : decode cJ2_getChar_3b067 10 = .ok (.iload_n 1, 1) := by decide +kernel
theorem dJ2_getChar_3b067_11 : decode cJ2_getChar_3b067 11 = .ok (.aload_n 0, 1) := by decide +kernel
theorem dJ2_getChar_3b067_12 : decode cJ2_getChar_3b067 12 = .ok (.invokestatic 48, 3) := by decide +kernel
theorem dJ2_getChar_3b067_15 : decode cJ2_getChar_3b067 15 = .ok (.if_icmp .lt 13, 3) := by decide +kernel
theorem dJ2_getChar_3b067_18 : decode cJ2_getChar_3b067 18 = .ok (.new 52, 3) := by decide +kernel
theorem dJ2_getChar_3b067_21 : decode cJ2_getChar_3b067 21 = .ok (.dup, 1) := by decide +kernel
theorem dJ2_getChar_3b067_22 : decode cJ2_getChar_3b067 22 = .ok (.ldc 54, 2) := by decide +kernel
theorem dJ2_getChar_3b067_24 : decode cJ2_getChar_3b067 24 = .ok (.invokespecial 56, 3) := by decide +kernel
theorem dJ2_getChar_3b067_27 : decode cJ2_getChar_3b067 27 = .ok (.athrow, 1) := by decide +kernel
theorem dJ2_getChar_3b067_28 : decode cJ2_getChar_3b067 28 = .ok (.iload_n 1, 1) := by decide +kernel
theorem dJ2_getChar_3b067_29 : decode cJ2_getChar_3b067 29 = .ok (.iconst 1, 1) := by decide +kernel
theorem dJ2_getChar_3b067_30 : decode cJ2_getChar_3b067 30 = .ok (.ishl, 1) := by decide +kernel
theorem dJ2_getChar_3b067_31 : decode cJ2_getChar_3b067 31 = .ok (.istore_n 1, 1) := by decide +kernel
theorem dJ2_getChar_3b067_32 : decode cJ2_getChar_3b067 32 = .ok (.aload_n 0, 1) := by decide +kernel
theorem dJ2_getChar_3b067_33 : decode cJ2_getChar_3b067 33 = .ok (.iload_n 1, 1) := by decide +kernel
theorem dJ2_getChar_3b067_34 : decode cJ2_getChar_3b067 34 = .ok (.iinc 1 1, 3) := by decide +kernel
theorem dJ2_getChar_3b067_37 : decode cJ2_getChar_3b067 37 = .ok (.baload, 1) := by decide +kernel
theorem dJ2_getChar_3b067_38 : decode cJ2_getChar_3b067 38 = .ok (.sipush 255, 3) := by decide +kernel
theorem dJ2_getChar_3b067_41 : decode cJ2_getChar_3b067 41 = .ok (.iand, 1) := by decide +kernel
theorem dJ2_getChar_3b067_42 : decode cJ2_getChar_3b067 42 = .ok (.getstatic 59, 3) := by decide +kernel
theorem dJ2_getChar_3b067_45 : decode cJ2_getChar_3b067 45 = .ok (.ishl, 1) := by decide +kernel
theorem dJ2_getChar_3b067_46 : decode cJ2_getChar_3b067 46 = .ok (.aload_n 0, 1) := by decide +kernel
theorem dJ2_getChar_3b067_47 : decode cJ2_getChar_3b067 47 = .ok (.iload_n 1, 1) := by decide +kernel
theorem dJ2_getChar_3b067_48 : decode cJ2_getChar_3b067 48 = .ok (.baload, 1) := by decide +kernel
theorem dJ2_getChar_3b067_49 : decode cJ2_getChar_3b067 49 = .ok (.sipush 255, 3) := by decide +kernel
theorem dJ2_getChar_3b067_52 : decode cJ2_getChar_3b067 52 = .ok (.iand, 1) := by decide +kernel
theorem dJ2_getChar_3b067_53 : decode cJ2_getChar_3b067 53 = .ok (.getstatic 63, 3) := by decide +kernel
theorem dJ2_getChar_3b067_56 : decode cJ2_getChar_3b067 56 = .ok (.ishl, 1) := by decide +kernel
theorem dJ2_getChar_3b067_57 : decode cJ2_getChar_3b067 57 = .ok (.ior, 1) := by decide +kernel
theorem dJ2_getChar_3b067_58 : decode cJ2_getChar_3b067 58 = .ok (.i2c, 1) := by decide +kernel
theorem dJ2_getChar_3b067_59 : decode cJ2_getChar_3b067 59 = .ok (.ireturn, 1) := by decide +kernel
theorem dJ2_length_9d52b_0 : decode cJ2_length_9d52b 0 = .ok (.aload_n 0, 1) := by decide +kernel
theorem dJ2_length_9d52b_1 : decode cJ2_length_9d52b 1 = .ok (.arraylength, 1) := by decide +kernel
theorem dJ2_length_9d52b_2 : decode cJ2_length_9d52b 2 = .ok (.iconst 1, 1) := by decide +kernel
theorem dJ2_length_9d52b_3 : decode cJ2_length_9d52b 3 = .ok (.ishr, 1) := by decide +kernel
theorem dJ2_length_9d52b_4 : decode cJ2_length_9d52b 4 = .ok (.ireturn, 1) := by decide +kernel
theorem dJ2_charAt_3b067_0 : decode cJ2_charAt_3b067 0 = .ok (.iload_n 1, 1) := by decide +kernel
theorem dJ2_charAt_3b067_1 : decode cJ2_charAt_3b067 1 = .ok (.aload_n 0, 1) := by decide +kernel
theorem dJ2_charAt_3b067_2 : decode cJ2_charAt_3b067 2 = .ok (.invokestatic 67, 3) := by decide +kernel
theorem dJ2_charAt_3b067_5 : decode cJ2_charAt_3b067 5 = .ok (.aload_n 0, 1) := by decide +kernel
theorem dJ2_charAt_3b067_6 : decode cJ2_charAt_3b067 6 = .ok (.iload_n 1, 1) := by decide +kernel
theorem dJ2_charAt_3b067_7 : decode cJ2_charAt_3b067 7 = .ok (.invokestatic 71, 3) := by decide +kernel
theorem dJ2_charAt_3b067_10 : decode cJ2_charAt_3b067 10 = .ok (.ireturn, 1) := by decide +kernel
theorem dJ2_checkIndex_2214a_0 : decode cJ2_checkIndex_2214a 0 = .ok (.iload_n 0, 1) := by decide +kernel
theorem dJ2_checkIndex_2214a_1 : decode cJ2_checkIndex_2214a 1 = .ok (.aload_n 1, 1) := by decide +kernel
theorem dJ2_checkIndex_2214a_2 : decode cJ2_checkIndex_2214a 2 = .ok (.invokestatic 48, 3) := by decide +kernel
theorem dJ2_checkIndex_2214a_5 : decode cJ2_checkIndex_2214a 5 = .ok (.invokestatic 414, 3) := by decide +kernel
theorem dJ2_checkIndex_2214a_8 : decode cJ2_checkIndex_2214a 8 = .ok (.return_, 1) := by decide +kernel
theorem dJ3_checkIndex_8e157_0 : decode cJ3_checkIndex_8e157 0 = .ok (.iload_n 0, 1) := by decide +kernel
theorem dJ3_checkIndex_8e157_1 : decode cJ3_checkIndex_8e157 1 = .ok (.ifCond .lt 8, 3) := by decide +kernel
theorem dJ3_checkIndex_8e157_4 : decode cJ3_checkIndex_8e157 4 = .ok (.iload_n 0, 1) := by decide +kernel
theorem dJ3_checkIndex_8e157_5 : decode cJ3_checkIndex_8e157 5 = .ok (.iload_n 1, 1) := by decide +kernel
theorem dJ3_checkIndex_8e157_6 : decode cJ3_checkIndex_8e157 6 = .ok (.if_icmp .lt 10, 3) := by decide +kernel
theorem dJ3_checkIndex_8e157_9 : decode cJ3_checkIndex_8e157 9 = .ok (.aload_n 2, 1) := by decide +kernel
theorem dJ3_checkIndex_8e157_10 : decode cJ3_checkIndex_8e157 10 = .ok (.iload_n 0, 1) := by decide +kernel
theorem dJ3_checkIndex_8e157_11 : decode cJ3_checkIndex_8e157 11 = .ok (.iload_n 1, 1) := by decide +kernel
theorem dJ3_checkIndex_8e157_12 : decode cJ3_checkIndex_8e157 12 = .ok (.invokestatic 95, 3) := by decide +kernel
theorem dJ3_checkIndex_8e157_15 : decode cJ3_checkIndex_8e157 15 = .ok (.athrow, 1) := by decide +kernel
theorem dJ3_checkIndex_8e157_16 : decode cJ3_checkIndex_8e157 16 = .ok (.iload_n 0, 1) := by decide +kernel
theorem dJ3_checkIndex_8e157_17 : decode cJ3_checkIndex_8e157 17 = .ok (.ireturn, 1) := by decide +kernel
theorem dL_append_0 : decode cL_append 0 = .ok (.aload 6, 2) := by decide +kernel
theorem dL_append_2 : decode cL_append 2 = .ok (.iconst 0, 1) := by decide +kernel
theorem dL_append_3 : decode cL_append 3 = .ok (.aload_n 0, 1) := by decide +kernel
theorem dL_append_4 : decode cL_append 4 = .ok (.iload_n 1, 1) := by decide +kernel
theorem dL_append_5 : decode cL_append 5 = .ok (.iload_n 2, 1) := by decide +kernel
theorem dL_append_6 : decode cL_append 6 = .ok (.iload_n 3, 1) := by decide +kernel
theorem dL_append_7 : decode cL_append 7 = .ok (.iload 4, 2) := by decide +kernel
theorem dL_append_9 : decode cL_append 9 = .ok (.iload 5, 2) := by decide +kernel
theorem dL_append_11 : decode cL_append 11 = .ok (.invokevirtual 7, 3) := by decide +kernel
theorem dL_append_14 : decode cL_append 14 = .ok (.i2l, 1) := by decide +kernel
theorem dL_append_15 : decode cL_append 15 = .ok (.lastore, 1) := by decide +kernel
theorem dL_append_16 : decode cL_append 16 = .ok (.goto 7, 3) := by decide +kernel
theorem dL_append_19 : decode cL_append 19 = .ok (.astore 7, 2) := by decide +kernel
theorem dL_append_21 : decode cL_append 21 = .ok (.iconst 1, 1) := by decide +kernel
theorem dL_append_22 : decode cL_append 22 = .ok (.ireturn, 1) := by decide +kernel
theorem dL_append_23 : decode cL_append 23 = .ok (.iconst 0, 1) := by decide +kernel
theorem dL_append_24 : decode cL_append 24 = .ok (.ireturn, 1) := by decide +kernel
theorem dL_truncate_0 : decode cL_truncate 0 = .ok (.aload_n 2, 1) := by decide +kernel
theorem dL_truncate_1 : decode cL_truncate 1 = .ok (.iconst 0, 1) := by decide +kernel
theorem dL_truncate_2 : decode cL_truncate 2 = .ok (.aload_n 0, 1) := by decide +kernel
theorem dL_truncate_3 : decode cL_truncate 3 = .ok (.iload_n 1, 1) := by decide +kernel
theorem dL_truncate_4 : decode cL_truncate 4 = .ok (.invokevirtual 15, 3) := by decide +kernel
theorem dL_truncate_7 : decode cL_truncate 7 = .ok (.i2l, 1) := by decide +kernel
theorem dL_truncate_8 : decode cL_truncate 8 = .ok (.lastore, 1) := by decide +kernel
theorem dL_truncate_9 : decode cL_truncate 9 = .ok (.goto 6, 3) := by decide +kernel
theorem dL_truncate_12 : decode cL_truncate 12 = .ok (.astore_n 3, 1) := by decide +kernel
theorem dL_truncate_13 : decode cL_truncate 13 = .ok (.iconst 1, 1) := by decide +kernel
theorem dL_truncate_14 : decode cL_truncate 14 = .ok (.ireturn, 1) := by decide +kernel
theorem dL_truncate_15 : decode cL_truncate 15 = .ok (.iconst 0, 1) := by decide +kernel
theorem dL_truncate_16 : decode cL_truncate 16 = .ok (.ireturn, 1) := by decide +kernel
theorem dL_load_0 : decode cL_load 0 = .ok (.aload_n 1, 1) := by decide +kernel
theorem dL_load_1 : decode cL_load 1 = .ok (.iconst 0, 1) := by decide +kernel
theorem dL_load_2 : decode cL_load 2 = .ok (.aload_n 0, 1) := by decide +kernel
theorem dL_load_3 : decode cL_load 3 = .ok (.invokevirtual 21, 3) := by decide +kernel
theorem dL_load_6 : decode cL_load 6 = .ok (.i2l, 1) := by decide +kernel
theorem dL_load_7 : decode cL_load 7 = .ok (.lastore, 1) := by decide +kernel
theorem dL_load_8 : decode cL_load 8 = .ok (.goto 6, 3) := by decide +kernel
theorem dL_load_11 : decode cL_load 11 = .ok (.astore_n 2, 1) := by decide +kernel
theorem dL_load_12 : decode cL_load 12 = .ok (.iconst 1, 1) := by decide +kernel
theorem dL_load_13 : decode cL_load 13 = .ok (.ireturn, 1) := by decide +kernel
theorem dL_load_14 : decode cL_load 14 = .ok (.iconst 0, 1) := by decide +kernel
theorem dL_load_15 : decode cL_load 15 = .ok (.ireturn, 1) := by decide +kernel
theorem dL_executeCommands_0 : decode cL_executeCommands 0 = .ok (.aload_n 1, 1) := by decide +kernel
theorem dL_executeCommands_1 : decode cL_executeCommands 1 = .ok (.iconst 0, 1) := by decide +kernel
theorem dL_executeCommands_2 : decode cL_executeCommands 2 = .ok (.aload_n 0, 1) := by decide +kernel
theorem dL_executeCommands_3 : decode cL_executeCommands 3 = .ok (.invokevirtual 25, 3) := by decide +kernel
theorem dL_executeCommands_6 : decode cL_executeCommands 6 = .ok (.i2l, 1) := by decide +kernel
theorem dL_executeCommands_7 : decode cL_executeCommands 7 = .ok (.lastore, 1) := by decide +kernel
theorem dL_executeCommands_8 : decode cL_executeCommands 8 = .ok (.goto 6, 3) := by decide +kernel
theorem dL_executeCommands_11 : decode cL_executeCommands 11 = .ok (.astore_n 2, 1) := by decide +kernel
theorem dL_executeCommands_12 : decode cL_executeCommands 12 = .ok (.iconst 1, 1) := by decide +kernel
theorem dL_executeCommands_13 : decode cL_executeCommands 13 = .ok (.ireturn, 1) := by decide +kernel
theorem dL_executeCommands_14 : decode cL_executeCommands 14 = .ok (.iconst 0, 1) := by decide +kernel
theorem dL_executeCommands_15 : decode cL_executeCommands 15 = .ok (.ireturn, 1) := by decide +kernel
theorem dL_fogOf_0 : decode cL_fogOf 0 = .ok (.aload_n 2, 1) := by decide +kernel
theorem dL_fogOf_1 : decode cL_fogOf 1 = .ok (.iconst 0, 1) := by decide +kernel
theorem dL_fogOf_2 : decode cL_fogOf 2 = .ok (.aload_n 0, 1) := by decide +kernel
theorem dL_fogOf_3 : decode cL_fogOf 3 = .ok (.iload_n 1, 1) := by decide +kernel
theorem dL_fogOf_4 : decode cL_fogOf 4 = .ok (.invokevirtual 28, 3) := by decide +kernel
theorem dL_fogOf_7 : decode cL_fogOf 7 = .ok (.i2l, 1) := by decide +kernel
theorem dL_fogOf_8 : decode cL_fogOf 8 = .ok (.lastore, 1) := by decide +kernel
theorem dL_fogOf_9 : decode cL_fogOf 9 = .ok (.goto 6, 3) := by decide +kernel
theorem dL_fogOf_12 : decode cL_fogOf 12 = .ok (.astore_n 3, 1) := by decide +kernel
theorem dL_fogOf_13 : decode cL_fogOf 13 = .ok (.iconst 1, 1) := by decide +kernel
theorem dL_fogOf_14 : decode cL_fogOf 14 = .ok (.ireturn, 1) := by decide +kernel
theorem dL_fogOf_15 : decode cL_fogOf 15 = .ok (.iconst 0, 1) := by decide +kernel
theorem dL_fogOf_16 : decode cL_fogOf 16 = .ok (.ireturn, 1) := by decide +kernel
theorem dL_delayOf_0 : decode cL_delayOf 0 = .ok (.aload_n 2, 1) := by decide +kernel
theorem dL_delayOf_1 : decode cL_delayOf 1 = .ok (.iconst 0, 1) := by decide +kernel
theorem dL_delayOf_2 : decode cL_delayOf 2 = .ok (.aload_n 0, 1) := by decide +kernel
theorem dL_delayOf_3 : decode cL_delayOf 3 = .ok (.iload_n 1, 1) := by decide +kernel
theorem dL_delayOf_4 : decode cL_delayOf 4 = .ok (.invokevirtual 31, 3) := by decide +kernel
theorem dL_delayOf_7 : decode cL_delayOf 7 = .ok (.i2l, 1) := by decide +kernel
theorem dL_delayOf_8 : decode cL_delayOf 8 = .ok (.lastore, 1) := by decide +kernel
theorem dL_delayOf_9 : decode cL_delayOf 9 = .ok (.goto 6, 3) := by decide +kernel
theorem dL_delayOf_12 : decode cL_delayOf 12 = .ok (.astore_n 3, 1) := by decide +kernel
theorem dL_delayOf_13 : decode cL_delayOf 13 = .ok (.iconst 1, 1) := by decide +kernel
theorem dL_delayOf_14 : decode cL_delayOf 14 = .ok (.ireturn, 1) := by decide +kernel
theorem dL_delayOf_15 : decode cL_delayOf 15 = .ok (.iconst 0, 1) := by decide +kernel
theorem dL_delayOf_16 : decode cL_delayOf 16 = .ok (.ireturn, 1) := by decide +kernel
theorem dL_repeatsOf_0 : decode cL_repeatsOf 0 = .ok (.aload_n 2, 1) := by decide +kernel
theorem dL_repeatsOf_1 : decode cL_repeatsOf 1 = .ok (.iconst 0, 1) := by decide +kernel
theorem dL_repeatsOf_2 : decode cL_repeatsOf 2 = .ok (.aload_n 0, 1) := by decide +kernel
theorem dL_repeatsOf_3 : decode cL_repeatsOf 3 = .ok (.iload_n 1, 1) := by decide +kernel
theorem dL_repeatsOf_4 : decode cL_repeatsOf 4 = .ok (.invokevirtual 36, 3) := by decide +kernel
theorem dL_repeatsOf_7 : decode cL_repeatsOf 7 = .ok (.i2l, 1) := by decide +kernel
theorem dL_repeatsOf_8 : decode cL_repeatsOf 8 = .ok (.lastore, 1) := by decide +kernel
theorem dL_repeatsOf_9 : decode cL_repeatsOf 9 = .ok (.goto 6, 3) := by decide +kernel
theorem dL_repeatsOf_12 : decode cL_repeatsOf 12 = .ok (.astore_n 3, 1) := by decide +kernel
theorem dL_repeatsOf_13 : decode cL_repeatsOf 13 = .ok (.iconst 1, 1) := by decide +kernel
theorem dL_repeatsOf_14 : decode cL_repeatsOf 14 = .ok (.ireturn, 1) := by decide +kernel
theorem dL_repeatsOf_15 : decode cL_repeatsOf 15 = .ok (.iconst 0, 1) := by decide +kernel
theorem dL_repeatsOf_16 : decode cL_repeatsOf 16 = .ok (.ireturn, 1) := by decide +kernel
theorem dL_reserveWage_0 : decode cL_reserveWage 0 = .ok (.aload_n 2, 1) := by decide +kernel
theorem dL_reserveWage_1 : decode cL_reserveWage 1 = .ok (.iconst 0, 1) := by decide +kernel
theorem dL_reserveWage_2 : decode cL_reserveWage 2 = .ok (.aload_n 0, 1) := by decide +kernel
theorem dL_reserveWage_3 : decode cL_reserveWage 3 = .ok (.iload_n 1, 1) := by decide +kernel
theorem dL_reserveWage_4 : decode cL_reserveWage 4 = .ok (.invokevirtual 39, 3) := by decide +kernel
theorem dL_reserveWage_7 : decode cL_reserveWage 7 = .ok (.i2l, 1) := by decide +kernel
theorem dL_reserveWage_8 : decode cL_reserveWage 8 = .ok (.lastore, 1) := by decide +kernel
theorem dL_reserveWage_9 : decode cL_reserveWage 9 = .ok (.goto 6, 3) := by decide +kernel
theorem dL_reserveWage_12 : decode cL_reserveWage 12 = .ok (.astore_n 3, 1) := by decide +kernel
theorem dL_reserveWage_13 : decode cL_reserveWage 13 = .ok (.iconst 1, 1) := by decide +kernel
theorem dL_reserveWage_14 : decode cL_reserveWage 14 = .ok (.ireturn, 1) := by decide +kernel
theorem dL_reserveWage_15 : decode cL_reserveWage 15 = .ok (.iconst 0, 1) := by decide +kernel
theorem dL_reserveWage_16 : decode cL_reserveWage 16 = .ok (.ireturn, 1) := by decide +kernel
theorem dL_resistanceOf_0 : decode cL_resistanceOf 0 = .ok (.aload_n 2, 1) := by decide +kernel
theorem dL_resistanceOf_1 : decode cL_resistanceOf 1 = .ok (.iconst 0, 1) := by decide +kernel
theorem dL_resistanceOf_2 : decode cL_resistanceOf 2 = .ok (.aload_n 0, 1) := by decide +kernel
theorem dL_resistanceOf_3 : decode cL_resistanceOf 3 = .ok (.iload_n 1, 1) := by decide +kernel
theorem dL_resistanceOf_4 : decode cL_resistanceOf 4 = .ok (.invokevirtual 42, 3) := by decide +kernel
theorem dL_resistanceOf_7 : decode cL_resistanceOf 7 = .ok (.i2l, 1) := by decide +kernel
theorem dL_resistanceOf_8 : decode cL_resistanceOf 8 = .ok (.lastore, 1) := by decide +kernel
theorem dL_resistanceOf_9 : decode cL_resistanceOf 9 = .ok (.goto 6, 3) := by decide +kernel
theorem dL_resistanceOf_12 : decode cL_resistanceOf 12 = .ok (.astore_n 3, 1) := by decide +kernel
theorem dL_resistanceOf_13 : decode cL_resistanceOf 13 = .ok (.iconst 1, 1) := by decide +kernel
theorem dL_resistanceOf_14 : decode cL_resistanceOf 14 = .ok (.ireturn, 1) := by decide +kernel
theorem dL_resistanceOf_15 : decode cL_resistanceOf 15 = .ok (.iconst 0, 1) := by decide +kernel
theorem dL_resistanceOf_16 : decode cL_resistanceOf 16 = .ok (.ireturn, 1) := by decide +kernel
theorem dL_savingsOf_0 : decode cL_savingsOf 0 = .ok (.aload_n 2, 1) := by decide +kernel
theorem dL_savingsOf_1 : decode cL_savingsOf 1 = .ok (.iconst 0, 1) := by decide +kernel
theorem dL_savingsOf_2 : decode cL_savingsOf 2 = .ok (.aload_n 0, 1) := by decide +kernel
theorem dL_savingsOf_3 : decode cL_savingsOf 3 = .ok (.iload_n 1, 1) := by decide +kernel
theorem dL_savingsOf_4 : decode cL_savingsOf 4 = .ok (.invokevirtual 45, 3) := by decide +kernel
theorem dL_savingsOf_7 : decode cL_savingsOf 7 = .ok (.i2l, 1) := by decide +kernel
theorem dL_savingsOf_8 : decode cL_savingsOf 8 = .ok (.lastore, 1) := by decide +kernel
theorem dL_savingsOf_9 : decode cL_savingsOf 9 = .ok (.goto 6, 3) := by decide +kernel
theorem dL_savingsOf_12 : decode cL_savingsOf 12 = .ok (.astore_n 3, 1) := by decide +kernel
theorem dL_savingsOf_13 : decode cL_savingsOf 13 = .ok (.iconst 1, 1) := by decide +kernel
theorem dL_savingsOf_14 : decode cL_savingsOf 14 = .ok (.ireturn, 1) := by decide +kernel
theorem dL_savingsOf_15 : decode cL_savingsOf 15 = .ok (.iconst 0, 1) := by decide +kernel
theorem dL_savingsOf_16 : decode cL_savingsOf 16 = .ok (.ireturn, 1) := by decide +kernel
theorem dL_unpaidDays_0 : decode cL_unpaidDays 0 = .ok (.aload_n 2, 1) := by decide +kernel
theorem dL_unpaidDays_1 : decode cL_unpaidDays 1 = .ok (.iconst 0, 1) := by decide +kernel
theorem dL_unpaidDays_2 : decode cL_unpaidDays 2 = .ok (.aload_n 0, 1) := by decide +kernel
theorem dL_unpaidDays_3 : decode cL_unpaidDays 3 = .ok (.iload_n 1, 1) := by decide +kernel
theorem dL_unpaidDays_4 : decode cL_unpaidDays 4 = .ok (.invokevirtual 48, 3) := by decide +kernel
theorem dL_unpaidDays_7 : decode cL_unpaidDays 7 = .ok (.i2l, 1) := by decide +kernel
theorem dL_unpaidDays_8 : decode cL_unpaidDays 8 = .ok (.lastore, 1) := by decide +kernel
theorem dL_unpaidDays_9 : decode cL_unpaidDays 9 = .ok (.goto 6, 3) := by decide +kernel
theorem dL_unpaidDays_12 : decode cL_unpaidDays 12 = .ok (.astore_n 3, 1) := by decide +kernel
theorem dL_unpaidDays_13 : decode cL_unpaidDays 13 = .ok (.iconst 1, 1) := by decide +kernel
theorem dL_unpaidDays_14 : decode cL_unpaidDays 14 = .ok (.ireturn, 1) := by decide +kernel
theorem dL_unpaidDays_15 : decode cL_unpaidDays 15 = .ok (.iconst 0, 1) := by decide +kernel
theorem dL_unpaidDays_16 : decode cL_unpaidDays 16 = .ok (.ireturn, 1) := by decide +kernel
theorem dL_employerOf_0 : decode cL_employerOf 0 = .ok (.aload_n 2, 1) := by decide +kernel
theorem dL_employerOf_1 : decode cL_employerOf 1 = .ok (.iconst 0, 1) := by decide +kernel
theorem dL_employerOf_2 : decode cL_employerOf 2 = .ok (.aload_n 0, 1) := by decide +kernel
theorem dL_employerOf_3 : decode cL_employerOf 3 = .ok (.iload_n 1, 1) := by decide +kernel
theorem dL_employerOf_4 : decode cL_employerOf 4 = .ok (.invokevirtual 51, 3) := by decide +kernel
theorem dL_employerOf_7 : decode cL_employerOf 7 = .ok (.i2l, 1) := by decide +kernel
theorem dL_employerOf_8 : decode cL_employerOf 8 = .ok (.lastore, 1) := by decide +kernel
theorem dL_employerOf_9 : decode cL_employerOf 9 = .ok (.goto 6, 3) := by decide +kernel
theorem dL_employerOf_12 : decode cL_employerOf 12 = .ok (.astore_n 3, 1) := by decide +kernel
theorem dL_employerOf_13 : decode cL_employerOf 13 = .ok (.iconst 1, 1) := by decide +kernel
theorem dL_employerOf_14 : decode cL_employerOf 14 = .ok (.ireturn, 1) := by decide +kernel
theorem dL_employerOf_15 : decode cL_employerOf 15 = .ok (.iconst 0, 1) := by decide +kernel
theorem dL_employerOf_16 : decode cL_employerOf 16 = .ok (.ireturn, 1) := by decide +kernel
theorem dL_widthOf_0 : decode cL_widthOf 0 = .ok (.aload_n 2, 1) := by decide +kernel
theorem dL_widthOf_1 : decode cL_widthOf 1 = .ok (.iconst 0, 1) := by decide +kernel
theorem dL_widthOf_2 : decode cL_widthOf 2 = .ok (.aload_n 0, 1) := by decide +kernel
theorem dL_widthOf_3 : decode cL_widthOf 3 = .ok (.iload_n 1, 1) := by decide +kernel
theorem dL_widthOf_4 : decode cL_widthOf 4 = .ok (.invokevirtual 54, 3) := by decide +kernel
theorem dL_widthOf_7 : decode cL_widthOf 7 = .ok (.i2l, 1) := by decide +kernel
theorem dL_widthOf_8 : decode cL_widthOf 8 = .ok (.lastore, 1) := by decide +kernel
theorem dL_widthOf_9 : decode cL_widthOf 9 = .ok (.goto 6, 3) := by decide +kernel
theorem dL_widthOf_12 : decode cL_widthOf 12 = .ok (.astore_n 3, 1) := by decide +kernel
theorem dL_widthOf_13 : decode cL_widthOf 13 = .ok (.iconst 1, 1) := by decide +kernel
theorem dL_widthOf_14 : decode cL_widthOf 14 = .ok (.ireturn, 1) := by decide +kernel
theorem dL_widthOf_15 : decode cL_widthOf 15 = .ok (.iconst 0, 1) := by decide +kernel
theorem dL_widthOf_16 : decode cL_widthOf 16 = .ok (.ireturn, 1) := by decide +kernel
theorem dL_postsOf_0 : decode cL_postsOf 0 = .ok (.aload_n 2, 1) := by decide +kernel
theorem dL_postsOf_1 : decode cL_postsOf 1 = .ok (.iconst 0, 1) := by decide +kernel
theorem dL_postsOf_2 : decode cL_postsOf 2 = .ok (.aload_n 0, 1) := by decide +kernel
theorem dL_postsOf_3 : decode cL_postsOf 3 = .ok (.iload_n 1, 1) := by decide +kernel
theorem dL_postsOf_4 : decode cL_postsOf 4 = .ok (.invokevirtual 57, 3) := by decide +kernel
theorem dL_postsOf_7 : decode cL_postsOf 7 = .ok (.i2l, 1) := by decide +kernel
theorem dL_postsOf_8 : decode cL_postsOf 8 = .ok (.lastore, 1) := by decide +kernel
theorem dL_postsOf_9 : decode cL_postsOf 9 = .ok (.goto 6, 3) := by decide +kernel
theorem dL_postsOf_12 : decode cL_postsOf 12 = .ok (.astore_n 3, 1) := by decide +kernel
theorem dL_postsOf_13 : decode cL_postsOf 13 = .ok (.iconst 1, 1) := by decide +kernel
theorem dL_postsOf_14 : decode cL_postsOf 14 = .ok (.ireturn, 1) := by decide +kernel
theorem dL_postsOf_15 : decode cL_postsOf 15 = .ok (.iconst 0, 1) := by decide +kernel
theorem dL_postsOf_16 : decode cL_postsOf 16 = .ok (.ireturn, 1) := by decide +kernel
theorem dL_wageOf_0 : decode cL_wageOf 0 = .ok (.aload_n 2, 1) := by decide +kernel
theorem dL_wageOf_1 : decode cL_wageOf 1 = .ok (.iconst 0, 1) := by decide +kernel
theorem dL_wageOf_2 : decode cL_wageOf 2 = .ok (.aload_n 0, 1) := by decide +kernel
theorem dL_wageOf_3 : decode cL_wageOf 3 = .ok (.iload_n 1, 1) := by decide +kernel
theorem dL_wageOf_4 : decode cL_wageOf 4 = .ok (.invokevirtual 60, 3) := by decide +kernel
theorem dL_wageOf_7 : decode cL_wageOf 7 = .ok (.i2l, 1) := by decide +kernel
theorem dL_wageOf_8 : decode cL_wageOf 8 = .ok (.lastore, 1) := by decide +kernel
theorem dL_wageOf_9 : decode cL_wageOf 9 = .ok (.goto 6, 3) := by decide +kernel
theorem dL_wageOf_12 : decode cL_wageOf 12 = .ok (.astore_n 3, 1) := by decide +kernel
theorem dL_wageOf_13 : decode cL_wageOf 13 = .ok (.iconst 1, 1) := by decide +kernel
theorem dL_wageOf_14 : decode cL_wageOf 14 = .ok (.ireturn, 1) := by decide +kernel
theorem dL_wageOf_15 : decode cL_wageOf 15 = .ok (.iconst 0, 1) := by decide +kernel
theorem dL_wageOf_16 : decode cL_wageOf 16 = .ok (.ireturn, 1) := by decide +kernel
theorem dL_purseOf_0 : decode cL_purseOf 0 = .ok (.aload_n 2, 1) := by decide +kernel
theorem dL_purseOf_1 : decode cL_purseOf 1 = .ok (.iconst 0, 1) := by decide +kernel
theorem dL_purseOf_2 : decode cL_purseOf 2 = .ok (.aload_n 0, 1) := by decide +kernel
theorem dL_purseOf_3 : decode cL_purseOf 3 = .ok (.iload_n 1, 1) := by decide +kernel
theorem dL_purseOf_4 : decode cL_purseOf 4 = .ok (.invokevirtual 63, 3) := by decide +kernel
theorem dL_purseOf_7 : decode cL_purseOf 7 = .ok (.i2l, 1) := by decide +kernel
theorem dL_purseOf_8 : decode cL_purseOf 8 = .ok (.lastore, 1) := by decide +kernel
theorem dL_purseOf_9 : decode cL_purseOf 9 = .ok (.goto 6, 3) := by decide +kernel
theorem dL_purseOf_12 : decode cL_purseOf 12 = .ok (.astore_n 3, 1) := by decide +kernel
theorem dL_purseOf_13 : decode cL_purseOf 13 = .ok (.iconst 1, 1) := by decide +kernel
theorem dL_purseOf_14 : decode cL_purseOf 14 = .ok (.ireturn, 1) := by decide +kernel
theorem dL_purseOf_15 : decode cL_purseOf 15 = .ok (.iconst 0, 1) := by decide +kernel
theorem dL_purseOf_16 : decode cL_purseOf 16 = .ok (.ireturn, 1) := by decide +kernel
theorem dL_staffCount_0 : decode cL_staffCount 0 = .ok (.aload_n 2, 1) := by decide +kernel
theorem dL_staffCount_1 : decode cL_staffCount 1 = .ok (.iconst 0, 1) := by decide +kernel
theorem dL_staffCount_2 : decode cL_staffCount 2 = .ok (.aload_n 0, 1) := by decide +kernel
theorem dL_staffCount_3 : decode cL_staffCount 3 = .ok (.iload_n 1, 1) := by decide +kernel
theorem dL_staffCount_4 : decode cL_staffCount 4 = .ok (.invokevirtual 66, 3) := by decide +kernel
theorem dL_staffCount_7 : decode cL_staffCount 7 = .ok (.i2l, 1) := by decide +kernel
theorem dL_staffCount_8 : decode cL_staffCount 8 = .ok (.lastore, 1) := by decide +kernel
theorem dL_staffCount_9 : decode cL_staffCount 9 = .ok (.goto 6, 3) := by decide +kernel
theorem dL_staffCount_12 : decode cL_staffCount 12 = .ok (.astore_n 3, 1) := by decide +kernel
theorem dL_staffCount_13 : decode cL_staffCount 13 = .ok (.iconst 1, 1) := by decide +kernel
theorem dL_staffCount_14 : decode cL_staffCount 14 = .ok (.ireturn, 1) := by decide +kernel
theorem dL_staffCount_15 : decode cL_staffCount 15 = .ok (.iconst 0, 1) := by decide +kernel
theorem dL_staffCount_16 : decode cL_staffCount 16 = .ok (.ireturn, 1) := by decide +kernel
theorem dL_staffMember_0 : decode cL_staffMember 0 = .ok (.aload_n 3, 1) := by decide +kernel
theorem dL_staffMember_1 : decode cL_staffMember 1 = .ok (.iconst 0, 1) := by decide +kernel
theorem dL_staffMember_2 : decode cL_staffMember 2 = .ok (.aload_n 0, 1) := by decide +kernel
theorem dL_staffMember_3 : decode cL_staffMember 3 = .ok (.iload_n 1, 1) := by decide +kernel
theorem dL_staffMember_4 : decode cL_staffMember 4 = .ok (.iload_n 2, 1) := by decide +kernel
theorem dL_staffMember_5 : decode cL_staffMember 5 = .ok (.invokevirtual 69, 3) := by decide +kernel
theorem dL_staffMember_8 : decode cL_staffMember 8 = .ok (.i2l, 1) := by decide +kernel
theorem dL_staffMember_9 : decode cL_staffMember 9 = .ok (.lastore, 1) := by decide +kernel
theorem dL_staffMember_10 : decode cL_staffMember 10 = .ok (.goto 7, 3) := by decide +kernel
theorem dL_staffMember_13 : decode cL_staffMember 13 = .ok (.astore 4, 2) := by decide +kernel
theorem dL_staffMember_15 : decode cL_staffMember 15 = .ok (.iconst 1, 1) := by decide +kernel
theorem dL_staffMember_16 : decode cL_staffMember 16 = .ok (.ireturn, 1) := by decide +kernel
theorem dL_staffMember_17 : decode cL_staffMember 17 = .ok (.iconst 0, 1) := by decide +kernel
theorem dL_staffMember_18 : decode cL_staffMember 18 = .ok (.ireturn, 1) := by decide +kernel
theorem dL_isTested_0 : decode cL_isTested 0 = .ok (.aload_n 3, 1) := by decide +kernel
theorem dL_isTested_1 : decode cL_isTested 1 = .ok (.iconst 0, 1) := by decide +kernel
theorem dL_isTested_2 : decode cL_isTested 2 = .ok (.aload_n 0, 1) := by decide +kernel
theorem dL_isTested_3 : decode cL_isTested 3 = .ok (.iload_n 1, 1) := by decide +kernel
theorem dL_isTested_4 : decode cL_isTested 4 = .ok (.iload_n 2, 1) := by decide +kernel
theorem dL_isTested_5 : decode cL_isTested 5 = .ok (.invokevirtual 73, 3) := by decide +kernel
theorem dL_isTested_8 : decode cL_isTested 8 = .ok (.ifCond .eq 7, 3) := by decide +kernel
theorem dL_isTested_11 : decode cL_isTested 11 = .ok (.lconst 1, 1) := by decide +kernel
theorem dL_isTested_12 : decode cL_isTested 12 = .ok (.goto 4, 3) := by decide +kernel
theorem dL_isTested_15 : decode cL_isTested 15 = .ok (.lconst 0, 1) := by decide +kernel
theorem dL_isTested_16 : decode cL_isTested 16 = .ok (.lastore, 1) := by decide +kernel
theorem dL_isTested_17 : decode cL_isTested 17 = .ok (.goto 7, 3) := by decide +kernel
theorem dL_isTested_20 : decode cL_isTested 20 = .ok (.astore 4, 2) := by decide +kernel
theorem dL_isTested_22 : decode cL_isTested 22 = .ok (.iconst 1, 1) := by decide +kernel
theorem dL_isTested_23 : decode cL_isTested 23 = .ok (.ireturn, 1) := by decide +kernel
theorem dL_isTested_24 : decode cL_isTested 24 = .ok (.iconst 0, 1) := by decide +kernel
theorem dL_isTested_25 : decode cL_isTested 25 = .ok (.ireturn, 1) := by decide +kernel
theorem dL_seenScore_0 : decode cL_seenScore 0 = .ok (.aload_n 3, 1) := by decide +kernel
theorem dL_seenScore_1 : decode cL_seenScore 1 = .ok (.iconst 0, 1) := by decide +kernel
theorem dL_seenScore_2 : decode cL_seenScore 2 = .ok (.aload_n 0, 1) := by decide +kernel
theorem dL_seenScore_3 : decode cL_seenScore 3 = .ok (.iload_n 1, 1) := by decide +kernel
theorem dL_seenScore_4 : decode cL_seenScore 4 = .ok (.iload_n 2, 1) := by decide +kernel
theorem dL_seenScore_5 : decode cL_seenScore 5 = .ok (.invokevirtual 77, 3) := by decide +kernel
theorem dL_seenScore_8 : decode cL_seenScore 8 = .ok (.i2l, 1) := by decide +kernel
theorem dL_seenScore_9 : decode cL_seenScore 9 = .ok (.lastore, 1) := by decide +kernel
theorem dL_seenScore_10 : decode cL_seenScore 10 = .ok (.goto 7, 3) := by decide +kernel
theorem dL_seenScore_13 : decode cL_seenScore 13 = .ok (.astore 4, 2) := by decide +kernel
theorem dL_seenScore_15 : decode cL_seenScore 15 = .ok (.iconst 1, 1) := by decide +kernel
theorem dL_seenScore_16 : decode cL_seenScore 16 = .ok (.ireturn, 1) := by decide +kernel
theorem dL_seenScore_17 : decode cL_seenScore 17 = .ok (.iconst 0, 1) := by decide +kernel
theorem dL_seenScore_18 : decode cL_seenScore 18 = .ok (.ireturn, 1) := by decide +kernel
theorem dL_pairReason_0 : decode cL_pairReason 0 = .ok (.aload_n 3, 1) := by decide +kernel
theorem dL_pairReason_1 : decode cL_pairReason 1 = .ok (.iconst 0, 1) := by decide +kernel
theorem dL_pairReason_2 : decode cL_pairReason 2 = .ok (.aload_n 0, 1) := by decide +kernel
theorem dL_pairReason_3 : decode cL_pairReason 3 = .ok (.iload_n 1, 1) := by decide +kernel
theorem dL_pairReason_4 : decode cL_pairReason 4 = .ok (.iload_n 2, 1) := by decide +kernel
theorem dL_pairReason_5 : decode cL_pairReason 5 = .ok (.invokevirtual 80, 3) := by decide +kernel
theorem dL_pairReason_8 : decode cL_pairReason 8 = .ok (.i2l, 1) := by decide +kernel
theorem dL_pairReason_9 : decode cL_pairReason 9 = .ok (.lastore, 1) := by decide +kernel
theorem dL_pairReason_10 : decode cL_pairReason 10 = .ok (.goto 7, 3) := by decide +kernel
theorem dL_pairReason_13 : decode cL_pairReason 13 = .ok (.astore 4, 2) := by decide +kernel
theorem dL_pairReason_15 : decode cL_pairReason 15 = .ok (.iconst 1, 1) := by decide +kernel
theorem dL_pairReason_16 : decode cL_pairReason 16 = .ok (.ireturn, 1) := by decide +kernel
theorem dL_pairReason_17 : decode cL_pairReason 17 = .ok (.iconst 0, 1) := by decide +kernel
theorem dL_pairReason_18 : decode cL_pairReason 18 = .ok (.ireturn, 1) := by decide +kernel
theorem dL_preferredValley_0 : decode cL_preferredValley 0 = .ok (.aload_n 3, 1) := by decide +kernel
theorem dL_preferredValley_1 : decode cL_preferredValley 1 = .ok (.iconst 0, 1) := by decide +kernel
theorem dL_preferredValley_2 : decode cL_preferredValley 2 = .ok (.aload_n 0, 1) := by decide +kernel
theorem dL_preferredValley_3 : decode cL_preferredValley 3 = .ok (.iload_n 1, 1) := by decide +kernel
theorem dL_preferredValley_4 : decode cL_preferredValley 4 = .ok (.iload_n 2, 1) := by decide +kernel
theorem dL_preferredValley_5 : decode cL_preferredValley 5 = .ok (.invokevirtual 83, 3) := by decide +kernel
theorem dL_preferredValley_8 : decode cL_preferredValley 8 = .ok (.i2l, 1) := by decide +kernel
theorem dL_preferredValley_9 : decode cL_preferredValley 9 = .ok (.lastore, 1) := by decide +kernel
theorem dL_preferredValley_10 : decode cL_preferredValley 10 = .ok (.goto 7, 3) := by decide +kernel
theorem dL_preferredValley_13 : decode cL_preferredValley 13 = .ok (.astore 4, 2) := by decide +kernel
theorem dL_preferredValley_15 : decode cL_preferredValley 15 = .ok (.iconst 1, 1) := by decide +kernel
theorem dL_preferredValley_16 : decode cL_preferredValley 16 = .ok (.ireturn, 1) := by decide +kernel
theorem dL_preferredValley_17 : decode cL_preferredValley 17 = .ok (.iconst 0, 1) := by decide +kernel
theorem dL_preferredValley_18 : decode cL_preferredValley 18 = .ok (.ireturn, 1) := by decide +kernel
theorem dL_preferredEcho_0 : decode cL_preferredEcho 0 = .ok (.aload_n 3, 1) := by decide +kernel
theorem dL_preferredEcho_1 : decode cL_preferredEcho 1 = .ok (.iconst 0, 1) := by decide +kernel
theorem dL_preferredEcho_2 : decode cL_preferredEcho 2 = .ok (.aload_n 0, 1) := by decide +kernel
theorem dL_preferredEcho_3 : decode cL_preferredEcho 3 = .ok (.iload_n 1, 1) := by decide +kernel
theorem dL_preferredEcho_4 : decode cL_preferredEcho 4 = .ok (.iload_n 2, 1) := by decide +kernel
theorem dL_preferredEcho_5 : decode cL_preferredEcho 5 = .ok (.invokevirtual 86, 3) := by decide +kernel
theorem dL_preferredEcho_8 : decode cL_preferredEcho 8 = .ok (.i2l, 1) := by decide +kernel
theorem dL_preferredEcho_9 : decode cL_preferredEcho 9 = .ok (.lastore, 1) := by decide +kernel
theorem dL_preferredEcho_10 : decode cL_preferredEcho 10 = .ok (.goto 7, 3) := by decide +kernel
theorem dL_preferredEcho_13 : decode cL_preferredEcho 13 = .ok (.astore 4, 2) := by decide +kernel
theorem dL_preferredEcho_15 : decode cL_preferredEcho 15 = .ok (.iconst 1, 1) := by decide +kernel
theorem dL_preferredEcho_16 : decode cL_preferredEcho 16 = .ok (.ireturn, 1) := by decide +kernel
theorem dL_preferredEcho_17 : decode cL_preferredEcho 17 = .ok (.iconst 0, 1) := by decide +kernel
theorem dL_preferredEcho_18 : decode cL_preferredEcho 18 = .ok (.ireturn, 1) := by decide +kernel
theorem dL_fairResult_0 : decode cL_fairResult 0 = .ok (.aload_n 2, 1) := by decide +kernel
theorem dL_fairResult_1 : decode cL_fairResult 1 = .ok (.iconst 0, 1) := by decide +kernel
theorem dL_fairResult_2 : decode cL_fairResult 2 = .ok (.aload_n 0, 1) := by decide +kernel
theorem dL_fairResult_3 : decode cL_fairResult 3 = .ok (.iload_n 1, 1) := by decide +kernel
theorem dL_fairResult_4 : decode cL_fairResult 4 = .ok (.invokevirtual 89, 3) := by decide +kernel
theorem dL_fairResult_7 : decode cL_fairResult 7 = .ok (.i2l, 1) := by decide +kernel
theorem dL_fairResult_8 : decode cL_fairResult 8 = .ok (.lastore, 1) := by decide +kernel
theorem dL_fairResult_9 : decode cL_fairResult 9 = .ok (.goto 6, 3) := by decide +kernel
theorem dL_fairResult_12 : decode cL_fairResult 12 = .ok (.astore_n 3, 1) := by decide +kernel
theorem dL_fairResult_13 : decode cL_fairResult 13 = .ok (.iconst 1, 1) := by decide +kernel
theorem dL_fairResult_14 : decode cL_fairResult 14 = .ok (.ireturn, 1) := by decide +kernel
theorem dL_fairResult_15 : decode cL_fairResult 15 = .ok (.iconst 0, 1) := by decide +kernel
theorem dL_fairResult_16 : decode cL_fairResult 16 = .ok (.ireturn, 1) := by decide +kernel
theorem dL_savingsAfter_0 : decode cL_savingsAfter 0 = .ok (.aload_n 3, 1) := by decide +kernel
theorem dL_savingsAfter_1 : decode cL_savingsAfter 1 = .ok (.iconst 0, 1) := by decide +kernel
theorem dL_savingsAfter_2 : decode cL_savingsAfter 2 = .ok (.aload_n 0, 1) := by decide +kernel
theorem dL_savingsAfter_3 : decode cL_savingsAfter 3 = .ok (.iload_n 1, 1) := by decide +kernel
theorem dL_savingsAfter_4 : decode cL_savingsAfter 4 = .ok (.iload_n 2, 1) := by decide +kernel
theorem dL_savingsAfter_5 : decode cL_savingsAfter 5 = .ok (.invokevirtual 92, 3) := by decide +kernel
theorem dL_savingsAfter_8 : decode cL_savingsAfter 8 = .ok (.i2l, 1) := by decide +kernel
theorem dL_savingsAfter_9 : decode cL_savingsAfter 9 = .ok (.lastore, 1) := by decide +kernel
theorem dL_savingsAfter_10 : decode cL_savingsAfter 10 = .ok (.goto 11, 3) := by decide +kernel
theorem dL_savingsAfter_13 : decode cL_savingsAfter 13 = .ok (.astore 4, 2) := by decide +kernel
theorem dL_savingsAfter_15 : decode cL_savingsAfter 15 = .ok (.iconst 1, 1) := by decide +kernel
theorem dL_savingsAfter_16 : decode cL_savingsAfter 16 = .ok (.ireturn, 1) := by decide +kernel
theorem dL_savingsAfter_17 : decode cL_savingsAfter 17 = .ok (.astore 4, 2) := by decide +kernel
theorem dL_savingsAfter_19 : decode cL_savingsAfter 19 = .ok (.iconst 2, 1) := by decide +kernel
theorem dL_savingsAfter_20 : decode cL_savingsAfter 20 = .ok (.ireturn, 1) := by decide +kernel
theorem dL_savingsAfter_21 : decode cL_savingsAfter 21 = .ok (.iconst 0, 1) := by decide +kernel
theorem dL_savingsAfter_22 : decode cL_savingsAfter 22 = .ok (.ireturn, 1) := by decide +kernel
theorem dL_purseAfter_0 : decode cL_purseAfter 0 = .ok (.aload_n 3, 1) := by decide +kernel
theorem dL_purseAfter_1 : decode cL_purseAfter 1 = .ok (.iconst 0, 1) := by decide +kernel
theorem dL_purseAfter_2 : decode cL_purseAfter 2 = .ok (.aload_n 0, 1) := by decide +kernel
theorem dL_purseAfter_3 : decode cL_purseAfter 3 = .ok (.iload_n 1, 1) := by decide +kernel
theorem dL_purseAfter_4 : decode cL_purseAfter 4 = .ok (.iload_n 2, 1) := by decide +kernel
theorem dL_purseAfter_5 : decode cL_purseAfter 5 = .ok (.invokevirtual 95, 3) := by decide +kernel
theorem dL_purseAfter_8 : decode cL_purseAfter 8 = .ok (.i2l, 1) := by decide +kernel
theorem dL_purseAfter_9 : decode cL_purseAfter 9 = .ok (.lastore, 1) := by decide +kernel
theorem dL_purseAfter_10 : decode cL_purseAfter 10 = .ok (.goto 11, 3) := by decide +kernel
theorem dL_purseAfter_13 : decode cL_purseAfter 13 = .ok (.astore 4, 2) := by decide +kernel
theorem dL_purseAfter_15 : decode cL_purseAfter 15 = .ok (.iconst 1, 1) := by decide +kernel
theorem dL_purseAfter_16 : decode cL_purseAfter 16 = .ok (.ireturn, 1) := by decide +kernel
theorem dL_purseAfter_17 : decode cL_purseAfter 17 = .ok (.astore 4, 2) := by decide +kernel
theorem dL_purseAfter_19 : decode cL_purseAfter 19 = .ok (.iconst 2, 1) := by decide +kernel
theorem dL_purseAfter_20 : decode cL_purseAfter 20 = .ok (.ireturn, 1) := by decide +kernel
theorem dL_purseAfter_21 : decode cL_purseAfter 21 = .ok (.iconst 0, 1) := by decide +kernel
theorem dL_purseAfter_22 : decode cL_purseAfter 22 = .ok (.ireturn, 1) := by decide +kernel
theorem dL_desertsIn_0 : decode cL_desertsIn 0 = .ok (.aload_n 2, 1) := by decide +kernel
theorem dL_desertsIn_1 : decode cL_desertsIn 1 = .ok (.iconst 0, 1) := by decide +kernel
theorem dL_desertsIn_2 : decode cL_desertsIn 2 = .ok (.aload_n 0, 1) := by decide +kernel
theorem dL_desertsIn_3 : decode cL_desertsIn 3 = .ok (.iload_n 1, 1) := by decide +kernel
theorem dL_desertsIn_4 : decode cL_desertsIn 4 = .ok (.invokevirtual 98, 3) := by decide +kernel
theorem dL_desertsIn_7 : decode cL_desertsIn 7 = .ok (.i2l, 1) := by decide +kernel
theorem dL_desertsIn_8 : decode cL_desertsIn 8 = .ok (.lastore, 1) := by decide +kernel
theorem dL_desertsIn_9 : decode cL_desertsIn 9 = .ok (.goto 6, 3) := by decide +kernel
theorem dL_desertsIn_12 : decode cL_desertsIn 12 = .ok (.astore_n 3, 1) := by decide +kernel
theorem dL_desertsIn_13 : decode cL_desertsIn 13 = .ok (.iconst 1, 1) := by decide +kernel
theorem dL_desertsIn_14 : decode cL_desertsIn 14 = .ok (.ireturn, 1) := by decide +kernel
theorem dL_desertsIn_15 : decode cL_desertsIn 15 = .ok (.iconst 0, 1) := by decide +kernel
theorem dL_desertsIn_16 : decode cL_desertsIn 16 = .ok (.ireturn, 1) := by decide +kernel
theorem dL_leastWage_0 : decode cL_leastWage 0 = .ok (.aload_n 3, 1) := by decide +kernel
theorem dL_leastWage_1 : decode cL_leastWage 1 = .ok (.iconst 0, 1) := by decide +kernel
theorem dL_leastWage_2 : decode cL_leastWage 2 = .ok (.aload_n 0, 1) := by decide +kernel
theorem dL_leastWage_3 : decode cL_leastWage 3 = .ok (.iload_n 1, 1) := by decide +kernel
theorem dL_leastWage_4 : decode cL_leastWage 4 = .ok (.iload_n 2, 1) := by decide +kernel
theorem dL_leastWage_5 : decode cL_leastWage 5 = .ok (.invokevirtual 101, 3) := by decide +kernel
theorem dL_leastWage_8 : decode cL_leastWage 8 = .ok (.i2l, 1) := by decide +kernel
theorem dL_leastWage_9 : decode cL_leastWage 9 = .ok (.lastore, 1) := by decide +kernel
theorem dL_leastWage_10 : decode cL_leastWage 10 = .ok (.goto 7, 3) := by decide +kernel
theorem dL_leastWage_13 : decode cL_leastWage 13 = .ok (.astore 4, 2) := by decide +kernel
theorem dL_leastWage_15 : decode cL_leastWage 15 = .ok (.iconst 1, 1) := by decide +kernel
theorem dL_leastWage_16 : decode cL_leastWage 16 = .ok (.ireturn, 1) := by decide +kernel
theorem dL_leastWage_17 : decode cL_leastWage 17 = .ok (.iconst 0, 1) := by decide +kernel
theorem dL_leastWage_18 : decode cL_leastWage 18 = .ok (.ireturn, 1) := by decide +kernel
theorem dL_bestTest_0 : decode cL_bestTest 0 = .ok (.aload_n 2, 1) := by decide +kernel
theorem dL_bestTest_1 : decode cL_bestTest 1 = .ok (.iconst 0, 1) := by decide +kernel
theorem dL_bestTest_2 : decode cL_bestTest 2 = .ok (.aload_n 0, 1) := by decide +kernel
theorem dL_bestTest_3 : decode cL_bestTest 3 = .ok (.iload_n 1, 1) := by decide +kernel
theorem dL_bestTest_4 : decode cL_bestTest 4 = .ok (.invokevirtual 104, 3) := by decide +kernel
theorem dL_bestTest_7 : decode cL_bestTest 7 = .ok (.i2l, 1) := by decide +kernel
theorem dL_bestTest_8 : decode cL_bestTest 8 = .ok (.lastore, 1) := by decide +kernel
theorem dL_bestTest_9 : decode cL_bestTest 9 = .ok (.goto 6, 3) := by decide +kernel
theorem dL_bestTest_12 : decode cL_bestTest 12 = .ok (.astore_n 3, 1) := by decide +kernel
theorem dL_bestTest_13 : decode cL_bestTest 13 = .ok (.iconst 1, 1) := by decide +kernel
theorem dL_bestTest_14 : decode cL_bestTest 14 = .ok (.ireturn, 1) := by decide +kernel
theorem dL_bestTest_15 : decode cL_bestTest 15 = .ok (.iconst 0, 1) := by decide +kernel
theorem dL_bestTest_16 : decode cL_bestTest 16 = .ok (.ireturn, 1) := by decide +kernel
theorem dL_daysServed_0 : decode cL_daysServed 0 = .ok (.aload_n 3, 1) := by decide +kernel
theorem dL_daysServed_1 : decode cL_daysServed 1 = .ok (.iconst 0, 1) := by decide +kernel
theorem dL_daysServed_2 : decode cL_daysServed 2 = .ok (.aload_n 0, 1) := by decide +kernel
theorem dL_daysServed_3 : decode cL_daysServed 3 = .ok (.iload_n 1, 1) := by decide +kernel
theorem dL_daysServed_4 : decode cL_daysServed 4 = .ok (.iload_n 2, 1) := by decide +kernel
theorem dL_daysServed_5 : decode cL_daysServed 5 = .ok (.invokevirtual 107, 3) := by decide +kernel
theorem dL_daysServed_8 : decode cL_daysServed 8 = .ok (.i2l, 1) := by decide +kernel
theorem dL_daysServed_9 : decode cL_daysServed 9 = .ok (.lastore, 1) := by decide +kernel
theorem dL_daysServed_10 : decode cL_daysServed 10 = .ok (.goto 7, 3) := by decide +kernel
theorem dL_daysServed_13 : decode cL_daysServed 13 = .ok (.astore 4, 2) := by decide +kernel
theorem dL_daysServed_15 : decode cL_daysServed 15 = .ok (.iconst 1, 1) := by decide +kernel
theorem dL_daysServed_16 : decode cL_daysServed 16 = .ok (.ireturn, 1) := by decide +kernel
theorem dL_daysServed_17 : decode cL_daysServed 17 = .ok (.iconst 0, 1) := by decide +kernel
theorem dL_daysServed_18 : decode cL_daysServed 18 = .ok (.ireturn, 1) := by decide +kernel
theorem dL_desertions_0 : decode cL_desertions 0 = .ok (.aload_n 2, 1) := by decide +kernel
theorem dL_desertions_1 : decode cL_desertions 1 = .ok (.iconst 0, 1) := by decide +kernel
theorem dL_desertions_2 : decode cL_desertions 2 = .ok (.aload_n 0, 1) := by decide +kernel
theorem dL_desertions_3 : decode cL_desertions 3 = .ok (.iload_n 1, 1) := by decide +kernel
theorem dL_desertions_4 : decode cL_desertions 4 = .ok (.invokevirtual 110, 3) := by decide +kernel
theorem dL_desertions_7 : decode cL_desertions 7 = .ok (.i2l, 1) := by decide +kernel
theorem dL_desertions_8 : decode cL_desertions 8 = .ok (.lastore, 1) := by decide +kernel
theorem dL_desertions_9 : decode cL_desertions 9 = .ok (.goto 6, 3) := by decide +kernel
theorem dL_desertions_12 : decode cL_desertions 12 = .ok (.astore_n 3, 1) := by decide +kernel
theorem dL_desertions_13 : decode cL_desertions 13 = .ok (.iconst 1, 1) := by decide +kernel
theorem dL_desertions_14 : decode cL_desertions 14 = .ok (.ireturn, 1) := by decide +kernel
theorem dL_desertions_15 : decode cL_desertions 15 = .ok (.iconst 0, 1) := by decide +kernel
theorem dL_desertions_16 : decode cL_desertions 16 = .ok (.ireturn, 1) := by decide +kernel
theorem dL_repliesHeard_0 : decode cL_repliesHeard 0 = .ok (.aload_n 2, 1) := by decide +kernel
theorem dL_repliesHeard_1 : decode cL_repliesHeard 1 = .ok (.iconst 0, 1) := by decide +kernel
theorem dL_repliesHeard_2 : decode cL_repliesHeard 2 = .ok (.aload_n 0, 1) := by decide +kernel
theorem dL_repliesHeard_3 : decode cL_repliesHeard 3 = .ok (.iload_n 1, 1) := by decide +kernel
theorem dL_repliesHeard_4 : decode cL_repliesHeard 4 = .ok (.invokevirtual 113, 3) := by decide +kernel
theorem dL_repliesHeard_7 : decode cL_repliesHeard 7 = .ok (.i2l, 1) := by decide +kernel
theorem dL_repliesHeard_8 : decode cL_repliesHeard 8 = .ok (.lastore, 1) := by decide +kernel
theorem dL_repliesHeard_9 : decode cL_repliesHeard 9 = .ok (.goto 6, 3) := by decide +kernel
theorem dL_repliesHeard_12 : decode cL_repliesHeard 12 = .ok (.astore_n 3, 1) := by decide +kernel
theorem dL_repliesHeard_13 : decode cL_repliesHeard 13 = .ok (.iconst 1, 1) := by decide +kernel
theorem dL_repliesHeard_14 : decode cL_repliesHeard 14 = .ok (.ireturn, 1) := by decide +kernel
theorem dL_repliesHeard_15 : decode cL_repliesHeard 15 = .ok (.iconst 0, 1) := by decide +kernel
theorem dL_repliesHeard_16 : decode cL_repliesHeard 16 = .ok (.ireturn, 1) := by decide +kernel
theorem dL_wagesPaid_0 : decode cL_wagesPaid 0 = .ok (.aload_n 2, 1) := by decide +kernel
theorem dL_wagesPaid_1 : decode cL_wagesPaid 1 = .ok (.iconst 0, 1) := by decide +kernel
theorem dL_wagesPaid_2 : decode cL_wagesPaid 2 = .ok (.aload_n 0, 1) := by decide +kernel
theorem dL_wagesPaid_3 : decode cL_wagesPaid 3 = .ok (.iload_n 1, 1) := by decide +kernel
theorem dL_wagesPaid_4 : decode cL_wagesPaid 4 = .ok (.invokevirtual 116, 3) := by decide +kernel
theorem dL_wagesPaid_7 : decode cL_wagesPaid 7 = .ok (.i2l, 1) := by decide +kernel
theorem dL_wagesPaid_8 : decode cL_wagesPaid 8 = .ok (.lastore, 1) := by decide +kernel
theorem dL_wagesPaid_9 : decode cL_wagesPaid 9 = .ok (.goto 6, 3) := by decide +kernel
theorem dL_wagesPaid_12 : decode cL_wagesPaid 12 = .ok (.astore_n 3, 1) := by decide +kernel
theorem dL_wagesPaid_13 : decode cL_wagesPaid 13 = .ok (.iconst 1, 1) := by decide +kernel
theorem dL_wagesPaid_14 : decode cL_wagesPaid 14 = .ok (.ireturn, 1) := by decide +kernel
theorem dL_wagesPaid_15 : decode cL_wagesPaid 15 = .ok (.iconst 0, 1) := by decide +kernel
theorem dL_wagesPaid_16 : decode cL_wagesPaid 16 = .ok (.ireturn, 1) := by decide +kernel
theorem dL_passDays_0 : decode cL_passDays 0 = .ok (.aload_n 2, 1) := by decide +kernel
theorem dL_passDays_1 : decode cL_passDays 1 = .ok (.iconst 0, 1) := by decide +kernel
theorem dL_passDays_2 : decode cL_passDays 2 = .ok (.aload_n 0, 1) := by decide +kernel
theorem dL_passDays_3 : decode cL_passDays 3 = .ok (.iload_n 1, 1) := by decide +kernel
theorem dL_passDays_4 : decode cL_passDays 4 = .ok (.invokevirtual 119, 3) := by decide +kernel
theorem dL_passDays_7 : decode cL_passDays 7 = .ok (.i2l, 1) := by decide +kernel
theorem dL_passDays_8 : decode cL_passDays 8 = .ok (.lastore, 1) := by decide +kernel
theorem dL_passDays_9 : decode cL_passDays 9 = .ok (.goto 6, 3) := by decide +kernel
theorem dL_passDays_12 : decode cL_passDays 12 = .ok (.astore_n 3, 1) := by decide +kernel
theorem dL_passDays_13 : decode cL_passDays 13 = .ok (.iconst 1, 1) := by decide +kernel
theorem dL_passDays_14 : decode cL_passDays 14 = .ok (.ireturn, 1) := by decide +kernel
theorem dL_passDays_15 : decode cL_passDays 15 = .ok (.iconst 0, 1) := by decide +kernel
theorem dL_passDays_16 : decode cL_passDays 16 = .ok (.ireturn, 1) := by decide +kernel
theorem dL_test_0 : decode cL_test 0 = .ok (.aload_n 3, 1) := by decide +kernel
theorem dL_test_1 : decode cL_test 1 = .ok (.iconst 0, 1) := by decide +kernel
theorem dL_test_2 : decode cL_test 2 = .ok (.aload_n 0, 1) := by decide +kernel
theorem dL_test_3 : decode cL_test 3 = .ok (.iload_n 1, 1) := by decide +kernel
theorem dL_test_4 : decode cL_test 4 = .ok (.iload_n 2, 1) := by decide +kernel
theorem dL_test_5 : decode cL_test 5 = .ok (.invokevirtual 122, 3) := by decide +kernel
theorem dL_test_8 : decode cL_test 8 = .ok (.i2l, 1) := by decide +kernel
theorem dL_test_9 : decode cL_test 9 = .ok (.lastore, 1) := by decide +kernel
theorem dL_test_10 : decode cL_test 10 = .ok (.goto 11, 3) := by decide +kernel
theorem dL_test_13 : decode cL_test 13 = .ok (.astore 4, 2) := by decide +kernel
theorem dL_test_15 : decode cL_test 15 = .ok (.iconst 1, 1) := by decide +kernel
theorem dL_test_16 : decode cL_test 16 = .ok (.ireturn, 1) := by decide +kernel
theorem dL_test_17 : decode cL_test 17 = .ok (.astore 4, 2) := by decide +kernel
theorem dL_test_19 : decode cL_test 19 = .ok (.iconst 2, 1) := by decide +kernel
theorem dL_test_20 : decode cL_test 20 = .ok (.ireturn, 1) := by decide +kernel
theorem dL_test_21 : decode cL_test 21 = .ok (.iconst 0, 1) := by decide +kernel
theorem dL_test_22 : decode cL_test 22 = .ok (.ireturn, 1) := by decide +kernel
theorem dL_dismiss_0 : decode cL_dismiss 0 = .ok (.aload_n 2, 1) := by decide +kernel
theorem dL_dismiss_1 : decode cL_dismiss 1 = .ok (.iconst 0, 1) := by decide +kernel
theorem dL_dismiss_2 : decode cL_dismiss 2 = .ok (.aload_n 0, 1) := by decide +kernel
theorem dL_dismiss_3 : decode cL_dismiss 3 = .ok (.iload_n 1, 1) := by decide +kernel
theorem dL_dismiss_4 : decode cL_dismiss 4 = .ok (.invokevirtual 125, 3) := by decide +kernel
theorem dL_dismiss_7 : decode cL_dismiss 7 = .ok (.i2l, 1) := by decide +kernel
theorem dL_dismiss_8 : decode cL_dismiss 8 = .ok (.lastore, 1) := by decide +kernel
theorem dL_dismiss_9 : decode cL_dismiss 9 = .ok (.goto 9, 3) := by decide +kernel
theorem dL_dismiss_12 : decode cL_dismiss 12 = .ok (.astore_n 3, 1) := by decide +kernel
theorem dL_dismiss_13 : decode cL_dismiss 13 = .ok (.iconst 1, 1) := by decide +kernel
theorem dL_dismiss_14 : decode cL_dismiss 14 = .ok (.ireturn, 1) := by decide +kernel
theorem dL_dismiss_15 : decode cL_dismiss 15 = .ok (.astore_n 3, 1) := by decide +kernel
theorem dL_dismiss_16 : decode cL_dismiss 16 = .ok (.iconst 2, 1) := by decide +kernel
theorem dL_dismiss_17 : decode cL_dismiss 17 = .ok (.ireturn, 1) := by decide +kernel
theorem dL_dismiss_18 : decode cL_dismiss 18 = .ok (.iconst 0, 1) := by decide +kernel
theorem dL_dismiss_19 : decode cL_dismiss 19 = .ok (.ireturn, 1) := by decide +kernel
theorem dL_setWage_0 : decode cL_setWage 0 = .ok (.aload_n 3, 1) := by decide +kernel
theorem dL_setWage_1 : decode cL_setWage 1 = .ok (.iconst 0, 1) := by decide +kernel
theorem dL_setWage_2 : decode cL_setWage 2 = .ok (.aload_n 0, 1) := by decide +kernel
theorem dL_setWage_3 : decode cL_setWage 3 = .ok (.iload_n 1, 1) := by decide +kernel
theorem dL_setWage_4 : decode cL_setWage 4 = .ok (.iload_n 2, 1) := by decide +kernel
theorem dL_setWage_5 : decode cL_setWage 5 = .ok (.invokevirtual 128, 3) := by decide +kernel
theorem dL_setWage_8 : decode cL_setWage 8 = .ok (.i2l, 1) := by decide +kernel
theorem dL_setWage_9 : decode cL_setWage 9 = .ok (.lastore, 1) := by decide +kernel
theorem dL_setWage_10 : decode cL_setWage 10 = .ok (.goto 11, 3) := by decide +kernel
theorem dL_setWage_13 : decode cL_setWage 13 = .ok (.astore 4, 2) := by decide +kernel
theorem dL_setWage_15 : decode cL_setWage 15 = .ok (.iconst 1, 1) := by decide +kernel
theorem dL_setWage_16 : decode cL_setWage 16 = .ok (.ireturn, 1) := by decide +kernel
theorem dL_setWage_17 : decode cL_setWage 17 = .ok (.astore 4, 2) := by decide +kernel
theorem dL_setWage_19 : decode cL_setWage 19 = .ok (.iconst 2, 1) := by decide +kernel
theorem dL_setWage_20 : decode cL_setWage 20 = .ok (.ireturn, 1) := by decide +kernel
theorem dL_setWage_21 : decode cL_setWage 21 = .ok (.iconst 0, 1) := by decide +kernel
theorem dL_setWage_22 : decode cL_setWage 22 = .ok (.ireturn, 1) := by decide +kernel
theorem dL_fund_0 : decode cL_fund 0 = .ok (.aload_n 3, 1) := by decide +kernel
theorem dL_fund_1 : decode cL_fund 1 = .ok (.iconst 0, 1) := by decide +kernel
theorem dL_fund_2 : decode cL_fund 2 = .ok (.aload_n 0, 1) := by decide +kernel
theorem dL_fund_3 : decode cL_fund 3 = .ok (.iload_n 1, 1) := by decide +kernel
theorem dL_fund_4 : decode cL_fund 4 = .ok (.iload_n 2, 1) := by decide +kernel
theorem dL_fund_5 : decode cL_fund 5 = .ok (.invokevirtual 131, 3) := by decide +kernel
theorem dL_fund_8 : decode cL_fund 8 = .ok (.i2l, 1) := by decide +kernel
theorem dL_fund_9 : decode cL_fund 9 = .ok (.lastore, 1) := by decide +kernel
theorem dL_fund_10 : decode cL_fund 10 = .ok (.goto 11, 3) := by decide +kernel
theorem dL_fund_13 : decode cL_fund 13 = .ok (.astore 4, 2) := by decide +kernel
theorem dL_fund_15 : decode cL_fund 15 = .ok (.iconst 1, 1) := by decide +kernel
theorem dL_fund_16 : decode cL_fund 16 = .ok (.ireturn, 1) := by decide +kernel
theorem dL_fund_17 : decode cL_fund 17 = .ok (.astore 4, 2) := by decide +kernel
theorem dL_fund_19 : decode cL_fund 19 = .ok (.iconst 2, 1) := by decide +kernel
theorem dL_fund_20 : decode cL_fund 20 = .ok (.ireturn, 1) := by decide +kernel
theorem dL_fund_21 : decode cL_fund 21 = .ok (.iconst 0, 1) := by decide +kernel
theorem dL_fund_22 : decode cL_fund 22 = .ok (.ireturn, 1) := by decide +kernel
theorem dL_train_0 : decode cL_train 0 = .ok (.aload_n 2, 1) := by decide +kernel
theorem dL_train_1 : decode cL_train 1 = .ok (.iconst 0, 1) := by decide +kernel
theorem dL_train_2 : decode cL_train 2 = .ok (.aload_n 0, 1) := by decide +kernel
theorem dL_train_3 : decode cL_train 3 = .ok (.iload_n 1, 1) := by decide +kernel
theorem dL_train_4 : decode cL_train 4 = .ok (.invokevirtual 134, 3) := by decide +kernel
theorem dL_train_7 : decode cL_train 7 = .ok (.i2l, 1) := by decide +kernel
theorem dL_train_8 : decode cL_train 8 = .ok (.lastore, 1) := by decide +kernel
theorem dL_train_9 : decode cL_train 9 = .ok (.goto 9, 3) := by decide +kernel
theorem dL_train_12 : decode cL_train 12 = .ok (.astore_n 3, 1) := by decide +kernel
theorem dL_train_13 : decode cL_train 13 = .ok (.iconst 1, 1) := by decide +kernel
theorem dL_train_14 : decode cL_train 14 = .ok (.ireturn, 1) := by decide +kernel
theorem dL_train_15 : decode cL_train 15 = .ok (.astore_n 3, 1) := by decide +kernel
theorem dL_train_16 : decode cL_train 16 = .ok (.iconst 2, 1) := by decide +kernel
theorem dL_train_17 : decode cL_train 17 = .ok (.ireturn, 1) := by decide +kernel
theorem dL_train_18 : decode cL_train 18 = .ok (.iconst 0, 1) := by decide +kernel
theorem dL_train_19 : decode cL_train 19 = .ok (.ireturn, 1) := by decide +kernel
theorem dL_undo_0 : decode cL_undo 0 = .ok (.aload_n 1, 1) := by decide +kernel
theorem dL_undo_1 : decode cL_undo 1 = .ok (.iconst 0, 1) := by decide +kernel
theorem dL_undo_2 : decode cL_undo 2 = .ok (.aload_n 0, 1) := by decide +kernel
theorem dL_undo_3 : decode cL_undo 3 = .ok (.invokevirtual 137, 3) := by decide +kernel
theorem dL_undo_6 : decode cL_undo 6 = .ok (.i2l, 1) := by decide +kernel
theorem dL_undo_7 : decode cL_undo 7 = .ok (.lastore, 1) := by decide +kernel
theorem dL_undo_8 : decode cL_undo 8 = .ok (.goto 6, 3) := by decide +kernel
theorem dL_undo_11 : decode cL_undo 11 = .ok (.astore_n 2, 1) := by decide +kernel
theorem dL_undo_12 : decode cL_undo 12 = .ok (.iconst 1, 1) := by decide +kernel
theorem dL_undo_13 : decode cL_undo 13 = .ok (.ireturn, 1) := by decide +kernel
theorem dL_undo_14 : decode cL_undo 14 = .ok (.iconst 0, 1) := by decide +kernel
theorem dL_undo_15 : decode cL_undo 15 = .ok (.ireturn, 1) := by decide +kernel
theorem dL_restore_0 : decode cL_restore 0 = .ok (.aload_n 1, 1) := by decide +kernel
theorem dL_restore_1 : decode cL_restore 1 = .ok (.iconst 0, 1) := by decide +kernel
theorem dL_restore_2 : decode cL_restore 2 = .ok (.aload_n 0, 1) := by decide +kernel
theorem dL_restore_3 : decode cL_restore 3 = .ok (.invokevirtual 140, 3) := by decide +kernel
theorem dL_restore_6 : decode cL_restore 6 = .ok (.i2l, 1) := by decide +kernel
theorem dL_restore_7 : decode cL_restore 7 = .ok (.lastore, 1) := by decide +kernel
theorem dL_restore_8 : decode cL_restore 8 = .ok (.goto 6, 3) := by decide +kernel
theorem dL_restore_11 : decode cL_restore 11 = .ok (.astore_n 2, 1) := by decide +kernel
theorem dL_restore_12 : decode cL_restore 12 = .ok (.iconst 1, 1) := by decide +kernel
theorem dL_restore_13 : decode cL_restore 13 = .ok (.ireturn, 1) := by decide +kernel
theorem dL_restore_14 : decode cL_restore 14 = .ok (.iconst 0, 1) := by decide +kernel
theorem dL_restore_15 : decode cL_restore 15 = .ok (.ireturn, 1) := by decide +kernel
theorem dL_law_0 : decode cL_law 0 = .ok (.new 8, 3) := de9_187 (a := 0) (b := 8) (aL9 (by decide +kernel)) (aL9 (by decide +kernel)) (aL9 (by decide +kernel)) (by decide +kernel)
theorem dL_law_3 : decode cL_law 3 = .ok (.dup, 1) := de9_89 (aL9 (by decide +kernel))
theorem dL_law_4 : decode cL_law 4 = .ok (.invokespecial 143, 3) := de9_183 (a := 0) (b := 143) (aL9 (by decide +kernel)) (aL9 (by decide +kernel)) (aL9 (by decide +kernel)) (by decide +kernel)
theorem dL_law_7 : decode cL_law 7 = .ok (.astore_n 1, 1) := de9_76 (aL9 (by decide +kernel))
theorem dL_law_8 : decode cL_law 8 = .ok (.new 144, 3) := de9_187 (a := 0) (b := 144) (aL9 (by decide +kernel)) (aL9 (by decide +kernel)) (aL9 (by decide +kernel)) (by decide +kernel)
theorem dL_law_11 : decode cL_law 11 = .ok (.dup, 1) := de9_89 (aL9 (by decide +kernel))
theorem dL_law_12 : decode cL_law 12 = .ok (.invokespecial 146, 3) := de9_183 (a := 0) (b := 146) (aL9 (by decide +kernel)) (aL9 (by decide +kernel)) (aL9 (by decide +kernel)) (by decide +kernel)
theorem dL_law_15 : decode cL_law 15 = .ok (.astore_n 2, 1) := de9_77 (aL9 (by decide +kernel))
theorem dL_law_16 : decode cL_law 16 = .ok (.iconst 1, 1) := de9_4 (aL9 (by decide +kernel))
theorem dL_law_17 : decode cL_law 17 = .ok (.newarray .long, 2) := by decide +kernel
theorem dL_law_19 : decode cL_law 19 = .ok (.astore_n 3, 1) := de9_78 (aL9 (by decide +kernel))
theorem dL_law_20 : decode cL_law 20 = .ok (.iconst 0, 1) := de9_3 (aL9 (by decide +kernel))
theorem dL_law_21 : decode cL_law 21 = .ok (.istore 4, 2) := de9_54 (aL9 (by decide +kernel)) (aL9 (by decide +kernel))
theorem dL_law_23 : decode cL_law 23 = .ok (.iload 4, 2) := de9_21 (aL9 (by decide +kernel)) (aL9 (by decide +kernel))
theorem dL_law_25 : decode cL_law 25 = .ok (.aload_n 0, 1) := de9_42 (aL9 (by decide +kernel))
theorem dL_law_26 : decode cL_law 26 = .ok (.arraylength, 1) := de9_190 (aL9 (by decide +kernel))
theorem dL_law_27 : decode cL_law 27 = .ok (.bipush 6, 2) := by decide +kernel
theorem dL_law_29 : decode cL_law 29 = .ok (.isub, 1) := de9_100 (aL9 (by decide +kernel))
theorem dL_law_30 : decode cL_law 30 = .ok (.if_icmp .gt 1875, 3) := de9_163 (a := 7) (b := 83) (aL9 (by decide +kernel)) (aL9 (by decide +kernel)) (aL9 (by decide +kernel)) (by decide +kernel)
theorem dL_law_33 : decode cL_law 33 = .ok (.aload_n 0, 1) := de9_42 (aL9 (by decide +kernel))
theorem dL_law_34 : decode cL_law 34 = .ok (.iload 4, 2) := de9_21 (aL9 (by decide +kernel)) (aL9 (by decide +kernel))
theorem dL_law_36 : decode cL_law 36 = .ok (.iaload, 1) := de9_46 (aL9 (by decide +kernel))
theorem dL_law_37 : decode cL_law 37 = .ok (.bipush 63, 2) := by decide +kernel
theorem dL_law_39 : decode cL_law 39 = .ok (.iand, 1) := de9_126 (aL9 (by decide +kernel))
theorem dL_law_40 : decode cL_law 40 = .ok (.tableswitch 1859 0 61 #[264, 340, 368, 384, 400, 413, 426, 439, 452, 465, 478, 506, 519, 532, 560, 588, 616, 644, 672, 700, 728, 756, 784, 812, 840, 868, 908, 948, 988, 1028, 1068, 1108, 1121, 1149, 1189, 1229, 1257, 1297, 1325, 1338, 1378, 1391, 1404, 1432, 1460, 1488, 1501, 1514, 1527, 1542, 1559, 1587, 1600, 1640, 1668, 1708, 1748, 1776, 1792, 1805, 1821, 1834], 264) := by decide +kernel
theorem dL_law_304 : decode cL_law 304 = .ok (.aload_n 1, 1) := de9_43 (aL9 (by decide +kernel))
theorem dL_law_305 : decode cL_law 305 = .ok (.aload_n 0, 1) := de9_42 (aL9 (by decide +kernel))
theorem dL_law_306 : decode cL_law 306 = .ok (.iload 4, 2) := de9_21 (aL9 (by decide +kernel)) (aL9 (by decide +kernel))
theorem dL_law_308 : decode cL_law 308 = .ok (.iconst 1, 1) := de9_4 (aL9 (by decide +kernel))
theorem dL_law_309 : decode cL_law 309 = .ok (.iadd, 1) := de9_96 (aL9 (by decide +kernel))
theorem dL_law_310 : decode cL_law 310 = .ok (.iaload, 1) := de9_46 (aL9 (by decide +kernel))
theorem dL_law_311 : decode cL_law 311 = .ok (.aload_n 0, 1) := de9_42 (aL9 (by decide +kernel))
theorem dL_law_312 : decode cL_law 312 = .ok (.iload 4, 2) := de9_21 (aL9 (by decide +kernel)) (aL9 (by decide +kernel))
theorem dL_law_314 : decode cL_law 314 = .ok (.iconst 2, 1) := de9_5 (aL9 (by decide +kernel))
theorem dL_law_315 : decode cL_law 315 = .ok (.iadd, 1) := de9_96 (aL9 (by decide +kernel))
theorem dL_law_316 : decode cL_law 316 = .ok (.iaload, 1) := de9_46 (aL9 (by decide +kernel))
theorem dL_law_317 : decode cL_law 317 = .ok (.aload_n 0, 1) := de9_42 (aL9 (by decide +kernel))
theorem dL_law_318 : decode cL_law 318 = .ok (.iload 4, 2) := de9_21 (aL9 (by decide +kernel)) (aL9 (by decide +kernel))
theorem dL_law_320 : decode cL_law 320 = .ok (.iconst 3, 1) := de9_6 (aL9 (by decide +kernel))
theorem dL_law_321 : decode cL_law 321 = .ok (.iadd, 1) := de9_96 (aL9 (by decide +kernel))
theorem dL_law_322 : decode cL_law 322 = .ok (.iaload, 1) := de9_46 (aL9 (by decide +kernel))
theorem dL_law_323 : decode cL_law 323 = .ok (.aload_n 0, 1) := de9_42 (aL9 (by decide +kernel))
theorem dL_law_324 : decode cL_law 324 = .ok (.iload 4, 2) := de9_21 (aL9 (by decide +kernel)) (aL9 (by decide +kernel))
theorem dL_law_326 : decode cL_law 326 = .ok (.iconst 4, 1) := de9_7 (aL9 (by decide +kernel))
theorem dL_law_327 : decode cL_law 327 = .ok (.iadd, 1) := de9_96 (aL9 (by decide +kernel))
theorem dL_law_328 : decode cL_law 328 = .ok (.iaload, 1) := de9_46 (aL9 (by decide +kernel))
theorem dL_law_329 : decode cL_law 329 = .ok (.aload_n 0, 1) := de9_42 (aL9 (by decide +kernel))
theorem dL_law_330 : decode cL_law 330 = .ok (.iload 4, 2) := de9_21 (aL9 (by decide +kernel)) (aL9 (by decide +kernel))
theorem dL_law_332 : decode cL_law 332 = .ok (.iconst 5, 1) := de9_8 (aL9 (by decide +kernel))
theorem dL_law_333 : decode cL_law 333 = .ok (.iadd, 1) := de9_96 (aL9 (by decide +kernel))
theorem dL_law_334 : decode cL_law 334 = .ok (.iaload, 1) := de9_46 (aL9 (by decide +kernel))
theorem dL_law_335 : decode cL_law 335 = .ok (.aload_n 3, 1) := de9_45 (aL9 (by decide +kernel))
theorem dL_law_336 : decode cL_law 336 = .ok (.invokestatic 147, 3) := de9_184 (a := 0) (b := 147) (aL9 (by decide +kernel)) (aL9 (by decide +kernel)) (aL9 (by decide +kernel)) (by decide +kernel)
theorem dL_law_339 : decode cL_law 339 = .ok (.istore 5, 2) := de9_54 (aL9 (by decide +kernel)) (aL9 (by decide +kernel))
theorem dL_law_341 : decode cL_law 341 = .ok (.aload_n 2, 1) := de9_44 (aL9 (by decide +kernel))
theorem dL_law_342 : decode cL_law 342 = .ok (.aload_n 0, 1) := de9_42 (aL9 (by decide +kernel))
theorem dL_law_343 : decode cL_law 343 = .ok (.iload 4, 2) := de9_21 (aL9 (by decide +kernel)) (aL9 (by decide +kernel))
theorem dL_law_345 : decode cL_law 345 = .ok (.iconst 1, 1) := de9_4 (aL9 (by decide +kernel))
theorem dL_law_346 : decode cL_law 346 = .ok (.iadd, 1) := de9_96 (aL9 (by decide +kernel))
theorem dL_law_347 : decode cL_law 347 = .ok (.iaload, 1) := de9_46 (aL9 (by decide +kernel))
theorem dL_law_348 : decode cL_law 348 = .ok (.aload_n 0, 1) := de9_42 (aL9 (by decide +kernel))
theorem dL_law_349 : decode cL_law 349 = .ok (.iload 4, 2) := de9_21 (aL9 (by decide +kernel)) (aL9 (by decide +kernel))
theorem dL_law_351 : decode cL_law 351 = .ok (.iconst 2, 1) := de9_5 (aL9 (by decide +kernel))
theorem dL_law_352 : decode cL_law 352 = .ok (.iadd, 1) := de9_96 (aL9 (by decide +kernel))
theorem dL_law_353 : decode cL_law 353 = .ok (.iaload, 1) := de9_46 (aL9 (by decide +kernel))
theorem dL_law_354 : decode cL_law 354 = .ok (.aload_n 0, 1) := de9_42 (aL9 (by decide +kernel))
theorem dL_law_355 : decode cL_law 355 = .ok (.iload 4, 2) := de9_21 (aL9 (by decide +kernel)) (aL9 (by decide +kernel))
theorem dL_law_357 : decode cL_law 357 = .ok (.iconst 3, 1) := de9_6 (aL9 (by decide +kernel))
theorem dL_law_358 : decode cL_law 358 = .ok (.iadd, 1) := de9_96 (aL9 (by decide +kernel))
theorem dL_law_359 : decode cL_law 359 = .ok (.iaload, 1) := de9_46 (aL9 (by decide +kernel))
theorem dL_law_360 : decode cL_law 360 = .ok (.aload_n 0, 1) := de9_42 (aL9 (by decide +kernel))
theorem dL_law_361 : decode cL_law 361 = .ok (.iload 4, 2) := de9_21 (aL9 (by decide +kernel)) (aL9 (by decide +kernel))
theorem dL_law_363 : decode cL_law 363 = .ok (.iconst 4, 1) := de9_7 (aL9 (by decide +kernel))
theorem dL_law_364 : decode cL_law 364 = .ok (.iadd, 1) := de9_96 (aL9 (by decide +kernel))
theorem dL_law_365 : decode cL_law 365 = .ok (.iaload, 1) := de9_46 (aL9 (by decide +kernel))
theorem dL_law_366 : decode cL_law 366 = .ok (.aload_n 0, 1) := de9_42 (aL9 (by decide +kernel))
theorem dL_law_367 : decode cL_law 367 = .ok (.iload 4, 2) := de9_21 (aL9 (by decide +kernel)) (aL9 (by decide +kernel))
theorem dL_law_369 : decode cL_law 369 = .ok (.iconst 5, 1) := de9_8 (aL9 (by decide +kernel))
theorem dL_law_370 : decode cL_law 370 = .ok (.iadd, 1) := de9_96 (aL9 (by decide +kernel))
theorem dL_law_371 : decode cL_law 371 = .ok (.iaload, 1) := de9_46 (aL9 (by decide +kernel))
theorem dL_law_372 : decode cL_law 372 = .ok (.invokevirtual 152, 3) := de9_182 (a := 0) (b := 152) (aL9 (by decide +kernel)) (aL9 (by decide +kernel)) (aL9 (by decide +kernel)) (by decide +kernel)
theorem dL_law_375 : decode cL_law 375 = .ok (.istore 6, 2) := de9_54 (aL9 (by decide +kernel)) (aL9 (by decide +kernel))
theorem dL_law_377 : decode cL_law 377 = .ok (.goto 1522, 3) := de9_167 (a := 5) (b := 242) (aL9 (by decide +kernel)) (aL9 (by decide +kernel)) (aL9 (by decide +kernel)) (by decide +kernel)
theorem dL_law_380 : decode cL_law 380 = .ok (.aload_n 1, 1) := de9_43 (aL9 (by decide +kernel))
theorem dL_law_381 : decode cL_law 381 = .ok (.aload_n 0, 1) := de9_42 (aL9 (by decide +kernel))
theorem dL_law_382 : decode cL_law 382 = .ok (.iload 4, 2) := de9_21 (aL9 (by decide +kernel)) (aL9 (by decide +kernel))
theorem dL_law_384 : decode cL_law 384 = .ok (.iconst 1, 1) := de9_4 (aL9 (by decide +kernel))
theorem dL_law_385 : decode cL_law 385 = .ok (.iadd, 1) := de9_96 (aL9 (by decide +kernel))
theorem dL_law_386 : decode cL_law 386 = .ok (.iaload, 1) := de9_46 (aL9 (by decide +kernel))
theorem dL_law_387 : decode cL_law 387 = .ok (.aload_n 3, 1) := de9_45 (aL9 (by decide +kernel))
theorem dL_law_388 : decode cL_law 388 = .ok (.invokestatic 153, 3) := de9_184 (a := 0) (b := 153) (aL9 (by decide +kernel)) (aL9 (by decide +kernel)) (aL9 (by decide +kernel)) (by decide +kernel)
theorem dL_law_391 : decode cL_law 391 = .ok (.istore 5, 2) := de9_54 (aL9 (by decide +kernel)) (aL9 (by decide +kernel))
theorem dL_law_393 : decode cL_law 393 = .ok (.aload_n 2, 1) := de9_44 (aL9 (by decide +kernel))
theorem dL_law_394 : decode cL_law 394 = .ok (.aload_n 0, 1) := de9_42 (aL9 (by decide +kernel))
theorem dL_law_395 : decode cL_law 395 = .ok (.iload 4, 2) := de9_21 (aL9 (by decide +kernel)) (aL9 (by decide +kernel))
theorem dL_law_397 : decode cL_law 397 = .ok (.iconst 1, 1) := de9_4 (aL9 (by decide +kernel))
theorem dL_law_398 : decode cL_law 398 = .ok (.iadd, 1) := de9_96 (aL9 (by decide +kernel))
theorem dL_law_399 : decode cL_law 399 = .ok (.iaload, 1) := de9_46 (aL9 (by decide +kernel))
theorem dL_law_400 : decode cL_law 400 = .ok (.invokevirtual 156, 3) := de9_182 (a := 0) (b := 156) (aL9 (by decide +kernel)) (aL9 (by decide +kernel)) (aL9 (by decide +kernel)) (by decide +kernel)
theorem dL_law_403 : decode cL_law 403 = .ok (.istore 6, 2) := de9_54 (aL9 (by decide +kernel)) (aL9 (by decide +kernel))
theorem dL_law_405 : decode cL_law 405 = .ok (.goto 1494, 3) := de9_167 (a := 5) (b := 214) (aL9 (by decide +kernel)) (aL9 (by decide +kernel)) (aL9 (by decide +kernel)) (by decide +kernel)
theorem dL_law_408 : decode cL_law 408 = .ok (.aload_n 1, 1) := de9_43 (aL9 (by decide +kernel))
theorem dL_law_409 : decode cL_law 409 = .ok (.aload_n 3, 1) := de9_45 (aL9 (by decide +kernel))
theorem dL_law_410 : decode cL_law 410 = .ok (.invokestatic 157, 3) := de9_184 (a := 0) (b := 157) (aL9 (by decide +kernel)) (aL9 (by decide +kernel)) (aL9 (by decide +kernel)) (by decide +kernel)
theorem dL_law_413 : decode cL_law 413 = .ok (.istore 5, 2) := de9_54 (aL9 (by decide +kernel)) (aL9 (by decide +kernel))
theorem dL_law_415 : decode cL_law 415 = .ok (.aload_n 2, 1) := de9_44 (aL9 (by decide +kernel))
theorem dL_law_416 : decode cL_law 416 = .ok (.invokevirtual 160, 3) := de9_182 (a := 0) (b := 160) (aL9 (by decide +kernel)) (aL9 (by decide +kernel)) (aL9 (by decide +kernel)) (by decide +kernel)
theorem dL_law_419 : decode cL_law 419 = .ok (.istore 6, 2) := de9_54 (aL9 (by decide +kernel)) (aL9 (by decide +kernel))
theorem dL_law_421 : decode cL_law 421 = .ok (.goto 1478, 3) := de9_167 (a := 5) (b := 198) (aL9 (by decide +kernel)) (aL9 (by decide +kernel)) (aL9 (by decide +kernel)) (by decide +kernel)
theorem dL_law_424 : decode cL_law 424 = .ok (.aload_n 1, 1) := de9_43 (aL9 (by decide +kernel))
theorem dL_law_425 : decode cL_law 425 = .ok (.aload_n 3, 1) := de9_45 (aL9 (by decide +kernel))
theorem dL_law_426 : decode cL_law 426 = .ok (.invokestatic 161, 3) := de9_184 (a := 0) (b := 161) (aL9 (by decide +kernel)) (aL9 (by decide +kernel)) (aL9 (by decide +kernel)) (by decide +kernel)
theorem dL_law_429 : decode cL_law 429 = .ok (.istore 5, 2) := de9_54 (aL9 (by decide +kernel)) (aL9 (by decide +kernel))
theorem dL_law_431 : decode cL_law 431 = .ok (.aload_n 2, 1) := de9_44 (aL9 (by decide +kernel))
theorem dL_law_432 : decode cL_law 432 = .ok (.invokevirtual 163, 3) := de9_182 (a := 0) (b := 163) (aL9 (by decide +kernel)) (aL9 (by decide +kernel)) (aL9 (by decide +kernel)) (by decide +kernel)
theorem dL_law_435 : decode cL_law 435 = .ok (.istore 6, 2) := de9_54 (aL9 (by decide +kernel)) (aL9 (by decide +kernel))
theorem dL_law_437 : decode cL_law 437 = .ok (.goto 1462, 3) := de9_167 (a := 5) (b := 182) (aL9 (by decide +kernel)) (aL9 (by decide +kernel)) (aL9 (by decide +kernel)) (by decide +kernel)
theorem dL_law_440 : decode cL_law 440 = .ok (.aload_n 1, 1) := de9_43 (aL9 (by decide +kernel))
theorem dL_law_441 : decode cL_law 441 = .ok (.invokevirtual 164, 3) := de9_182 (a := 0) (b := 164) (aL9 (by decide +kernel)) (aL9 (by decide +kernel)) (aL9 (by decide +kernel)) (by decide +kernel)
theorem dL_law_444 : decode cL_law 444 = .ok (.pop, 1) := de9_87 (aL9 (by decide +kernel))
theorem dL_law_445 : decode cL_law 445 = .ok (.aload_n 2, 1) := de9_44 (aL9 (by decide +kernel))
theorem dL_law_446 : decode cL_law 446 = .ok (.invokevirtual 167, 3) := de9_182 (a := 0) (b := 167) (aL9 (by decide +kernel)) (aL9 (by decide +kernel)) (aL9 (by decide +kernel)) (by decide +kernel)
theorem dL_law_449 : decode cL_law 449 = .ok (.pop, 1) := de9_87 (aL9 (by decide +kernel))
theorem dL_law_450 : decode cL_law 450 = .ok (.goto 1449, 3) := de9_167 (a := 5) (b := 169) (aL9 (by decide +kernel)) (aL9 (by decide +kernel)) (aL9 (by decide +kernel)) (by decide +kernel)
theorem dL_law_453 : decode cL_law 453 = .ok (.aload_n 1, 1) := de9_43 (aL9 (by decide +kernel))
theorem dL_law_454 : decode cL_law 454 = .ok (.invokevirtual 168, 3) := de9_182 (a := 0) (b := 168) (aL9 (by decide +kernel)) (aL9 (by decide +kernel)) (aL9 (by decide +kernel)) (by decide +kernel)
theorem dL_law_457 : decode cL_law 457 = .ok (.aload_n 2, 1) := de9_44 (aL9 (by decide +kernel))
theorem dL_law_458 : decode cL_law 458 = .ok (.invokevirtual 171, 3) := de9_182 (a := 0) (b := 171) (aL9 (by decide +kernel)) (aL9 (by decide +kernel)) (aL9 (by decide +kernel)) (by decide +kernel)
theorem dL_law_461 : decode cL_law 461 = .ok (.if_icmp .eq 1438, 3) := de9_159 (a := 5) (b := 158) (aL9 (by decide +kernel)) (aL9 (by decide +kernel)) (aL9 (by decide +kernel)) (by decide +kernel)
theorem dL_law_464 : decode cL_law 464 = .ok (.iconst 0, 1) := de9_3 (aL9 (by decide +kernel))
theorem dL_law_465 : decode cL_law 465 = .ok (.ireturn, 1) := de9_172 (aL9 (by decide +kernel))
theorem dL_law_466 : decode cL_law 466 = .ok (.aload_n 1, 1) := de9_43 (aL9 (by decide +kernel))
theorem dL_law_467 : decode cL_law 467 = .ok (.invokevirtual 172, 3) := de9_182 (a := 0) (b := 172) (aL9 (by decide +kernel)) (aL9 (by decide +kernel)) (aL9 (by decide +kernel)) (by decide +kernel)
theorem dL_law_470 : decode cL_law 470 = .ok (.pop, 1) := de9_87 (aL9 (by decide +kernel))
theorem dL_law_471 : decode cL_law 471 = .ok (.aload_n 2, 1) := de9_44 (aL9 (by decide +kernel))
theorem dL_law_472 : decode cL_law 472 = .ok (.invokevirtual 175, 3) := de9_182 (a := 0) (b := 175) (aL9 (by decide +kernel)) (aL9 (by decide +kernel)) (aL9 (by decide +kernel)) (by decide +kernel)
theorem dL_law_475 : decode cL_law 475 = .ok (.pop, 1) := de9_87 (aL9 (by decide +kernel))
theorem dL_law_476 : decode cL_law 476 = .ok (.goto 1423, 3) := de9_167 (a := 5) (b := 143) (aL9 (by decide +kernel)) (aL9 (by decide +kernel)) (aL9 (by decide +kernel)) (by decide +kernel)
theorem dL_law_479 : decode cL_law 479 = .ok (.aload_n 1, 1) := de9_43 (aL9 (by decide +kernel))
theorem dL_law_480 : decode cL_law 480 = .ok (.invokevirtual 176, 3) := de9_182 (a := 0) (b := 176) (aL9 (by decide +kernel)) (aL9 (by decide +kernel)) (aL9 (by decide +kernel)) (by decide +kernel)
theorem dL_law_483 : decode cL_law 483 = .ok (.pop, 1) := de9_87 (aL9 (by decide +kernel))
theorem dL_law_484 : decode cL_law 484 = .ok (.aload_n 2, 1) := de9_44 (aL9 (by decide +kernel))
theorem dL_law_485 : decode cL_law 485 = .ok (.invokevirtual 179, 3) := de9_182 (a := 0) (b := 179) (aL9 (by decide +kernel)) (aL9 (by decide +kernel)) (aL9 (by decide +kernel)) (by decide +kernel)
theorem dL_law_488 : decode cL_law 488 = .ok (.pop, 1) := de9_87 (aL9 (by decide +kernel))
theorem dL_law_489 : decode cL_law 489 = .ok (.goto 1410, 3) := de9_167 (a := 5) (b := 130) (aL9 (by decide +kernel)) (aL9 (by decide +kernel)) (aL9 (by decide +kernel)) (by decide +kernel)
theorem dL_law_492 : decode cL_law 492 = .ok (.aload_n 1, 1) := de9_43 (aL9 (by decide +kernel))
theorem dL_law_493 : decode cL_law 493 = .ok (.invokevirtual 180, 3) := de9_182 (a := 0) (b := 180) (aL9 (by decide +kernel)) (aL9 (by decide +kernel)) (aL9 (by decide +kernel)) (by decide +kernel)
theorem dL_law_496 : decode cL_law 496 = .ok (.pop, 1) := de9_87 (aL9 (by decide +kernel))
theorem dL_law_497 : decode cL_law 497 = .ok (.aload_n 2, 1) := de9_44 (aL9 (by decide +kernel))
theorem dL_law_498 : decode cL_law 498 = .ok (.invokevirtual 183, 3) := de9_182 (a := 0) (b := 183) (aL9 (by decide +kernel)) (aL9 (by decide +kernel)) (aL9 (by decide +kernel)) (by decide +kernel)
theorem dL_law_501 : decode cL_law 501 = .ok (.pop, 1) := de9_87 (aL9 (by decide +kernel))
theorem dL_law_502 : decode cL_law 502 = .ok (.goto 1397, 3) := de9_167 (a := 5) (b := 117) (aL9 (by decide +kernel)) (aL9 (by decide +kernel)) (aL9 (by decide +kernel)) (by decide +kernel)
theorem dL_law_505 : decode cL_law 505 = .ok (.aload_n 1, 1) := de9_43 (aL9 (by decide +kernel))
theorem dL_law_506 : decode cL_law 506 = .ok (.invokevirtual 184, 3) := de9_182 (a := 0) (b := 184) (aL9 (by decide +kernel)) (aL9 (by decide +kernel)) (aL9 (by decide +kernel)) (by decide +kernel)
theorem dL_law_509 : decode cL_law 509 = .ok (.pop, 1) := de9_87 (aL9 (by decide +kernel))
theorem dL_law_510 : decode cL_law 510 = .ok (.aload_n 2, 1) := de9_44 (aL9 (by decide +kernel))
theorem dL_law_511 : decode cL_law 511 = .ok (.invokevirtual 187, 3) := de9_182 (a := 0) (b := 187) (aL9 (by decide +kernel)) (aL9 (by decide +kernel)) (aL9 (by decide +kernel)) (by decide +kernel)
theorem dL_law_514 : decode cL_law 514 = .ok (.pop, 1) := de9_87 (aL9 (by decide +kernel))
theorem dL_law_515 : decode cL_law 515 = .ok (.goto 1384, 3) := de9_167 (a := 5) (b := 104) (aL9 (by decide +kernel)) (aL9 (by decide +kernel)) (aL9 (by decide +kernel)) (by decide +kernel)
theorem dL_law_518 : decode cL_law 518 = .ok (.aload_n 1, 1) := de9_43 (aL9 (by decide +kernel))
theorem dL_law_519 : decode cL_law 519 = .ok (.aload_n 0, 1) := de9_42 (aL9 (by decide +kernel))
theorem dL_law_520 : decode cL_law 520 = .ok (.iload 4, 2) := de9_21 (aL9 (by decide +kernel)) (aL9 (by decide +kernel))
theorem dL_law_522 : decode cL_law 522 = .ok (.iconst 1, 1) := de9_4 (aL9 (by decide +kernel))
theorem dL_law_523 : decode cL_law 523 = .ok (.iadd, 1) := de9_96 (aL9 (by decide +kernel))
theorem dL_law_524 : decode cL_law 524 = .ok (.iaload, 1) := de9_46 (aL9 (by decide +kernel))
theorem dL_law_525 : decode cL_law 525 = .ok (.aload_n 3, 1) := de9_45 (aL9 (by decide +kernel))
theorem dL_law_526 : decode cL_law 526 = .ok (.invokestatic 188, 3) := de9_184 (a := 0) (b := 188) (aL9 (by decide +kernel)) (aL9 (by decide +kernel)) (aL9 (by decide +kernel)) (by decide +kernel)
theorem dL_law_529 : decode cL_law 529 = .ok (.istore 5, 2) := de9_54 (aL9 (by decide +kernel)) (aL9 (by decide +kernel))
theorem dL_law_531 : decode cL_law 531 = .ok (.aload_n 2, 1) := de9_44 (aL9 (by decide +kernel))
theorem dL_law_532 : decode cL_law 532 = .ok (.aload_n 0, 1) := de9_42 (aL9 (by decide +kernel))
theorem dL_law_533 : decode cL_law 533 = .ok (.iload 4, 2) := de9_21 (aL9 (by decide +kernel)) (aL9 (by decide +kernel))
theorem dL_law_535 : decode cL_law 535 = .ok (.iconst 1, 1) := de9_4 (aL9 (by decide +kernel))
theorem dL_law_536 : decode cL_law 536 = .ok (.iadd, 1) := de9_96 (aL9 (by decide +kernel))
theorem dL_law_537 : decode cL_law 537 = .ok (.iaload, 1) := de9_46 (aL9 (by decide +kernel))
theorem dL_law_538 : decode cL_law 538 = .ok (.invokevirtual 190, 3) := de9_182 (a := 0) (b := 190) (aL9 (by decide +kernel)) (aL9 (by decide +kernel)) (aL9 (by decide +kernel)) (by decide +kernel)
theorem dL_law_541 : decode cL_law 541 = .ok (.istore 6, 2) := de9_54 (aL9 (by decide +kernel)) (aL9 (by decide +kernel))
theorem dL_law_543 : decode cL_law 543 = .ok (.goto 1356, 3) := de9_167 (a := 5) (b := 76) (aL9 (by decide +kernel)) (aL9 (by decide +kernel)) (aL9 (by decide +kernel)) (by decide +kernel)
theorem dL_law_546 : decode cL_law 546 = .ok (.aload_n 1, 1) := de9_43 (aL9 (by decide +kernel))
theorem dL_law_547 : decode cL_law 547 = .ok (.invokevirtual 191, 3) := de9_182 (a := 0) (b := 191) (aL9 (by decide +kernel)) (aL9 (by decide +kernel)) (aL9 (by decide +kernel)) (by decide +kernel)
theorem dL_law_550 : decode cL_law 550 = .ok (.pop, 1) := de9_87 (aL9 (by decide +kernel))
theorem dL_law_551 : decode cL_law 551 = .ok (.aload_n 2, 1) := de9_44 (aL9 (by decide +kernel))
theorem dL_law_552 : decode cL_law 552 = .ok (.invokevirtual 194, 3) := de9_182 (a := 0) (b := 194) (aL9 (by decide +kernel)) (aL9 (by decide +kernel)) (aL9 (by decide +kernel)) (by decide +kernel)
theorem dL_law_555 : decode cL_law 555 = .ok (.pop, 1) := de9_87 (aL9 (by decide +kernel))
theorem dL_law_556 : decode cL_law 556 = .ok (.goto 1343, 3) := de9_167 (a := 5) (b := 63) (aL9 (by decide +kernel)) (aL9 (by decide +kernel)) (aL9 (by decide +kernel)) (by decide +kernel)
theorem dL_law_559 : decode cL_law 559 = .ok (.aload_n 1, 1) := de9_43 (aL9 (by decide +kernel))
theorem dL_law_560 : decode cL_law 560 = .ok (.invokevirtual 195, 3) := de9_182 (a := 0) (b := 195) (aL9 (by decide +kernel)) (aL9 (by decide +kernel)) (aL9 (by decide +kernel)) (by decide +kernel)
theorem dL_law_563 : decode cL_law 563 = .ok (.pop, 1) := de9_87 (aL9 (by decide +kernel))
theorem dL_law_564 : decode cL_law 564 = .ok (.aload_n 2, 1) := de9_44 (aL9 (by decide +kernel))
theorem dL_law_565 : decode cL_law 565 = .ok (.invokevirtual 198, 3) := de9_182 (a := 0) (b := 198) (aL9 (by decide +kernel)) (aL9 (by decide +kernel)) (aL9 (by decide +kernel)) (by decide +kernel)
theorem dL_law_568 : decode cL_law 568 = .ok (.pop, 1) := de9_87 (aL9 (by decide +kernel))
theorem dL_law_569 : decode cL_law 569 = .ok (.goto 1330, 3) := de9_167 (a := 5) (b := 50) (aL9 (by decide +kernel)) (aL9 (by decide +kernel)) (aL9 (by decide +kernel)) (by decide +kernel)
theorem dL_law_572 : decode cL_law 572 = .ok (.aload_n 1, 1) := de9_43 (aL9 (by decide +kernel))
theorem dL_law_573 : decode cL_law 573 = .ok (.aload_n 0, 1) := de9_42 (aL9 (by decide +kernel))
theorem dL_law_574 : decode cL_law 574 = .ok (.iload 4, 2) := de9_21 (aL9 (by decide +kernel)) (aL9 (by decide +kernel))
theorem dL_law_576 : decode cL_law 576 = .ok (.iconst 1, 1) := de9_4 (aL9 (by decide +kernel))
theorem dL_law_577 : decode cL_law 577 = .ok (.iadd, 1) := de9_96 (aL9 (by decide +kernel))
theorem dL_law_578 : decode cL_law 578 = .ok (.iaload, 1) := de9_46 (aL9 (by decide +kernel))
theorem dL_law_579 : decode cL_law 579 = .ok (.aload_n 3, 1) := de9_45 (aL9 (by decide +kernel))
theorem dL_law_580 : decode cL_law 580 = .ok (.invokestatic 199, 3) := de9_184 (a := 0) (b := 199) (aL9 (by decide +kernel)) (aL9 (by decide +kernel)) (aL9 (by decide +kernel)) (by decide +kernel)
theorem dL_law_583 : decode cL_law 583 = .ok (.istore 5, 2) := de9_54 (aL9 (by decide +kernel)) (aL9 (by decide +kernel))
theorem dL_law_585 : decode cL_law 585 = .ok (.aload_n 2, 1) := de9_44 (aL9 (by decide +kernel))
theorem dL_law_586 : decode cL_law 586 = .ok (.aload_n 0, 1) := de9_42 (aL9 (by decide +kernel))
theorem dL_law_587 : decode cL_law 587 = .ok (.iload 4, 2) := de9_21 (aL9 (by decide +kernel)) (aL9 (by decide +kernel))
theorem dL_law_589 : decode cL_law 589 = .ok (.iconst 1, 1) := de9_4 (aL9 (by decide +kernel))
theorem dL_law_590 : decode cL_law 590 = .ok (.iadd, 1) := de9_96 (aL9 (by decide +kernel))
theorem dL_law_591 : decode cL_law 591 = .ok (.iaload, 1) := de9_46 (aL9 (by decide +kernel))
theorem dL_law_592 : decode cL_law 592 = .ok (.invokevirtual 201, 3) := de9_182 (a := 0) (b := 201) (aL9 (by decide +kernel)) (aL9 (by decide +kernel)) (aL9 (by decide +kernel)) (by decide +kernel)
theorem dL_law_595 : decode cL_law 595 = .ok (.istore 6, 2) := de9_54 (aL9 (by decide +kernel)) (aL9 (by decide +kernel))
theorem dL_law_597 : decode cL_law 597 = .ok (.goto 1302, 3) := de9_167 (a := 5) (b := 22) (aL9 (by decide +kernel)) (aL9 (by decide +kernel)) (aL9 (by decide +kernel)) (by decide +kernel)
theorem dL_law_600 : decode cL_law 600 = .ok (.aload_n 1, 1) := de9_43 (aL9 (by decide +kernel))
theorem dL_law_601 : decode cL_law 601 = .ok (.aload_n 0, 1) := de9_42 (aL9 (by decide +kernel))
theorem dL_law_602 : decode cL_law 602 = .ok (.iload 4, 2) := de9_21 (aL9 (by decide +kernel)) (aL9 (by decide +kernel))
theorem dL_law_604 : decode cL_law 604 = .ok (.iconst 1, 1) := de9_4 (aL9 (by decide +kernel))
theorem dL_law_605 : decode cL_law 605 = .ok (.iadd, 1) := de9_96 (aL9 (by decide +kernel))
theorem dL_law_606 : decode cL_law 606 = .ok (.iaload, 1) := de9_46 (aL9 (by decide +kernel))
theorem dL_law_607 : decode cL_law 607 = .ok (.aload_n 3, 1) := de9_45 (aL9 (by decide +kernel))
theorem dL_law_608 : decode cL_law 608 = .ok (.invokestatic 202, 3) := de9_184 (a := 0) (b := 202) (aL9 (by decide +kernel)) (aL9 (by decide +kernel)) (aL9 (by decide +kernel)) (by decide +kernel)
theorem dL_law_611 : decode cL_law 611 = .ok (.istore 5, 2) := de9_54 (aL9 (by decide +kernel)) (aL9 (by decide +kernel))
theorem dL_law_613 : decode cL_law 613 = .ok (.aload_n 2, 1) := de9_44 (aL9 (by decide +kernel))
theorem dL_law_614 : decode cL_law 614 = .ok (.aload_n 0, 1) := de9_42 (aL9 (by decide +kernel))
theorem dL_law_615 : decode cL_law 615 = .ok (.iload 4, 2) := de9_21 (aL9 (by decide +kernel)) (aL9 (by decide +kernel))
theorem dL_law_617 : decode cL_law 617 = .ok (.iconst 1, 1) := de9_4 (aL9 (by decide +kernel))
theorem dL_law_618 : decode cL_law 618 = .ok (.iadd, 1) := de9_96 (aL9 (by decide +kernel))
theorem dL_law_619 : decode cL_law 619 = .ok (.iaload, 1) := de9_46 (aL9 (by decide +kernel))
theorem dL_law_620 : decode cL_law 620 = .ok (.invokevirtual 204, 3) := de9_182 (a := 0) (b := 204) (aL9 (by decide +kernel)) (aL9 (by decide +kernel)) (aL9 (by decide +kernel)) (by decide +kernel)
theorem dL_law_623 : decode cL_law 623 = .ok (.istore 6, 2) := de9_54 (aL9 (by decide +kernel)) (aL9 (by decide +kernel))
theorem dL_law_625 : decode cL_law 625 = .ok (.goto 1274, 3) := de9_167 (a := 4) (b := 250) (aL9 (by decide +kernel)) (aL9 (by decide +kernel)) (aL9 (by decide +kernel)) (by decide +kernel)
theorem dL_law_628 : decode cL_law 628 = .ok (.aload_n 1, 1) := de9_43 (aL9 (by decide +kernel))
theorem dL_law_629 : decode cL_law 629 = .ok (.aload_n 0, 1) := de9_42 (aL9 (by decide +kernel))
theorem dL_law_630 : decode cL_law 630 = .ok (.iload 4, 2) := de9_21 (aL9 (by decide +kernel)) (aL9 (by decide +kernel))
theorem dL_law_632 : decode cL_law 632 = .ok (.iconst 1, 1) := de9_4 (aL9 (by decide +kernel))
theorem dL_law_633 : decode cL_law 633 = .ok (.iadd, 1) := de9_96 (aL9 (by decide +kernel))
theorem dL_law_634 : decode cL_law 634 = .ok (.iaload, 1) := de9_46 (aL9 (by decide +kernel))
theorem dL_law_635 : decode cL_law 635 = .ok (.aload_n 3, 1) := de9_45 (aL9 (by decide +kernel))
theorem dL_law_636 : decode cL_law 636 = .ok (.invokestatic 205, 3) := de9_184 (a := 0) (b := 205) (aL9 (by decide +kernel)) (aL9 (by decide +kernel)) (aL9 (by decide +kernel)) (by decide +kernel)
theorem dL_law_639 : decode cL_law 639 = .ok (.istore 5, 2) := de9_54 (aL9 (by decide +kernel)) (aL9 (by decide +kernel))
theorem dL_law_641 : decode cL_law 641 = .ok (.aload_n 2, 1) := de9_44 (aL9 (by decide +kernel))
theorem dL_law_642 : decode cL_law 642 = .ok (.aload_n 0, 1) := de9_42 (aL9 (by decide +kernel))
theorem dL_law_643 : decode cL_law 643 = .ok (.iload 4, 2) := de9_21 (aL9 (by decide +kernel)) (aL9 (by decide +kernel))
theorem dL_law_645 : decode cL_law 645 = .ok (.iconst 1, 1) := de9_4 (aL9 (by decide +kernel))
theorem dL_law_646 : decode cL_law 646 = .ok (.iadd, 1) := de9_96 (aL9 (by decide +kernel))
theorem dL_law_647 : decode cL_law 647 = .ok (.iaload, 1) := de9_46 (aL9 (by decide +kernel))
theorem dL_law_648 : decode cL_law 648 = .ok (.invokevirtual 207, 3) := de9_182 (a := 0) (b := 207) (aL9 (by decide +kernel)) (aL9 (by decide +kernel)) (aL9 (by decide +kernel)) (by decide +kernel)
theorem dL_law_651 : decode cL_law 651 = .ok (.istore 6, 2) := de9_54 (aL9 (by decide +kernel)) (aL9 (by decide +kernel))
theorem dL_law_653 : decode cL_law 653 = .ok (.goto 1246, 3) := de9_167 (a := 4) (b := 222) (aL9 (by decide +kernel)) (aL9 (by decide +kernel)) (aL9 (by decide +kernel)) (by decide +kernel)
theorem dL_law_656 : decode cL_law 656 = .ok (.aload_n 1, 1) := de9_43 (aL9 (by decide +kernel))
theorem dL_law_657 : decode cL_law 657 = .ok (.aload_n 0, 1) := de9_42 (aL9 (by decide +kernel))
theorem dL_law_658 : decode cL_law 658 = .ok (.iload 4, 2) := de9_21 (aL9 (by decide +kernel)) (aL9 (by decide +kernel))
theorem dL_law_660 : decode cL_law 660 = .ok (.iconst 1, 1) := de9_4 (aL9 (by decide +kernel))
theorem dL_law_661 : decode cL_law 661 = .ok (.iadd, 1) := de9_96 (aL9 (by decide +kernel))
theorem dL_law_662 : decode cL_law 662 = .ok (.iaload, 1) := de9_46 (aL9 (by decide +kernel))
theorem dL_law_663 : decode cL_law 663 = .ok (.aload_n 3, 1) := de9_45 (aL9 (by decide +kernel))
theorem dL_law_664 : decode cL_law 664 = .ok (.invokestatic 208, 3) := de9_184 (a := 0) (b := 208) (aL9 (by decide +kernel)) (aL9 (by decide +kernel)) (aL9 (by decide +kernel)) (by decide +kernel)
theorem dL_law_667 : decode cL_law 667 = .ok (.istore 5, 2) := de9_54 (aL9 (by decide +kernel)) (aL9 (by decide +kernel))
theorem dL_law_669 : decode cL_law 669 = .ok (.aload_n 2, 1) := de9_44 (aL9 (by decide +kernel))
theorem dL_law_670 : decode cL_law 670 = .ok (.aload_n 0, 1) := de9_42 (aL9 (by decide +kernel))
theorem dL_law_671 : decode cL_law 671 = .ok (.iload 4, 2) := de9_21 (aL9 (by decide +kernel)) (aL9 (by decide +kernel))
theorem dL_law_673 : decode cL_law 673 = .ok (.iconst 1, 1) := de9_4 (aL9 (by decide +kernel))
theorem dL_law_674 : decode cL_law 674 = .ok (.iadd, 1) := de9_96 (aL9 (by decide +kernel))
theorem dL_law_675 : decode cL_law 675 = .ok (.iaload, 1) := de9_46 (aL9 (by decide +kernel))
theorem dL_law_676 : decode cL_law 676 = .ok (.invokevirtual 210, 3) := de9_182 (a := 0) (b := 210) (aL9 (by decide +kernel)) (aL9 (by decide +kernel)) (aL9 (by decide +kernel)) (by decide +kernel)
theorem dL_law_679 : decode cL_law 679 = .ok (.istore 6, 2) := de9_54 (aL9 (by decide +kernel)) (aL9 (by decide +kernel))
theorem dL_law_681 : decode cL_law 681 = .ok (.goto 1218, 3) := de9_167 (a := 4) (b := 194) (aL9 (by decide +kernel)) (aL9 (by decide +kernel)) (aL9 (by decide +kernel)) (by decide +kernel)
theorem dL_law_684 : decode cL_law 684 = .ok (.aload_n 1, 1) := de9_43 (aL9 (by decide +kernel))
theorem dL_law_685 : decode cL_law 685 = .ok (.aload_n 0, 1) := de9_42 (aL9 (by decide +kernel))
theorem dL_law_686 : decode cL_law 686 = .ok (.iload 4, 2) := de9_21 (aL9 (by decide +kernel)) (aL9 (by decide +kernel))
theorem dL_law_688 : decode cL_law 688 = .ok (.iconst 1, 1) := de9_4 (aL9 (by decide +kernel))
theorem dL_law_689 : decode cL_law 689 = .ok (.iadd, 1) := de9_96 (aL9 (by decide +kernel))
theorem dL_law_690 : decode cL_law 690 = .ok (.iaload, 1) := de9_46 (aL9 (by decide +kernel))
theorem dL_law_691 : decode cL_law 691 = .ok (.aload_n 3, 1) := de9_45 (aL9 (by decide +kernel))
theorem dL_law_692 : decode cL_law 692 = .ok (.invokestatic 211, 3) := de9_184 (a := 0) (b := 211) (aL9 (by decide +kernel)) (aL9 (by decide +kernel)) (aL9 (by decide +kernel)) (by decide +kernel)
theorem dL_law_695 : decode cL_law 695 = .ok (.istore 5, 2) := de9_54 (aL9 (by decide +kernel)) (aL9 (by decide +kernel))
theorem dL_law_697 : decode cL_law 697 = .ok (.aload_n 2, 1) := de9_44 (aL9 (by decide +kernel))
theorem dL_law_698 : decode cL_law 698 = .ok (.aload_n 0, 1) := de9_42 (aL9 (by decide +kernel))
theorem dL_law_699 : decode cL_law 699 = .ok (.iload 4, 2) := de9_21 (aL9 (by decide +kernel)) (aL9 (by decide +kernel))
theorem dL_law_701 : decode cL_law 701 = .ok (.iconst 1, 1) := de9_4 (aL9 (by decide +kernel))
theorem dL_law_702 : decode cL_law 702 = .ok (.iadd, 1) := de9_96 (aL9 (by decide +kernel))
theorem dL_law_703 : decode cL_law 703 = .ok (.iaload, 1) := de9_46 (aL9 (by decide +kernel))
theorem dL_law_704 : decode cL_law 704 = .ok (.invokevirtual 213, 3) := de9_182 (a := 0) (b := 213) (aL9 (by decide +kernel)) (aL9 (by decide +kernel)) (aL9 (by decide +kernel)) (by decide +kernel)
theorem dL_law_707 : decode cL_law 707 = .ok (.istore 6, 2) := de9_54 (aL9 (by decide +kernel)) (aL9 (by decide +kernel))
theorem dL_law_709 : decode cL_law 709 = .ok (.goto 1190, 3) := de9_167 (a := 4) (b := 166) (aL9 (by decide +kernel)) (aL9 (by decide +kernel)) (aL9 (by decide +kernel)) (by decide +kernel)
theorem dL_law_712 : decode cL_law 712 = .ok (.aload_n 1, 1) := de9_43 (aL9 (by decide +kernel))
theorem dL_law_713 : decode cL_law 713 = .ok (.aload_n 0, 1) := de9_42 (aL9 (by decide +kernel))
theorem dL_law_714 : decode cL_law 714 = .ok (.iload 4, 2) := de9_21 (aL9 (by decide +kernel)) (aL9 (by decide +kernel))
theorem dL_law_716 : decode cL_law 716 = .ok (.iconst 1, 1) := de9_4 (aL9 (by decide +kernel))
theorem dL_law_717 : decode cL_law 717 = .ok (.iadd, 1) := de9_96 (aL9 (by decide +kernel))
theorem dL_law_718 : decode cL_law 718 = .ok (.iaload, 1) := de9_46 (aL9 (by decide +kernel))
theorem dL_law_719 : decode cL_law 719 = .ok (.aload_n 3, 1) := de9_45 (aL9 (by decide +kernel))
theorem dL_law_720 : decode cL_law 720 = .ok (.invokestatic 214, 3) := de9_184 (a := 0) (b := 214) (aL9 (by decide +kernel)) (aL9 (by decide +kernel)) (aL9 (by decide +kernel)) (by decide +kernel)
theorem dL_law_723 : decode cL_law 723 = .ok (.istore 5, 2) := de9_54 (aL9 (by decide +kernel)) (aL9 (by decide +kernel))
theorem dL_law_725 : decode cL_law 725 = .ok (.aload_n 2, 1) := de9_44 (aL9 (by decide +kernel))
theorem dL_law_726 : decode cL_law 726 = .ok (.aload_n 0, 1) := de9_42 (aL9 (by decide +kernel))
theorem dL_law_727 : decode cL_law 727 = .ok (.iload 4, 2) := de9_21 (aL9 (by decide +kernel)) (aL9 (by decide +kernel))
theorem dL_law_729 : decode cL_law 729 = .ok (.iconst 1, 1) := de9_4 (aL9 (by decide +kernel))
theorem dL_law_730 : decode cL_law 730 = .ok (.iadd, 1) := de9_96 (aL9 (by decide +kernel))
theorem dL_law_731 : decode cL_law 731 = .ok (.iaload, 1) := de9_46 (aL9 (by decide +kernel))
theorem dL_law_732 : decode cL_law 732 = .ok (.invokevirtual 216, 3) := de9_182 (a := 0) (b := 216) (aL9 (by decide +kernel)) (aL9 (by decide +kernel)) (aL9 (by decide +kernel)) (by decide +kernel)
theorem dL_law_735 : decode cL_law 735 = .ok (.istore 6, 2) := de9_54 (aL9 (by decide +kernel)) (aL9 (by decide +kernel))
theorem dL_law_737 : decode cL_law 737 = .ok (.goto 1162, 3) := de9_167 (a := 4) (b := 138) (aL9 (by decide +kernel)) (aL9 (by decide +kernel)) (aL9 (by decide +kernel)) (by decide +kernel)
theorem dL_law_740 : decode cL_law 740 = .ok (.aload_n 1, 1) := de9_43 (aL9 (by decide +kernel))
theorem dL_law_741 : decode cL_law 741 = .ok (.aload_n 0, 1) := de9_42 (aL9 (by decide +kernel))
theorem dL_law_742 : decode cL_law 742 = .ok (.iload 4, 2) := de9_21 (aL9 (by decide +kernel)) (aL9 (by decide +kernel))
theorem dL_law_744 : decode cL_law 744 = .ok (.iconst 1, 1) := de9_4 (aL9 (by decide +kernel))
theorem dL_law_745 : decode cL_law 745 = .ok (.iadd, 1) := de9_96 (aL9 (by decide +kernel))
theorem dL_law_746 : decode cL_law 746 = .ok (.iaload, 1) := de9_46 (aL9 (by decide +kernel))
theorem dL_law_747 : decode cL_law 747 = .ok (.aload_n 3, 1) := de9_45 (aL9 (by decide +kernel))
theorem dL_law_748 : decode cL_law 748 = .ok (.invokestatic 217, 3) := de9_184 (a := 0) (b := 217) (aL9 (by decide +kernel)) (aL9 (by decide +kernel)) (aL9 (by decide +kernel)) (by decide +kernel)
theorem dL_law_751 : decode cL_law 751 = .ok (.istore 5, 2) := de9_54 (aL9 (by decide +kernel)) (aL9 (by decide +kernel))
theorem dL_law_753 : decode cL_law 753 = .ok (.aload_n 2, 1) := de9_44 (aL9 (by decide +kernel))
theorem dL_law_754 : decode cL_law 754 = .ok (.aload_n 0, 1) := de9_42 (aL9 (by decide +kernel))
theorem dL_law_755 : decode cL_law 755 = .ok (.iload 4, 2) := de9_21 (aL9 (by decide +kernel)) (aL9 (by decide +kernel))
theorem dL_law_757 : decode cL_law 757 = .ok (.iconst 1, 1) := de9_4 (aL9 (by decide +kernel))
theorem dL_law_758 : decode cL_law 758 = .ok (.iadd, 1) := de9_96 (aL9 (by decide +kernel))
theorem dL_law_759 : decode cL_law 759 = .ok (.iaload, 1) := de9_46 (aL9 (by decide +kernel))
theorem dL_law_760 : decode cL_law 760 = .ok (.invokevirtual 219, 3) := de9_182 (a := 0) (b := 219) (aL9 (by decide +kernel)) (aL9 (by decide +kernel)) (aL9 (by decide +kernel)) (by decide +kernel)
theorem dL_law_763 : decode cL_law 763 = .ok (.istore 6, 2) := de9_54 (aL9 (by decide +kernel)) (aL9 (by decide +kernel))
theorem dL_law_765 : decode cL_law 765 = .ok (.goto 1134, 3) := de9_167 (a := 4) (b := 110) (aL9 (by decide +kernel)) (aL9 (by decide +kernel)) (aL9 (by decide +kernel)) (by decide +kernel)
theorem dL_law_768 : decode cL_law 768 = .ok (.aload_n 1, 1) := de9_43 (aL9 (by decide +kernel))
theorem dL_law_769 : decode cL_law 769 = .ok (.aload_n 0, 1) := de9_42 (aL9 (by decide +kernel))
theorem dL_law_770 : decode cL_law 770 = .ok (.iload 4, 2) := de9_21 (aL9 (by decide +kernel)) (aL9 (by decide +kernel))
theorem dL_law_772 : decode cL_law 772 = .ok (.iconst 1, 1) := de9_4 (aL9 (by decide +kernel))
theorem dL_law_773 : decode cL_law 773 = .ok (.iadd, 1) := de9_96 (aL9 (by decide +kernel))
theorem dL_law_774 : decode cL_law 774 = .ok (.iaload, 1) := de9_46 (aL9 (by decide +kernel))
theorem dL_law_775 : decode cL_law 775 = .ok (.aload_n 3, 1) := de9_45 (aL9 (by decide +kernel))
theorem dL_law_776 : decode cL_law 776 = .ok (.invokestatic 220, 3) := de9_184 (a := 0) (b := 220) (aL9 (by decide +kernel)) (aL9 (by decide +kernel)) (aL9 (by decide +kernel)) (by decide +kernel)
theorem dL_law_779 : decode cL_law 779 = .ok (.istore 5, 2) := de9_54 (aL9 (by decide +kernel)) (aL9 (by decide +kernel))
theorem dL_law_781 : decode cL_law 781 = .ok (.aload_n 2, 1) := de9_44 (aL9 (by decide +kernel))
theorem dL_law_782 : decode cL_law 782 = .ok (.aload_n 0, 1) := de9_42 (aL9 (by decide +kernel))
theorem dL_law_783 : decode cL_law 783 = .ok (.iload 4, 2) := de9_21 (aL9 (by decide +kernel)) (aL9 (by decide +kernel))
theorem dL_law_785 : decode cL_law 785 = .ok (.iconst 1, 1) := de9_4 (aL9 (by decide +kernel))
theorem dL_law_786 : decode cL_law 786 = .ok (.iadd, 1) := de9_96 (aL9 (by decide +kernel))
theorem dL_law_787 : decode cL_law 787 = .ok (.iaload, 1) := de9_46 (aL9 (by decide +kernel))
theorem dL_law_788 : decode cL_law 788 = .ok (.invokevirtual 222, 3) := de9_182 (a := 0) (b := 222) (aL9 (by decide +kernel)) (aL9 (by decide +kernel)) (aL9 (by decide +kernel)) (by decide +kernel)
theorem dL_law_791 : decode cL_law 791 = .ok (.istore 6, 2) := de9_54 (aL9 (by decide +kernel)) (aL9 (by decide +kernel))
theorem dL_law_793 : decode cL_law 793 = .ok (.goto 1106, 3) := de9_167 (a := 4) (b := 82) (aL9 (by decide +kernel)) (aL9 (by decide +kernel)) (aL9 (by decide +kernel)) (by decide +kernel)
theorem dL_law_796 : decode cL_law 796 = .ok (.aload_n 1, 1) := de9_43 (aL9 (by decide +kernel))
theorem dL_law_797 : decode cL_law 797 = .ok (.aload_n 0, 1) := de9_42 (aL9 (by decide +kernel))
theorem dL_law_798 : decode cL_law 798 = .ok (.iload 4, 2) := de9_21 (aL9 (by decide +kernel)) (aL9 (by decide +kernel))
theorem dL_law_800 : decode cL_law 800 = .ok (.iconst 1, 1) := de9_4 (aL9 (by decide +kernel))
theorem dL_law_801 : decode cL_law 801 = .ok (.iadd, 1) := de9_96 (aL9 (by decide +kernel))
theorem dL_law_802 : decode cL_law 802 = .ok (.iaload, 1) := de9_46 (aL9 (by decide +kernel))
theorem dL_law_803 : decode cL_law 803 = .ok (.aload_n 3, 1) := de9_45 (aL9 (by decide +kernel))
theorem dL_law_804 : decode cL_law 804 = .ok (.invokestatic 223, 3) := de9_184 (a := 0) (b := 223) (aL9 (by decide +kernel)) (aL9 (by decide +kernel)) (aL9 (by decide +kernel)) (by decide +kernel)
theorem dL_law_807 : decode cL_law 807 = .ok (.istore 5, 2) := de9_54 (aL9 (by decide +kernel)) (aL9 (by decide +kernel))
theorem dL_law_809 : decode cL_law 809 = .ok (.aload_n 2, 1) := de9_44 (aL9 (by decide +kernel))
theorem dL_law_810 : decode cL_law 810 = .ok (.aload_n 0, 1) := de9_42 (aL9 (by decide +kernel))
theorem dL_law_811 : decode cL_law 811 = .ok (.iload 4, 2) := de9_21 (aL9 (by decide +kernel)) (aL9 (by decide +kernel))
theorem dL_law_813 : decode cL_law 813 = .ok (.iconst 1, 1) := de9_4 (aL9 (by decide +kernel))
theorem dL_law_814 : decode cL_law 814 = .ok (.iadd, 1) := de9_96 (aL9 (by decide +kernel))
theorem dL_law_815 : decode cL_law 815 = .ok (.iaload, 1) := de9_46 (aL9 (by decide +kernel))
theorem dL_law_816 : decode cL_law 816 = .ok (.invokevirtual 225, 3) := de9_182 (a := 0) (b := 225) (aL9 (by decide +kernel)) (aL9 (by decide +kernel)) (aL9 (by decide +kernel)) (by decide +kernel)
theorem dL_law_819 : decode cL_law 819 = .ok (.istore 6, 2) := de9_54 (aL9 (by decide +kernel)) (aL9 (by decide +kernel))
theorem dL_law_821 : decode cL_law 821 = .ok (.goto 1078, 3) := de9_167 (a := 4) (b := 54) (aL9 (by decide +kernel)) (aL9 (by decide +kernel)) (aL9 (by decide +kernel)) (by decide +kernel)
theorem dL_law_824 : decode cL_law 824 = .ok (.aload_n 1, 1) := de9_43 (aL9 (by decide +kernel))
theorem dL_law_825 : decode cL_law 825 = .ok (.aload_n 0, 1) := de9_42 (aL9 (by decide +kernel))
theorem dL_law_826 : decode cL_law 826 = .ok (.iload 4, 2) := de9_21 (aL9 (by decide +kernel)) (aL9 (by decide +kernel))
theorem dL_law_828 : decode cL_law 828 = .ok (.iconst 1, 1) := de9_4 (aL9 (by decide +kernel))
theorem dL_law_829 : decode cL_law 829 = .ok (.iadd, 1) := de9_96 (aL9 (by decide +kernel))
theorem dL_law_830 : decode cL_law 830 = .ok (.iaload, 1) := de9_46 (aL9 (by decide +kernel))
theorem dL_law_831 : decode cL_law 831 = .ok (.aload_n 3, 1) := de9_45 (aL9 (by decide +kernel))
theorem dL_law_832 : decode cL_law 832 = .ok (.invokestatic 226, 3) := de9_184 (a := 0) (b := 226) (aL9 (by decide +kernel)) (aL9 (by decide +kernel)) (aL9 (by decide +kernel)) (by decide +kernel)
theorem dL_law_835 : decode cL_law 835 = .ok (.istore 5, 2) := de9_54 (aL9 (by decide +kernel)) (aL9 (by decide +kernel))
theorem dL_law_837 : decode cL_law 837 = .ok (.aload_n 2, 1) := de9_44 (aL9 (by decide +kernel))
theorem dL_law_838 : decode cL_law 838 = .ok (.aload_n 0, 1) := de9_42 (aL9 (by decide +kernel))
theorem dL_law_839 : decode cL_law 839 = .ok (.iload 4, 2) := de9_21 (aL9 (by decide +kernel)) (aL9 (by decide +kernel))
theorem dL_law_841 : decode cL_law 841 = .ok (.iconst 1, 1) := de9_4 (aL9 (by decide +kernel))
theorem dL_law_842 : decode cL_law 842 = .ok (.iadd, 1) := de9_96 (aL9 (by decide +kernel))
theorem dL_law_843 : decode cL_law 843 = .ok (.iaload, 1) := de9_46 (aL9 (by decide +kernel))
theorem dL_law_844 : decode cL_law 844 = .ok (.invokevirtual 228, 3) := de9_182 (a := 0) (b := 228) (aL9 (by decide +kernel)) (aL9 (by decide +kernel)) (aL9 (by decide +kernel)) (by decide +kernel)
theorem dL_law_847 : decode cL_law 847 = .ok (.istore 6, 2) := de9_54 (aL9 (by decide +kernel)) (aL9 (by decide +kernel))
theorem dL_law_849 : decode cL_law 849 = .ok (.goto 1050, 3) := de9_167 (a := 4) (b := 26) (aL9 (by decide +kernel)) (aL9 (by decide +kernel)) (aL9 (by decide +kernel)) (by decide +kernel)
theorem dL_law_852 : decode cL_law 852 = .ok (.aload_n 1, 1) := de9_43 (aL9 (by decide +kernel))
theorem dL_law_853 : decode cL_law 853 = .ok (.aload_n 0, 1) := de9_42 (aL9 (by decide +kernel))
theorem dL_law_854 : decode cL_law 854 = .ok (.iload 4, 2) := de9_21 (aL9 (by decide +kernel)) (aL9 (by decide +kernel))
theorem dL_law_856 : decode cL_law 856 = .ok (.iconst 1, 1) := de9_4 (aL9 (by decide +kernel))
theorem dL_law_857 : decode cL_law 857 = .ok (.iadd, 1) := de9_96 (aL9 (by decide +kernel))
theorem dL_law_858 : decode cL_law 858 = .ok (.iaload, 1) := de9_46 (aL9 (by decide +kernel))
theorem dL_law_859 : decode cL_law 859 = .ok (.aload_n 3, 1) := de9_45 (aL9 (by decide +kernel))
theorem dL_law_860 : decode cL_law 860 = .ok (.invokestatic 229, 3) := de9_184 (a := 0) (b := 229) (aL9 (by decide +kernel)) (aL9 (by decide +kernel)) (aL9 (by decide +kernel)) (by decide +kernel)
theorem dL_law_863 : decode cL_law 863 = .ok (.istore 5, 2) := de9_54 (aL9 (by decide +kernel)) (aL9 (by decide +kernel))
theorem dL_law_865 : decode cL_law 865 = .ok (.aload_n 2, 1) := de9_44 (aL9 (by decide +kernel))
theorem dL_law_866 : decode cL_law 866 = .ok (.aload_n 0, 1) := de9_42 (aL9 (by decide +kernel))
theorem dL_law_867 : decode cL_law 867 = .ok (.iload 4, 2) := de9_21 (aL9 (by decide +kernel)) (aL9 (by decide +kernel))
theorem dL_law_869 : decode cL_law 869 = .ok (.iconst 1, 1) := de9_4 (aL9 (by decide +kernel))
theorem dL_law_870 : decode cL_law 870 = .ok (.iadd, 1) := de9_96 (aL9 (by decide +kernel))
theorem dL_law_871 : decode cL_law 871 = .ok (.iaload, 1) := de9_46 (aL9 (by decide +kernel))
theorem dL_law_872 : decode cL_law 872 = .ok (.invokevirtual 231, 3) := de9_182 (a := 0) (b := 231) (aL9 (by decide +kernel)) (aL9 (by decide +kernel)) (aL9 (by decide +kernel)) (by decide +kernel)
theorem dL_law_875 : decode cL_law 875 = .ok (.istore 6, 2) := de9_54 (aL9 (by decide +kernel)) (aL9 (by decide +kernel))
theorem dL_law_877 : decode cL_law 877 = .ok (.goto 1022, 3) := de9_167 (a := 3) (b := 254) (aL9 (by decide +kernel)) (aL9 (by decide +kernel)) (aL9 (by decide +kernel)) (by decide +kernel)
theorem dL_law_880 : decode cL_law 880 = .ok (.aload_n 1, 1) := de9_43 (aL9 (by decide +kernel))
theorem dL_law_881 : decode cL_law 881 = .ok (.aload_n 0, 1) := de9_42 (aL9 (by decide +kernel))
theorem dL_law_882 : decode cL_law 882 = .ok (.iload 4, 2) := de9_21 (aL9 (by decide +kernel)) (aL9 (by decide +kernel))
theorem dL_law_884 : decode cL_law 884 = .ok (.iconst 1, 1) := de9_4 (aL9 (by decide +kernel))
theorem dL_law_885 : decode cL_law 885 = .ok (.iadd, 1) := de9_96 (aL9 (by decide +kernel))
theorem dL_law_886 : decode cL_law 886 = .ok (.iaload, 1) := de9_46 (aL9 (by decide +kernel))
theorem dL_law_887 : decode cL_law 887 = .ok (.aload_n 3, 1) := de9_45 (aL9 (by decide +kernel))
theorem dL_law_888 : decode cL_law 888 = .ok (.invokestatic 232, 3) := de9_184 (a := 0) (b := 232) (aL9 (by decide +kernel)) (aL9 (by decide +kernel)) (aL9 (by decide +kernel)) (by decide +kernel)
theorem dL_law_891 : decode cL_law 891 = .ok (.istore 5, 2) := de9_54 (aL9 (by decide +kernel)) (aL9 (by decide +kernel))
theorem dL_law_893 : decode cL_law 893 = .ok (.aload_n 2, 1) := de9_44 (aL9 (by decide +kernel))
theorem dL_law_894 : decode cL_law 894 = .ok (.aload_n 0, 1) := de9_42 (aL9 (by decide +kernel))
theorem dL_law_895 : decode cL_law 895 = .ok (.iload 4, 2) := de9_21 (aL9 (by decide +kernel)) (aL9 (by decide +kernel))
theorem dL_law_897 : decode cL_law 897 = .ok (.iconst 1, 1) := de9_4 (aL9 (by decide +kernel))
theorem dL_law_898 : decode cL_law 898 = .ok (.iadd, 1) := de9_96 (aL9 (by decide +kernel))
theorem dL_law_899 : decode cL_law 899 = .ok (.iaload, 1) := de9_46 (aL9 (by decide +kernel))
theorem dL_law_900 : decode cL_law 900 = .ok (.invokevirtual 234, 3) := de9_182 (a := 0) (b := 234) (aL9 (by decide +kernel)) (aL9 (by decide +kernel)) (aL9 (by decide +kernel)) (by decide +kernel)
theorem dL_law_903 : decode cL_law 903 = .ok (.istore 6, 2) := de9_54 (aL9 (by decide +kernel)) (aL9 (by decide +kernel))
theorem dL_law_905 : decode cL_law 905 = .ok (.goto 994, 3) := de9_167 (a := 3) (b := 226) (aL9 (by decide +kernel)) (aL9 (by decide +kernel)) (aL9 (by decide +kernel)) (by decide +kernel)
theorem dL_law_908 : decode cL_law 908 = .ok (.aload_n 1, 1) := de9_43 (aL9 (by decide +kernel))
theorem dL_law_909 : decode cL_law 909 = .ok (.aload_n 0, 1) := de9_42 (aL9 (by decide +kernel))
theorem dL_law_910 : decode cL_law 910 = .ok (.iload 4, 2) := de9_21 (aL9 (by decide +kernel)) (aL9 (by decide +kernel))
theorem dL_law_912 : decode cL_law 912 = .ok (.iconst 1, 1) := de9_4 (aL9 (by decide +kernel))
theorem dL_law_913 : decode cL_law 913 = .ok (.iadd, 1) := de9_96 (aL9 (by decide +kernel))
theorem dL_law_914 : decode cL_law 914 = .ok (.iaload, 1) := de9_46 (aL9 (by decide +kernel))
theorem dL_law_915 : decode cL_law 915 = .ok (.aload_n 0, 1) := de9_42 (aL9 (by decide +kernel))
theorem dL_law_916 : decode cL_law 916 = .ok (.iload 4, 2) := de9_21 (aL9 (by decide +kernel)) (aL9 (by decide +kernel))
theorem dL_law_918 : decode cL_law 918 = .ok (.iconst 2, 1) := de9_5 (aL9 (by decide +kernel))
theorem dL_law_919 : decode cL_law 919 = .ok (.iadd, 1) := de9_96 (aL9 (by decide +kernel))
theorem dL_law_920 : decode cL_law 920 = .ok (.iaload, 1) := de9_46 (aL9 (by decide +kernel))
theorem dL_law_921 : decode cL_law 921 = .ok (.aload_n 3, 1) := de9_45 (aL9 (by decide +kernel))
theorem dL_law_922 : decode cL_law 922 = .ok (.invokestatic 235, 3) := de9_184 (a := 0) (b := 235) (aL9 (by decide +kernel)) (aL9 (by decide +kernel)) (aL9 (by decide +kernel)) (by decide +kernel)
theorem dL_law_925 : decode cL_law 925 = .ok (.istore 5, 2) := de9_54 (aL9 (by decide +kernel)) (aL9 (by decide +kernel))
theorem dL_law_927 : decode cL_law 927 = .ok (.aload_n 2, 1) := de9_44 (aL9 (by decide +kernel))
theorem dL_law_928 : decode cL_law 928 = .ok (.aload_n 0, 1) := de9_42 (aL9 (by decide +kernel))
theorem dL_law_929 : decode cL_law 929 = .ok (.iload 4, 2) := de9_21 (aL9 (by decide +kernel)) (aL9 (by decide +kernel))
theorem dL_law_931 : decode cL_law 931 = .ok (.iconst 1, 1) := de9_4 (aL9 (by decide +kernel))
theorem dL_law_932 : decode cL_law 932 = .ok (.iadd, 1) := de9_96 (aL9 (by decide +kernel))
theorem dL_law_933 : decode cL_law 933 = .ok (.iaload, 1) := de9_46 (aL9 (by decide +kernel))
theorem dL_law_934 : decode cL_law 934 = .ok (.aload_n 0, 1) := de9_42 (aL9 (by decide +kernel))
theorem dL_law_935 : decode cL_law 935 = .ok (.iload 4, 2) := de9_21 (aL9 (by decide +kernel)) (aL9 (by decide +kernel))
theorem dL_law_937 : decode cL_law 937 = .ok (.iconst 2, 1) := de9_5 (aL9 (by decide +kernel))
theorem dL_law_938 : decode cL_law 938 = .ok (.iadd, 1) := de9_96 (aL9 (by decide +kernel))
theorem dL_law_939 : decode cL_law 939 = .ok (.iaload, 1) := de9_46 (aL9 (by decide +kernel))
theorem dL_law_940 : decode cL_law 940 = .ok (.invokevirtual 238, 3) := de9_182 (a := 0) (b := 238) (aL9 (by decide +kernel)) (aL9 (by decide +kernel)) (aL9 (by decide +kernel)) (by decide +kernel)
theorem dL_law_943 : decode cL_law 943 = .ok (.istore 6, 2) := de9_54 (aL9 (by decide +kernel)) (aL9 (by decide +kernel))
theorem dL_law_945 : decode cL_law 945 = .ok (.goto 954, 3) := de9_167 (a := 3) (b := 186) (aL9 (by decide +kernel)) (aL9 (by decide +kernel)) (aL9 (by decide +kernel)) (by decide +kernel)
theorem dL_law_948 : decode cL_law 948 = .ok (.aload_n 1, 1) := de9_43 (aL9 (by decide +kernel))
theorem dL_law_949 : decode cL_law 949 = .ok (.aload_n 0, 1) := de9_42 (aL9 (by decide +kernel))
theorem dL_law_950 : decode cL_law 950 = .ok (.iload 4, 2) := de9_21 (aL9 (by decide +kernel)) (aL9 (by decide +kernel))
theorem dL_law_952 : decode cL_law 952 = .ok (.iconst 1, 1) := de9_4 (aL9 (by decide +kernel))
theorem dL_law_953 : decode cL_law 953 = .ok (.iadd, 1) := de9_96 (aL9 (by decide +kernel))
theorem dL_law_954 : decode cL_law 954 = .ok (.iaload, 1) := de9_46 (aL9 (by decide +kernel))
theorem dL_law_955 : decode cL_law 955 = .ok (.aload_n 0, 1) := de9_42 (aL9 (by decide +kernel))
theorem dL_law_956 : decode cL_law 956 = .ok (.iload 4, 2) := de9_21 (aL9 (by decide +kernel)) (aL9 (by decide +kernel))
theorem dL_law_958 : decode cL_law 958 = .ok (.iconst 2, 1) := de9_5 (aL9 (by decide +kernel))
theorem dL_law_959 : decode cL_law 959 = .ok (.iadd, 1) := de9_96 (aL9 (by decide +kernel))
theorem dL_law_960 : decode cL_law 960 = .ok (.iaload, 1) := de9_46 (aL9 (by decide +kernel))
theorem dL_law_961 : decode cL_law 961 = .ok (.aload_n 3, 1) := de9_45 (aL9 (by decide +kernel))
theorem dL_law_962 : decode cL_law 962 = .ok (.invokestatic 239, 3) := de9_184 (a := 0) (b := 239) (aL9 (by decide +kernel)) (aL9 (by decide +kernel)) (aL9 (by decide +kernel)) (by decide +kernel)
theorem dL_law_965 : decode cL_law 965 = .ok (.istore 5, 2) := de9_54 (aL9 (by decide +kernel)) (aL9 (by decide +kernel))
theorem dL_law_967 : decode cL_law 967 = .ok (.aload_n 2, 1) := de9_44 (aL9 (by decide +kernel))
theorem dL_law_968 : decode cL_law 968 = .ok (.aload_n 0, 1) := de9_42 (aL9 (by decide +kernel))
theorem dL_law_969 : decode cL_law 969 = .ok (.iload 4, 2) := de9_21 (aL9 (by decide +kernel)) (aL9 (by decide +kernel))
theorem dL_law_971 : decode cL_law 971 = .ok (.iconst 1, 1) := de9_4 (aL9 (by decide +kernel))
theorem dL_law_972 : decode cL_law 972 = .ok (.iadd, 1) := de9_96 (aL9 (by decide +kernel))
theorem dL_law_973 : decode cL_law 973 = .ok (.iaload, 1) := de9_46 (aL9 (by decide +kernel))
theorem dL_law_974 : decode cL_law 974 = .ok (.aload_n 0, 1) := de9_42 (aL9 (by decide +kernel))
theorem dL_law_975 : decode cL_law 975 = .ok (.iload 4, 2) := de9_21 (aL9 (by decide +kernel)) (aL9 (by decide +kernel))
theorem dL_law_977 : decode cL_law 977 = .ok (.iconst 2, 1) := de9_5 (aL9 (by decide +kernel))
theorem dL_law_978 : decode cL_law 978 = .ok (.iadd, 1) := de9_96 (aL9 (by decide +kernel))
theorem dL_law_979 : decode cL_law 979 = .ok (.iaload, 1) := de9_46 (aL9 (by decide +kernel))
theorem dL_law_980 : decode cL_law 980 = .ok (.invokevirtual 241, 3) := de9_182 (a := 0) (b := 241) (aL9 (by decide +kernel)) (aL9 (by decide +kernel)) (aL9 (by decide +kernel)) (by decide +kernel)
theorem dL_law_983 : decode cL_law 983 = .ok (.istore 6, 2) := de9_54 (aL9 (by decide +kernel)) (aL9 (by decide +kernel))
theorem dL_law_985 : decode cL_law 985 = .ok (.goto 914, 3) := de9_167 (a := 3) (b := 146) (aL9 (by decide +kernel)) (aL9 (by decide +kernel)) (aL9 (by decide +kernel)) (by decide +kernel)
theorem dL_law_988 : decode cL_law 988 = .ok (.aload_n 1, 1) := de9_43 (aL9 (by decide +kernel))
theorem dL_law_989 : decode cL_law 989 = .ok (.aload_n 0, 1) := de9_42 (aL9 (by decide +kernel))
theorem dL_law_990 : decode cL_law 990 = .ok (.iload 4, 2) := de9_21 (aL9 (by decide +kernel)) (aL9 (by decide +kernel))
theorem dL_law_992 : decode cL_law 992 = .ok (.iconst 1, 1) := de9_4 (aL9 (by decide +kernel))
theorem dL_law_993 : decode cL_law 993 = .ok (.iadd, 1) := de9_96 (aL9 (by decide +kernel))
theorem dL_law_994 : decode cL_law 994 = .ok (.iaload, 1) := de9_46 (aL9 (by decide +kernel))
theorem dL_law_995 : decode cL_law 995 = .ok (.aload_n 0, 1) := de9_42 (aL9 (by decide +kernel))
theorem dL_law_996 : decode cL_law 996 = .ok (.iload 4, 2) := de9_21 (aL9 (by decide +kernel)) (aL9 (by decide +kernel))
theorem dL_law_998 : decode cL_law 998 = .ok (.iconst 2, 1) := de9_5 (aL9 (by decide +kernel))
theorem dL_law_999 : decode cL_law 999 = .ok (.iadd, 1) := de9_96 (aL9 (by decide +kernel))
theorem dL_law_1000 : decode cL_law 1000 = .ok (.iaload, 1) := de9_46 (aL9 (by decide +kernel))
theorem dL_law_1001 : decode cL_law 1001 = .ok (.aload_n 3, 1) := de9_45 (aL9 (by decide +kernel))
theorem dL_law_1002 : decode cL_law 1002 = .ok (.invokestatic 242, 3) := de9_184 (a := 0) (b := 242) (aL9 (by decide +kernel)) (aL9 (by decide +kernel)) (aL9 (by decide +kernel)) (by decide +kernel)
theorem dL_law_1005 : decode cL_law 1005 = .ok (.istore 5, 2) := de9_54 (aL9 (by decide +kernel)) (aL9 (by decide +kernel))
theorem dL_law_1007 : decode cL_law 1007 = .ok (.aload_n 2, 1) := de9_44 (aL9 (by decide +kernel))
theorem dL_law_1008 : decode cL_law 1008 = .ok (.aload_n 0, 1) := de9_42 (aL9 (by decide +kernel))
theorem dL_law_1009 : decode cL_law 1009 = .ok (.iload 4, 2) := de9_21 (aL9 (by decide +kernel)) (aL9 (by decide +kernel))
theorem dL_law_1011 : decode cL_law 1011 = .ok (.iconst 1, 1) := de9_4 (aL9 (by decide +kernel))
theorem dL_law_1012 : decode cL_law 1012 = .ok (.iadd, 1) := de9_96 (aL9 (by decide +kernel))
theorem dL_law_1013 : decode cL_law 1013 = .ok (.iaload, 1) := de9_46 (aL9 (by decide +kernel))
theorem dL_law_1014 : decode cL_law 1014 = .ok (.aload_n 0, 1) := de9_42 (aL9 (by decide +kernel))
theorem dL_law_1015 : decode cL_law 1015 = .ok (.iload 4, 2) := de9_21 (aL9 (by decide +kernel)) (aL9 (by decide +kernel))
theorem dL_law_1017 : decode cL_law 1017 = .ok (.iconst 2, 1) := de9_5 (aL9 (by decide +kernel))
theorem dL_law_1018 : decode cL_law 1018 = .ok (.iadd, 1) := de9_96 (aL9 (by decide +kernel))
theorem dL_law_1019 : decode cL_law 1019 = .ok (.iaload, 1) := de9_46 (aL9 (by decide +kernel))
theorem dL_law_1020 : decode cL_law 1020 = .ok (.invokevirtual 244, 3) := de9_182 (a := 0) (b := 244) (aL9 (by decide +kernel)) (aL9 (by decide +kernel)) (aL9 (by decide +kernel)) (by decide +kernel)
theorem dL_law_1023 : decode cL_law 1023 = .ok (.istore 6, 2) := de9_54 (aL9 (by decide +kernel)) (aL9 (by decide +kernel))
theorem dL_law_1025 : decode cL_law 1025 = .ok (.goto 874, 3) := de9_167 (a := 3) (b := 106) (aL9 (by decide +kernel)) (aL9 (by decide +kernel)) (aL9 (by decide +kernel)) (by decide +kernel)
theorem dL_law_1028 : decode cL_law 1028 = .ok (.aload_n 1, 1) := de9_43 (aL9 (by decide +kernel))
theorem dL_law_1029 : decode cL_law 1029 = .ok (.aload_n 0, 1) := de9_42 (aL9 (by decide +kernel))
theorem dL_law_1030 : decode cL_law 1030 = .ok (.iload 4, 2) := de9_21 (aL9 (by decide +kernel)) (aL9 (by decide +kernel))
theorem dL_law_1032 : decode cL_law 1032 = .ok (.iconst 1, 1) := de9_4 (aL9 (by decide +kernel))
theorem dL_law_1033 : decode cL_law 1033 = .ok (.iadd, 1) := de9_96 (aL9 (by decide +kernel))
theorem dL_law_1034 : decode cL_law 1034 = .ok (.iaload, 1) := de9_46 (aL9 (by decide +kernel))
theorem dL_law_1035 : decode cL_law 1035 = .ok (.aload_n 0, 1) := de9_42 (aL9 (by decide +kernel))
theorem dL_law_1036 : decode cL_law 1036 = .ok (.iload 4, 2) := de9_21 (aL9 (by decide +kernel)) (aL9 (by decide +kernel))
theorem dL_law_1038 : decode cL_law 1038 = .ok (.iconst 2, 1) := de9_5 (aL9 (by decide +kernel))
theorem dL_law_1039 : decode cL_law 1039 = .ok (.iadd, 1) := de9_96 (aL9 (by decide +kernel))
theorem dL_law_1040 : decode cL_law 1040 = .ok (.iaload, 1) := de9_46 (aL9 (by decide +kernel))
theorem dL_law_1041 : decode cL_law 1041 = .ok (.aload_n 3, 1) := de9_45 (aL9 (by decide +kernel))
theorem dL_law_1042 : decode cL_law 1042 = .ok (.invokestatic 245, 3) := de9_184 (a := 0) (b := 245) (aL9 (by decide +kernel)) (aL9 (by decide +kernel)) (aL9 (by decide +kernel)) (by decide +kernel)
theorem dL_law_1045 : decode cL_law 1045 = .ok (.istore 5, 2) := de9_54 (aL9 (by decide +kernel)) (aL9 (by decide +kernel))
theorem dL_law_1047 : decode cL_law 1047 = .ok (.aload_n 2, 1) := de9_44 (aL9 (by decide +kernel))
theorem dL_law_1048 : decode cL_law 1048 = .ok (.aload_n 0, 1) := de9_42 (aL9 (by decide +kernel))
theorem dL_law_1049 : decode cL_law 1049 = .ok (.iload 4, 2) := de9_21 (aL9 (by decide +kernel)) (aL9 (by decide +kernel))
theorem dL_law_1051 : decode cL_law 1051 = .ok (.iconst 1, 1) := de9_4 (aL9 (by decide +kernel))
theorem dL_law_1052 : decode cL_law 1052 = .ok (.iadd, 1) := de9_96 (aL9 (by decide +kernel))
theorem dL_law_1053 : decode cL_law 1053 = .ok (.iaload, 1) := de9_46 (aL9 (by decide +kernel))
theorem dL_law_1054 : decode cL_law 1054 = .ok (.aload_n 0, 1) := de9_42 (aL9 (by decide +kernel))
theorem dL_law_1055 : decode cL_law 1055 = .ok (.iload 4, 2) := de9_21 (aL9 (by decide +kernel)) (aL9 (by decide +kernel))
theorem dL_law_1057 : decode cL_law 1057 = .ok (.iconst 2, 1) := de9_5 (aL9 (by decide +kernel))
theorem dL_law_1058 : decode cL_law 1058 = .ok (.iadd, 1) := de9_96 (aL9 (by decide +kernel))
theorem dL_law_1059 : decode cL_law 1059 = .ok (.iaload, 1) := de9_46 (aL9 (by decide +kernel))
theorem dL_law_1060 : decode cL_law 1060 = .ok (.invokevirtual 247, 3) := de9_182 (a := 0) (b := 247) (aL9 (by decide +kernel)) (aL9 (by decide +kernel)) (aL9 (by decide +kernel)) (by decide +kernel)
theorem dL_law_1063 : decode cL_law 1063 = .ok (.istore 6, 2) := de9_54 (aL9 (by decide +kernel)) (aL9 (by decide +kernel))
theorem dL_law_1065 : decode cL_law 1065 = .ok (.goto 834, 3) := de9_167 (a := 3) (b := 66) (aL9 (by decide +kernel)) (aL9 (by decide +kernel)) (aL9 (by decide +kernel)) (by decide +kernel)
theorem dL_law_1068 : decode cL_law 1068 = .ok (.aload_n 1, 1) := de9_43 (aL9 (by decide +kernel))
theorem dL_law_1069 : decode cL_law 1069 = .ok (.aload_n 0, 1) := de9_42 (aL9 (by decide +kernel))
theorem dL_law_1070 : decode cL_law 1070 = .ok (.iload 4, 2) := de9_21 (aL9 (by decide +kernel)) (aL9 (by decide +kernel))
theorem dL_law_1072 : decode cL_law 1072 = .ok (.iconst 1, 1) := de9_4 (aL9 (by decide +kernel))
theorem dL_law_1073 : decode cL_law 1073 = .ok (.iadd, 1) := de9_96 (aL9 (by decide +kernel))
theorem dL_law_1074 : decode cL_law 1074 = .ok (.iaload, 1) := de9_46 (aL9 (by decide +kernel))
theorem dL_law_1075 : decode cL_law 1075 = .ok (.aload_n 0, 1) := de9_42 (aL9 (by decide +kernel))
theorem dL_law_1076 : decode cL_law 1076 = .ok (.iload 4, 2) := de9_21 (aL9 (by decide +kernel)) (aL9 (by decide +kernel))
theorem dL_law_1078 : decode cL_law 1078 = .ok (.iconst 2, 1) := de9_5 (aL9 (by decide +kernel))
theorem dL_law_1079 : decode cL_law 1079 = .ok (.iadd, 1) := de9_96 (aL9 (by decide +kernel))
theorem dL_law_1080 : decode cL_law 1080 = .ok (.iaload, 1) := de9_46 (aL9 (by decide +kernel))
theorem dL_law_1081 : decode cL_law 1081 = .ok (.aload_n 3, 1) := de9_45 (aL9 (by decide +kernel))
theorem dL_law_1082 : decode cL_law 1082 = .ok (.invokestatic 248, 3) := de9_184 (a := 0) (b := 248) (aL9 (by decide +kernel)) (aL9 (by decide +kernel)) (aL9 (by decide +kernel)) (by decide +kernel)
theorem dL_law_1085 : decode cL_law 1085 = .ok (.istore 5, 2) := de9_54 (aL9 (by decide +kernel)) (aL9 (by decide +kernel))
theorem dL_law_1087 : decode cL_law 1087 = .ok (.aload_n 2, 1) := de9_44 (aL9 (by decide +kernel))
theorem dL_law_1088 : decode cL_law 1088 = .ok (.aload_n 0, 1) := de9_42 (aL9 (by decide +kernel))
theorem dL_law_1089 : decode cL_law 1089 = .ok (.iload 4, 2) := de9_21 (aL9 (by decide +kernel)) (aL9 (by decide +kernel))
theorem dL_law_1091 : decode cL_law 1091 = .ok (.iconst 1, 1) := de9_4 (aL9 (by decide +kernel))
theorem dL_law_1092 : decode cL_law 1092 = .ok (.iadd, 1) := de9_96 (aL9 (by decide +kernel))
theorem dL_law_1093 : decode cL_law 1093 = .ok (.iaload, 1) := de9_46 (aL9 (by decide +kernel))
theorem dL_law_1094 : decode cL_law 1094 = .ok (.aload_n 0, 1) := de9_42 (aL9 (by decide +kernel))
theorem dL_law_1095 : decode cL_law 1095 = .ok (.iload 4, 2) := de9_21 (aL9 (by decide +kernel)) (aL9 (by decide +kernel))
theorem dL_law_1097 : decode cL_law 1097 = .ok (.iconst 2, 1) := de9_5 (aL9 (by decide +kernel))
theorem dL_law_1098 : decode cL_law 1098 = .ok (.iadd, 1) := de9_96 (aL9 (by decide +kernel))
theorem dL_law_1099 : decode cL_law 1099 = .ok (.iaload, 1) := de9_46 (aL9 (by decide +kernel))
theorem dL_law_1100 : decode cL_law 1100 = .ok (.invokevirtual 250, 3) := de9_182 (a := 0) (b := 250) (aL9 (by decide +kernel)) (aL9 (by decide +kernel)) (aL9 (by decide +kernel)) (by decide +kernel)
theorem dL_law_1103 : decode cL_law 1103 = .ok (.istore 6, 2) := de9_54 (aL9 (by decide +kernel)) (aL9 (by decide +kernel))
theorem dL_law_1105 : decode cL_law 1105 = .ok (.goto 794, 3) := de9_167 (a := 3) (b := 26) (aL9 (by decide +kernel)) (aL9 (by decide +kernel)) (aL9 (by decide +kernel)) (by decide +kernel)
theorem dL_law_1108 : decode cL_law 1108 = .ok (.aload_n 1, 1) := de9_43 (aL9 (by decide +kernel))
theorem dL_law_1109 : decode cL_law 1109 = .ok (.aload_n 0, 1) := de9_42 (aL9 (by decide +kernel))
theorem dL_law_1110 : decode cL_law 1110 = .ok (.iload 4, 2) := de9_21 (aL9 (by decide +kernel)) (aL9 (by decide +kernel))
theorem dL_law_1112 : decode cL_law 1112 = .ok (.iconst 1, 1) := de9_4 (aL9 (by decide +kernel))
theorem dL_law_1113 : decode cL_law 1113 = .ok (.iadd, 1) := de9_96 (aL9 (by decide +kernel))
theorem dL_law_1114 : decode cL_law 1114 = .ok (.iaload, 1) := de9_46 (aL9 (by decide +kernel))
theorem dL_law_1115 : decode cL_law 1115 = .ok (.aload_n 0, 1) := de9_42 (aL9 (by decide +kernel))
theorem dL_law_1116 : decode cL_law 1116 = .ok (.iload 4, 2) := de9_21 (aL9 (by decide +kernel)) (aL9 (by decide +kernel))
theorem dL_law_1118 : decode cL_law 1118 = .ok (.iconst 2, 1) := de9_5 (aL9 (by decide +kernel))
theorem dL_law_1119 : decode cL_law 1119 = .ok (.iadd, 1) := de9_96 (aL9 (by decide +kernel))
theorem dL_law_1120 : decode cL_law 1120 = .ok (.iaload, 1) := de9_46 (aL9 (by decide +kernel))
theorem dL_law_1121 : decode cL_law 1121 = .ok (.aload_n 3, 1) := de9_45 (aL9 (by decide +kernel))
theorem dL_law_1122 : decode cL_law 1122 = .ok (.invokestatic 251, 3) := de9_184 (a := 0) (b := 251) (aL9 (by decide +kernel)) (aL9 (by decide +kernel)) (aL9 (by decide +kernel)) (by decide +kernel)
theorem dL_law_1125 : decode cL_law 1125 = .ok (.istore 5, 2) := de9_54 (aL9 (by decide +kernel)) (aL9 (by decide +kernel))
theorem dL_law_1127 : decode cL_law 1127 = .ok (.aload_n 2, 1) := de9_44 (aL9 (by decide +kernel))
theorem dL_law_1128 : decode cL_law 1128 = .ok (.aload_n 0, 1) := de9_42 (aL9 (by decide +kernel))
theorem dL_law_1129 : decode cL_law 1129 = .ok (.iload 4, 2) := de9_21 (aL9 (by decide +kernel)) (aL9 (by decide +kernel))
theorem dL_law_1131 : decode cL_law 1131 = .ok (.iconst 1, 1) := de9_4 (aL9 (by decide +kernel))
theorem dL_law_1132 : decode cL_law 1132 = .ok (.iadd, 1) := de9_96 (aL9 (by decide +kernel))
theorem dL_law_1133 : decode cL_law 1133 = .ok (.iaload, 1) := de9_46 (aL9 (by decide +kernel))
theorem dL_law_1134 : decode cL_law 1134 = .ok (.aload_n 0, 1) := de9_42 (aL9 (by decide +kernel))
theorem dL_law_1135 : decode cL_law 1135 = .ok (.iload 4, 2) := de9_21 (aL9 (by decide +kernel)) (aL9 (by decide +kernel))
theorem dL_law_1137 : decode cL_law 1137 = .ok (.iconst 2, 1) := de9_5 (aL9 (by decide +kernel))
theorem dL_law_1138 : decode cL_law 1138 = .ok (.iadd, 1) := de9_96 (aL9 (by decide +kernel))
theorem dL_law_1139 : decode cL_law 1139 = .ok (.iaload, 1) := de9_46 (aL9 (by decide +kernel))
theorem dL_law_1140 : decode cL_law 1140 = .ok (.invokevirtual 253, 3) := de9_182 (a := 0) (b := 253) (aL9 (by decide +kernel)) (aL9 (by decide +kernel)) (aL9 (by decide +kernel)) (by decide +kernel)
theorem dL_law_1143 : decode cL_law 1143 = .ok (.istore 6, 2) := de9_54 (aL9 (by decide +kernel)) (aL9 (by decide +kernel))
theorem dL_law_1145 : decode cL_law 1145 = .ok (.goto 754, 3) := de9_167 (a := 2) (b := 242) (aL9 (by decide +kernel)) (aL9 (by decide +kernel)) (aL9 (by decide +kernel)) (by decide +kernel)
theorem dL_law_1148 : decode cL_law 1148 = .ok (.aload_n 1, 1) := de9_43 (aL9 (by decide +kernel))
theorem dL_law_1149 : decode cL_law 1149 = .ok (.invokevirtual 254, 3) := de9_182 (a := 0) (b := 254) (aL9 (by decide +kernel)) (aL9 (by decide +kernel)) (aL9 (by decide +kernel)) (by decide +kernel)
theorem dL_law_1152 : decode cL_law 1152 = .ok (.pop, 1) := de9_87 (aL9 (by decide +kernel))
theorem dL_law_1153 : decode cL_law 1153 = .ok (.aload_n 2, 1) := de9_44 (aL9 (by decide +kernel))
theorem dL_law_1154 : decode cL_law 1154 = .ok (.invokevirtual 257, 3) := de9_182 (a := 1) (b := 1) (aL9 (by decide +kernel)) (aL9 (by decide +kernel)) (aL9 (by decide +kernel)) (by decide +kernel)
theorem dL_law_1157 : decode cL_law 1157 = .ok (.pop, 1) := de9_87 (aL9 (by decide +kernel))
theorem dL_law_1158 : decode cL_law 1158 = .ok (.goto 741, 3) := de9_167 (a := 2) (b := 229) (aL9 (by decide +kernel)) (aL9 (by decide +kernel)) (aL9 (by decide +kernel)) (by decide +kernel)
theorem dL_law_1161 : decode cL_law 1161 = .ok (.aload_n 1, 1) := de9_43 (aL9 (by decide +kernel))
theorem dL_law_1162 : decode cL_law 1162 = .ok (.aload_n 0, 1) := de9_42 (aL9 (by decide +kernel))
theorem dL_law_1163 : decode cL_law 1163 = .ok (.iload 4, 2) := de9_21 (aL9 (by decide +kernel)) (aL9 (by decide +kernel))
theorem dL_law_1165 : decode cL_law 1165 = .ok (.iconst 1, 1) := de9_4 (aL9 (by decide +kernel))
theorem dL_law_1166 : decode cL_law 1166 = .ok (.iadd, 1) := de9_96 (aL9 (by decide +kernel))
theorem dL_law_1167 : decode cL_law 1167 = .ok (.iaload, 1) := de9_46 (aL9 (by decide +kernel))
theorem dL_law_1168 : decode cL_law 1168 = .ok (.aload_n 3, 1) := de9_45 (aL9 (by decide +kernel))
theorem dL_law_1169 : decode cL_law 1169 = .ok (.invokestatic 258, 3) := de9_184 (a := 1) (b := 2) (aL9 (by decide +kernel)) (aL9 (by decide +kernel)) (aL9 (by decide +kernel)) (by decide +kernel)
theorem dL_law_1172 : decode cL_law 1172 = .ok (.istore 5, 2) := de9_54 (aL9 (by decide +kernel)) (aL9 (by decide +kernel))
theorem dL_law_1174 : decode cL_law 1174 = .ok (.aload_n 2, 1) := de9_44 (aL9 (by decide +kernel))
theorem dL_law_1175 : decode cL_law 1175 = .ok (.aload_n 0, 1) := de9_42 (aL9 (by decide +kernel))
theorem dL_law_1176 : decode cL_law 1176 = .ok (.iload 4, 2) := de9_21 (aL9 (by decide +kernel)) (aL9 (by decide +kernel))
theorem dL_law_1178 : decode cL_law 1178 = .ok (.iconst 1, 1) := de9_4 (aL9 (by decide +kernel))
theorem dL_law_1179 : decode cL_law 1179 = .ok (.iadd, 1) := de9_96 (aL9 (by decide +kernel))
theorem dL_law_1180 : decode cL_law 1180 = .ok (.iaload, 1) := de9_46 (aL9 (by decide +kernel))
theorem dL_law_1181 : decode cL_law 1181 = .ok (.invokevirtual 260, 3) := de9_182 (a := 1) (b := 4) (aL9 (by decide +kernel)) (aL9 (by decide +kernel)) (aL9 (by decide +kernel)) (by decide +kernel)
theorem dL_law_1184 : decode cL_law 1184 = .ok (.istore 6, 2) := de9_54 (aL9 (by decide +kernel)) (aL9 (by decide +kernel))
theorem dL_law_1186 : decode cL_law 1186 = .ok (.goto 713, 3) := de9_167 (a := 2) (b := 201) (aL9 (by decide +kernel)) (aL9 (by decide +kernel)) (aL9 (by decide +kernel)) (by decide +kernel)
theorem dL_law_1189 : decode cL_law 1189 = .ok (.aload_n 1, 1) := de9_43 (aL9 (by decide +kernel))
theorem dL_law_1190 : decode cL_law 1190 = .ok (.aload_n 0, 1) := de9_42 (aL9 (by decide +kernel))
theorem dL_law_1191 : decode cL_law 1191 = .ok (.iload 4, 2) := de9_21 (aL9 (by decide +kernel)) (aL9 (by decide +kernel))
theorem dL_law_1193 : decode cL_law 1193 = .ok (.iconst 1, 1) := de9_4 (aL9 (by decide +kernel))
theorem dL_law_1194 : decode cL_law 1194 = .ok (.iadd, 1) := de9_96 (aL9 (by decide +kernel))
theorem dL_law_1195 : decode cL_law 1195 = .ok (.iaload, 1) := de9_46 (aL9 (by decide +kernel))
theorem dL_law_1196 : decode cL_law 1196 = .ok (.aload_n 0, 1) := de9_42 (aL9 (by decide +kernel))
theorem dL_law_1197 : decode cL_law 1197 = .ok (.iload 4, 2) := de9_21 (aL9 (by decide +kernel)) (aL9 (by decide +kernel))
theorem dL_law_1199 : decode cL_law 1199 = .ok (.iconst 2, 1) := de9_5 (aL9 (by decide +kernel))
theorem dL_law_1200 : decode cL_law 1200 = .ok (.iadd, 1) := de9_96 (aL9 (by decide +kernel))
theorem dL_law_1201 : decode cL_law 1201 = .ok (.iaload, 1) := de9_46 (aL9 (by decide +kernel))
theorem dL_law_1202 : decode cL_law 1202 = .ok (.aload_n 3, 1) := de9_45 (aL9 (by decide +kernel))
theorem dL_law_1203 : decode cL_law 1203 = .ok (.invokestatic 261, 3) := de9_184 (a := 1) (b := 5) (aL9 (by decide +kernel)) (aL9 (by decide +kernel)) (aL9 (by decide +kernel)) (by decide +kernel)
theorem dL_law_1206 : decode cL_law 1206 = .ok (.istore 5, 2) := de9_54 (aL9 (by decide +kernel)) (aL9 (by decide +kernel))
theorem dL_law_1208 : decode cL_law 1208 = .ok (.aload_n 2, 1) := de9_44 (aL9 (by decide +kernel))
theorem dL_law_1209 : decode cL_law 1209 = .ok (.aload_n 0, 1) := de9_42 (aL9 (by decide +kernel))
theorem dL_law_1210 : decode cL_law 1210 = .ok (.iload 4, 2) := de9_21 (aL9 (by decide +kernel)) (aL9 (by decide +kernel))
theorem dL_law_1212 : decode cL_law 1212 = .ok (.iconst 1, 1) := de9_4 (aL9 (by decide +kernel))
theorem dL_law_1213 : decode cL_law 1213 = .ok (.iadd, 1) := de9_96 (aL9 (by decide +kernel))
theorem dL_law_1214 : decode cL_law 1214 = .ok (.iaload, 1) := de9_46 (aL9 (by decide +kernel))
theorem dL_law_1215 : decode cL_law 1215 = .ok (.aload_n 0, 1) := de9_42 (aL9 (by decide +kernel))
theorem dL_law_1216 : decode cL_law 1216 = .ok (.iload 4, 2) := de9_21 (aL9 (by decide +kernel)) (aL9 (by decide +kernel))
theorem dL_law_1218 : decode cL_law 1218 = .ok (.iconst 2, 1) := de9_5 (aL9 (by decide +kernel))
theorem dL_law_1219 : decode cL_law 1219 = .ok (.iadd, 1) := de9_96 (aL9 (by decide +kernel))
theorem dL_law_1220 : decode cL_law 1220 = .ok (.iaload, 1) := de9_46 (aL9 (by decide +kernel))
theorem dL_law_1221 : decode cL_law 1221 = .ok (.invokevirtual 263, 3) := de9_182 (a := 1) (b := 7) (aL9 (by decide +kernel)) (aL9 (by decide +kernel)) (aL9 (by decide +kernel)) (by decide +kernel)
theorem dL_law_1224 : decode cL_law 1224 = .ok (.istore 6, 2) := de9_54 (aL9 (by decide +kernel)) (aL9 (by decide +kernel))
theorem dL_law_1226 : decode cL_law 1226 = .ok (.goto 673, 3) := de9_167 (a := 2) (b := 161) (aL9 (by decide +kernel)) (aL9 (by decide +kernel)) (aL9 (by decide +kernel)) (by decide +kernel)
theorem dL_law_1229 : decode cL_law 1229 = .ok (.aload_n 1, 1) := de9_43 (aL9 (by decide +kernel))
theorem dL_law_1230 : decode cL_law 1230 = .ok (.aload_n 0, 1) := de9_42 (aL9 (by decide +kernel))
theorem dL_law_1231 : decode cL_law 1231 = .ok (.iload 4, 2) := de9_21 (aL9 (by decide +kernel)) (aL9 (by decide +kernel))
theorem dL_law_1233 : decode cL_law 1233 = .ok (.iconst 1, 1) := de9_4 (aL9 (by decide +kernel))
theorem dL_law_1234 : decode cL_law 1234 = .ok (.iadd, 1) := de9_96 (aL9 (by decide +kernel))
theorem dL_law_1235 : decode cL_law 1235 = .ok (.iaload, 1) := de9_46 (aL9 (by decide +kernel))
theorem dL_law_1236 : decode cL_law 1236 = .ok (.aload_n 0, 1) := de9_42 (aL9 (by decide +kernel))
theorem dL_law_1237 : decode cL_law 1237 = .ok (.iload 4, 2) := de9_21 (aL9 (by decide +kernel)) (aL9 (by decide +kernel))
theorem dL_law_1239 : decode cL_law 1239 = .ok (.iconst 2, 1) := de9_5 (aL9 (by decide +kernel))
theorem dL_law_1240 : decode cL_law 1240 = .ok (.iadd, 1) := de9_96 (aL9 (by decide +kernel))
theorem dL_law_1241 : decode cL_law 1241 = .ok (.iaload, 1) := de9_46 (aL9 (by decide +kernel))
theorem dL_law_1242 : decode cL_law 1242 = .ok (.aload_n 3, 1) := de9_45 (aL9 (by decide +kernel))
theorem dL_law_1243 : decode cL_law 1243 = .ok (.invokestatic 264, 3) := de9_184 (a := 1) (b := 8) (aL9 (by decide +kernel)) (aL9 (by decide +kernel)) (aL9 (by decide +kernel)) (by decide +kernel)
theorem dL_law_1246 : decode cL_law 1246 = .ok (.istore 5, 2) := de9_54 (aL9 (by decide +kernel)) (aL9 (by decide +kernel))
theorem dL_law_1248 : decode cL_law 1248 = .ok (.aload_n 2, 1) := de9_44 (aL9 (by decide +kernel))
theorem dL_law_1249 : decode cL_law 1249 = .ok (.aload_n 0, 1) := de9_42 (aL9 (by decide +kernel))
theorem dL_law_1250 : decode cL_law 1250 = .ok (.iload 4, 2) := de9_21 (aL9 (by decide +kernel)) (aL9 (by decide +kernel))
theorem dL_law_1252 : decode cL_law 1252 = .ok (.iconst 1, 1) := de9_4 (aL9 (by decide +kernel))
theorem dL_law_1253 : decode cL_law 1253 = .ok (.iadd, 1) := de9_96 (aL9 (by decide +kernel))
theorem dL_law_1254 : decode cL_law 1254 = .ok (.iaload, 1) := de9_46 (aL9 (by decide +kernel))
theorem dL_law_1255 : decode cL_law 1255 = .ok (.aload_n 0, 1) := de9_42 (aL9 (by decide +kernel))
theorem dL_law_1256 : decode cL_law 1256 = .ok (.iload 4, 2) := de9_21 (aL9 (by decide +kernel)) (aL9 (by decide +kernel))
theorem dL_law_1258 : decode cL_law 1258 = .ok (.iconst 2, 1) := de9_5 (aL9 (by decide +kernel))
theorem dL_law_1259 : decode cL_law 1259 = .ok (.iadd, 1) := de9_96 (aL9 (by decide +kernel))
theorem dL_law_1260 : decode cL_law 1260 = .ok (.iaload, 1) := de9_46 (aL9 (by decide +kernel))
theorem dL_law_1261 : decode cL_law 1261 = .ok (.invokevirtual 266, 3) := de9_182 (a := 1) (b := 10) (aL9 (by decide +kernel)) (aL9 (by decide +kernel)) (aL9 (by decide +kernel)) (by decide +kernel)
theorem dL_law_1264 : decode cL_law 1264 = .ok (.istore 6, 2) := de9_54 (aL9 (by decide +kernel)) (aL9 (by decide +kernel))
theorem dL_law_1266 : decode cL_law 1266 = .ok (.goto 633, 3) := de9_167 (a := 2) (b := 121) (aL9 (by decide +kernel)) (aL9 (by decide +kernel)) (aL9 (by decide +kernel)) (by decide +kernel)
theorem dL_law_1269 : decode cL_law 1269 = .ok (.aload_n 1, 1) := de9_43 (aL9 (by decide +kernel))
theorem dL_law_1270 : decode cL_law 1270 = .ok (.aload_n 0, 1) := de9_42 (aL9 (by decide +kernel))
theorem dL_law_1271 : decode cL_law 1271 = .ok (.iload 4, 2) := de9_21 (aL9 (by decide +kernel)) (aL9 (by decide +kernel))
theorem dL_law_1273 : decode cL_law 1273 = .ok (.iconst 1, 1) := de9_4 (aL9 (by decide +kernel))
theorem dL_law_1274 : decode cL_law 1274 = .ok (.iadd, 1) := de9_96 (aL9 (by decide +kernel))
theorem dL_law_1275 : decode cL_law 1275 = .ok (.iaload, 1) := de9_46 (aL9 (by decide +kernel))
theorem dL_law_1276 : decode cL_law 1276 = .ok (.aload_n 3, 1) := de9_45 (aL9 (by decide +kernel))
theorem dL_law_1277 : decode cL_law 1277 = .ok (.invokestatic 267, 3) := de9_184 (a := 1) (b := 11) (aL9 (by decide +kernel)) (aL9 (by decide +kernel)) (aL9 (by decide +kernel)) (by decide +kernel)
theorem dL_law_1280 : decode cL_law 1280 = .ok (.istore 5, 2) := de9_54 (aL9 (by decide +kernel)) (aL9 (by decide +kernel))
theorem dL_law_1282 : decode cL_law 1282 = .ok (.aload_n 2, 1) := de9_44 (aL9 (by decide +kernel))
theorem dL_law_1283 : decode cL_law 1283 = .ok (.aload_n 0, 1) := de9_42 (aL9 (by decide +kernel))
theorem dL_law_1284 : decode cL_law 1284 = .ok (.iload 4, 2) := de9_21 (aL9 (by decide +kernel)) (aL9 (by decide +kernel))
theorem dL_law_1286 : decode cL_law 1286 = .ok (.iconst 1, 1) := de9_4 (aL9 (by decide +kernel))
theorem dL_law_1287 : decode cL_law 1287 = .ok (.iadd, 1) := de9_96 (aL9 (by decide +kernel))
theorem dL_law_1288 : decode cL_law 1288 = .ok (.iaload, 1) := de9_46 (aL9 (by decide +kernel))
theorem dL_law_1289 : decode cL_law 1289 = .ok (.invokevirtual 269, 3) := de9_182 (a := 1) (b := 13) (aL9 (by decide +kernel)) (aL9 (by decide +kernel)) (aL9 (by decide +kernel)) (by decide +kernel)
theorem dL_law_1292 : decode cL_law 1292 = .ok (.istore 6, 2) := de9_54 (aL9 (by decide +kernel)) (aL9 (by decide +kernel))
theorem dL_law_1294 : decode cL_law 1294 = .ok (.goto 605, 3) := de9_167 (a := 2) (b := 93) (aL9 (by decide +kernel)) (aL9 (by decide +kernel)) (aL9 (by decide +kernel)) (by decide +kernel)
theorem dL_law_1297 : decode cL_law 1297 = .ok (.aload_n 1, 1) := de9_43 (aL9 (by decide +kernel))
theorem dL_law_1298 : decode cL_law 1298 = .ok (.aload_n 0, 1) := de9_42 (aL9 (by decide +kernel))
theorem dL_law_1299 : decode cL_law 1299 = .ok (.iload 4, 2) := de9_21 (aL9 (by decide +kernel)) (aL9 (by decide +kernel))
theorem dL_law_1301 : decode cL_law 1301 = .ok (.iconst 1, 1) := de9_4 (aL9 (by decide +kernel))
theorem dL_law_1302 : decode cL_law 1302 = .ok (.iadd, 1) := de9_96 (aL9 (by decide +kernel))
theorem dL_law_1303 : decode cL_law 1303 = .ok (.iaload, 1) := de9_46 (aL9 (by decide +kernel))
theorem dL_law_1304 : decode cL_law 1304 = .ok (.aload_n 0, 1) := de9_42 (aL9 (by decide +kernel))
theorem dL_law_1305 : decode cL_law 1305 = .ok (.iload 4, 2) := de9_21 (aL9 (by decide +kernel)) (aL9 (by decide +kernel))
theorem dL_law_1307 : decode cL_law 1307 = .ok (.iconst 2, 1) := de9_5 (aL9 (by decide +kernel))
theorem dL_law_1308 : decode cL_law 1308 = .ok (.iadd, 1) := de9_96 (aL9 (by decide +kernel))
theorem dL_law_1309 : decode cL_law 1309 = .ok (.iaload, 1) := de9_46 (aL9 (by decide +kernel))
theorem dL_law_1310 : decode cL_law 1310 = .ok (.aload_n 3, 1) := de9_45 (aL9 (by decide +kernel))
theorem dL_law_1311 : decode cL_law 1311 = .ok (.invokestatic 270, 3) := de9_184 (a := 1) (b := 14) (aL9 (by decide +kernel)) (aL9 (by decide +kernel)) (aL9 (by decide +kernel)) (by decide +kernel)
theorem dL_law_1314 : decode cL_law 1314 = .ok (.istore 5, 2) := de9_54 (aL9 (by decide +kernel)) (aL9 (by decide +kernel))
theorem dL_law_1316 : decode cL_law 1316 = .ok (.aload_n 2, 1) := de9_44 (aL9 (by decide +kernel))
theorem dL_law_1317 : decode cL_law 1317 = .ok (.aload_n 0, 1) := de9_42 (aL9 (by decide +kernel))
theorem dL_law_1318 : decode cL_law 1318 = .ok (.iload 4, 2) := de9_21 (aL9 (by decide +kernel)) (aL9 (by decide +kernel))
theorem dL_law_1320 : decode cL_law 1320 = .ok (.iconst 1, 1) := de9_4 (aL9 (by decide +kernel))
theorem dL_law_1321 : decode cL_law 1321 = .ok (.iadd, 1) := de9_96 (aL9 (by decide +kernel))
theorem dL_law_1322 : decode cL_law 1322 = .ok (.iaload, 1) := de9_46 (aL9 (by decide +kernel))
theorem dL_law_1323 : decode cL_law 1323 = .ok (.aload_n 0, 1) := de9_42 (aL9 (by decide +kernel))
theorem dL_law_1324 : decode cL_law 1324 = .ok (.iload 4, 2) := de9_21 (aL9 (by decide +kernel)) (aL9 (by decide +kernel))
theorem dL_law_1326 : decode cL_law 1326 = .ok (.iconst 2, 1) := de9_5 (aL9 (by decide +kernel))
theorem dL_law_1327 : decode cL_law 1327 = .ok (.iadd, 1) := de9_96 (aL9 (by decide +kernel))
theorem dL_law_1328 : decode cL_law 1328 = .ok (.iaload, 1) := de9_46 (aL9 (by decide +kernel))
theorem dL_law_1329 : decode cL_law 1329 = .ok (.invokevirtual 272, 3) := de9_182 (a := 1) (b := 16) (aL9 (by decide +kernel)) (aL9 (by decide +kernel)) (aL9 (by decide +kernel)) (by decide +kernel)
theorem dL_law_1332 : decode cL_law 1332 = .ok (.istore 6, 2) := de9_54 (aL9 (by decide +kernel)) (aL9 (by decide +kernel))
theorem dL_law_1334 : decode cL_law 1334 = .ok (.goto 565, 3) := de9_167 (a := 2) (b := 53) (aL9 (by decide +kernel)) (aL9 (by decide +kernel)) (aL9 (by decide +kernel)) (by decide +kernel)
theorem dL_law_1337 : decode cL_law 1337 = .ok (.aload_n 1, 1) := de9_43 (aL9 (by decide +kernel))
theorem dL_law_1338 : decode cL_law 1338 = .ok (.aload_n 0, 1) := de9_42 (aL9 (by decide +kernel))
theorem dL_law_1339 : decode cL_law 1339 = .ok (.iload 4, 2) := de9_21 (aL9 (by decide +kernel)) (aL9 (by decide +kernel))
theorem dL_law_1341 : decode cL_law 1341 = .ok (.iconst 1, 1) := de9_4 (aL9 (by decide +kernel))
theorem dL_law_1342 : decode cL_law 1342 = .ok (.iadd, 1) := de9_96 (aL9 (by decide +kernel))
theorem dL_law_1343 : decode cL_law 1343 = .ok (.iaload, 1) := de9_46 (aL9 (by decide +kernel))
theorem dL_law_1344 : decode cL_law 1344 = .ok (.aload_n 3, 1) := de9_45 (aL9 (by decide +kernel))
theorem dL_law_1345 : decode cL_law 1345 = .ok (.invokestatic 273, 3) := de9_184 (a := 1) (b := 17) (aL9 (by decide +kernel)) (aL9 (by decide +kernel)) (aL9 (by decide +kernel)) (by decide +kernel)
theorem dL_law_1348 : decode cL_law 1348 = .ok (.istore 5, 2) := de9_54 (aL9 (by decide +kernel)) (aL9 (by decide +kernel))
theorem dL_law_1350 : decode cL_law 1350 = .ok (.aload_n 2, 1) := de9_44 (aL9 (by decide +kernel))
theorem dL_law_1351 : decode cL_law 1351 = .ok (.aload_n 0, 1) := de9_42 (aL9 (by decide +kernel))
theorem dL_law_1352 : decode cL_law 1352 = .ok (.iload 4, 2) := de9_21 (aL9 (by decide +kernel)) (aL9 (by decide +kernel))
theorem dL_law_1354 : decode cL_law 1354 = .ok (.iconst 1, 1) := de9_4 (aL9 (by decide +kernel))
theorem dL_law_1355 : decode cL_law 1355 = .ok (.iadd, 1) := de9_96 (aL9 (by decide +kernel))
theorem dL_law_1356 : decode cL_law 1356 = .ok (.iaload, 1) := de9_46 (aL9 (by decide +kernel))
theorem dL_law_1357 : decode cL_law 1357 = .ok (.invokevirtual 275, 3) := de9_182 (a := 1) (b := 19) (aL9 (by decide +kernel)) (aL9 (by decide +kernel)) (aL9 (by decide +kernel)) (by decide +kernel)
theorem dL_law_1360 : decode cL_law 1360 = .ok (.istore 6, 2) := de9_54 (aL9 (by decide +kernel)) (aL9 (by decide +kernel))
theorem dL_law_1362 : decode cL_law 1362 = .ok (.goto 537, 3) := de9_167 (a := 2) (b := 25) (aL9 (by decide +kernel)) (aL9 (by decide +kernel)) (aL9 (by decide +kernel)) (by decide +kernel)
theorem dL_law_1365 : decode cL_law 1365 = .ok (.aload_n 1, 1) := de9_43 (aL9 (by decide +kernel))
theorem dL_law_1366 : decode cL_law 1366 = .ok (.invokevirtual 276, 3) := de9_182 (a := 1) (b := 20) (aL9 (by decide +kernel)) (aL9 (by decide +kernel)) (aL9 (by decide +kernel)) (by decide +kernel)
theorem dL_law_1369 : decode cL_law 1369 = .ok (.pop, 1) := de9_87 (aL9 (by decide +kernel))
theorem dL_law_1370 : decode cL_law 1370 = .ok (.aload_n 2, 1) := de9_44 (aL9 (by decide +kernel))
theorem dL_law_1371 : decode cL_law 1371 = .ok (.invokevirtual 279, 3) := de9_182 (a := 1) (b := 23) (aL9 (by decide +kernel)) (aL9 (by decide +kernel)) (aL9 (by decide +kernel)) (by decide +kernel)
theorem dL_law_1374 : decode cL_law 1374 = .ok (.pop, 1) := de9_87 (aL9 (by decide +kernel))
theorem dL_law_1375 : decode cL_law 1375 = .ok (.goto 524, 3) := de9_167 (a := 2) (b := 12) (aL9 (by decide +kernel)) (aL9 (by decide +kernel)) (aL9 (by decide +kernel)) (by decide +kernel)
theorem dL_law_1378 : decode cL_law 1378 = .ok (.aload_n 1, 1) := de9_43 (aL9 (by decide +kernel))
theorem dL_law_1379 : decode cL_law 1379 = .ok (.aload_n 0, 1) := de9_42 (aL9 (by decide +kernel))
theorem dL_law_1380 : decode cL_law 1380 = .ok (.iload 4, 2) := de9_21 (aL9 (by decide +kernel)) (aL9 (by decide +kernel))
theorem dL_law_1382 : decode cL_law 1382 = .ok (.iconst 1, 1) := de9_4 (aL9 (by decide +kernel))
theorem dL_law_1383 : decode cL_law 1383 = .ok (.iadd, 1) := de9_96 (aL9 (by decide +kernel))
theorem dL_law_1384 : decode cL_law 1384 = .ok (.iaload, 1) := de9_46 (aL9 (by decide +kernel))
theorem dL_law_1385 : decode cL_law 1385 = .ok (.aload_n 0, 1) := de9_42 (aL9 (by decide +kernel))
theorem dL_law_1386 : decode cL_law 1386 = .ok (.iload 4, 2) := de9_21 (aL9 (by decide +kernel)) (aL9 (by decide +kernel))
theorem dL_law_1388 : decode cL_law 1388 = .ok (.iconst 2, 1) := de9_5 (aL9 (by decide +kernel))
theorem dL_law_1389 : decode cL_law 1389 = .ok (.iadd, 1) := de9_96 (aL9 (by decide +kernel))
theorem dL_law_1390 : decode cL_law 1390 = .ok (.iaload, 1) := de9_46 (aL9 (by decide +kernel))
theorem dL_law_1391 : decode cL_law 1391 = .ok (.aload_n 3, 1) := de9_45 (aL9 (by decide +kernel))
theorem dL_law_1392 : decode cL_law 1392 = .ok (.invokestatic 280, 3) := de9_184 (a := 1) (b := 24) (aL9 (by decide +kernel)) (aL9 (by decide +kernel)) (aL9 (by decide +kernel)) (by decide +kernel)
theorem dL_law_1395 : decode cL_law 1395 = .ok (.istore 5, 2) := de9_54 (aL9 (by decide +kernel)) (aL9 (by decide +kernel))
theorem dL_law_1397 : decode cL_law 1397 = .ok (.aload_n 2, 1) := de9_44 (aL9 (by decide +kernel))
theorem dL_law_1398 : decode cL_law 1398 = .ok (.aload_n 0, 1) := de9_42 (aL9 (by decide +kernel))
theorem dL_law_1399 : decode cL_law 1399 = .ok (.iload 4, 2) := de9_21 (aL9 (by decide +kernel)) (aL9 (by decide +kernel))
theorem dL_law_1401 : decode cL_law 1401 = .ok (.iconst 1, 1) := de9_4 (aL9 (by decide +kernel))
theorem dL_law_1402 : decode cL_law 1402 = .ok (.iadd, 1) := de9_96 (aL9 (by decide +kernel))
theorem dL_law_1403 : decode cL_law 1403 = .ok (.iaload, 1) := de9_46 (aL9 (by decide +kernel))
theorem dL_law_1404 : decode cL_law 1404 = .ok (.aload_n 0, 1) := de9_42 (aL9 (by decide +kernel))
theorem dL_law_1405 : decode cL_law 1405 = .ok (.iload 4, 2) := de9_21 (aL9 (by decide +kernel)) (aL9 (by decide +kernel))
theorem dL_law_1407 : decode cL_law 1407 = .ok (.iconst 2, 1) := de9_5 (aL9 (by decide +kernel))
theorem dL_law_1408 : decode cL_law 1408 = .ok (.iadd, 1) := de9_96 (aL9 (by decide +kernel))
theorem dL_law_1409 : decode cL_law 1409 = .ok (.iaload, 1) := de9_46 (aL9 (by decide +kernel))
theorem dL_law_1410 : decode cL_law 1410 = .ok (.invokevirtual 282, 3) := de9_182 (a := 1) (b := 26) (aL9 (by decide +kernel)) (aL9 (by decide +kernel)) (aL9 (by decide +kernel)) (by decide +kernel)
theorem dL_law_1413 : decode cL_law 1413 = .ok (.istore 6, 2) := de9_54 (aL9 (by decide +kernel)) (aL9 (by decide +kernel))
theorem dL_law_1415 : decode cL_law 1415 = .ok (.goto 484, 3) := de9_167 (a := 1) (b := 228) (aL9 (by decide +kernel)) (aL9 (by decide +kernel)) (aL9 (by decide +kernel)) (by decide +kernel)
theorem dL_law_1418 : decode cL_law 1418 = .ok (.aload_n 1, 1) := de9_43 (aL9 (by decide +kernel))
theorem dL_law_1419 : decode cL_law 1419 = .ok (.invokevirtual 283, 3) := de9_182 (a := 1) (b := 27) (aL9 (by decide +kernel)) (aL9 (by decide +kernel)) (aL9 (by decide +kernel)) (by decide +kernel)
theorem dL_law_1422 : decode cL_law 1422 = .ok (.pop, 1) := de9_87 (aL9 (by decide +kernel))
theorem dL_law_1423 : decode cL_law 1423 = .ok (.aload_n 2, 1) := de9_44 (aL9 (by decide +kernel))
theorem dL_law_1424 : decode cL_law 1424 = .ok (.invokevirtual 286, 3) := de9_182 (a := 1) (b := 30) (aL9 (by decide +kernel)) (aL9 (by decide +kernel)) (aL9 (by decide +kernel)) (by decide +kernel)
theorem dL_law_1427 : decode cL_law 1427 = .ok (.pop, 1) := de9_87 (aL9 (by decide +kernel))
theorem dL_law_1428 : decode cL_law 1428 = .ok (.goto 471, 3) := de9_167 (a := 1) (b := 215) (aL9 (by decide +kernel)) (aL9 (by decide +kernel)) (aL9 (by decide +kernel)) (by decide +kernel)
theorem dL_law_1431 : decode cL_law 1431 = .ok (.aload_n 1, 1) := de9_43 (aL9 (by decide +kernel))
theorem dL_law_1432 : decode cL_law 1432 = .ok (.invokevirtual 287, 3) := de9_182 (a := 1) (b := 31) (aL9 (by decide +kernel)) (aL9 (by decide +kernel)) (aL9 (by decide +kernel)) (by decide +kernel)
theorem dL_law_1435 : decode cL_law 1435 = .ok (.pop, 1) := de9_87 (aL9 (by decide +kernel))
theorem dL_law_1436 : decode cL_law 1436 = .ok (.aload_n 2, 1) := de9_44 (aL9 (by decide +kernel))
theorem dL_law_1437 : decode cL_law 1437 = .ok (.invokevirtual 290, 3) := de9_182 (a := 1) (b := 34) (aL9 (by decide +kernel)) (aL9 (by decide +kernel)) (aL9 (by decide +kernel)) (by decide +kernel)
theorem dL_law_1440 : decode cL_law 1440 = .ok (.pop, 1) := de9_87 (aL9 (by decide +kernel))
theorem dL_law_1441 : decode cL_law 1441 = .ok (.goto 458, 3) := de9_167 (a := 1) (b := 202) (aL9 (by decide +kernel)) (aL9 (by decide +kernel)) (aL9 (by decide +kernel)) (by decide +kernel)
theorem dL_law_1444 : decode cL_law 1444 = .ok (.aload_n 1, 1) := de9_43 (aL9 (by decide +kernel))
theorem dL_law_1445 : decode cL_law 1445 = .ok (.aload_n 0, 1) := de9_42 (aL9 (by decide +kernel))
theorem dL_law_1446 : decode cL_law 1446 = .ok (.iload 4, 2) := de9_21 (aL9 (by decide +kernel)) (aL9 (by decide +kernel))
theorem dL_law_1448 : decode cL_law 1448 = .ok (.iconst 1, 1) := de9_4 (aL9 (by decide +kernel))
theorem dL_law_1449 : decode cL_law 1449 = .ok (.iadd, 1) := de9_96 (aL9 (by decide +kernel))
theorem dL_law_1450 : decode cL_law 1450 = .ok (.iaload, 1) := de9_46 (aL9 (by decide +kernel))
theorem dL_law_1451 : decode cL_law 1451 = .ok (.aload_n 3, 1) := de9_45 (aL9 (by decide +kernel))
theorem dL_law_1452 : decode cL_law 1452 = .ok (.invokestatic 291, 3) := de9_184 (a := 1) (b := 35) (aL9 (by decide +kernel)) (aL9 (by decide +kernel)) (aL9 (by decide +kernel)) (by decide +kernel)
theorem dL_law_1455 : decode cL_law 1455 = .ok (.istore 5, 2) := de9_54 (aL9 (by decide +kernel)) (aL9 (by decide +kernel))
theorem dL_law_1457 : decode cL_law 1457 = .ok (.aload_n 2, 1) := de9_44 (aL9 (by decide +kernel))
theorem dL_law_1458 : decode cL_law 1458 = .ok (.aload_n 0, 1) := de9_42 (aL9 (by decide +kernel))
theorem dL_law_1459 : decode cL_law 1459 = .ok (.iload 4, 2) := de9_21 (aL9 (by decide +kernel)) (aL9 (by decide +kernel))
theorem dL_law_1461 : decode cL_law 1461 = .ok (.iconst 1, 1) := de9_4 (aL9 (by decide +kernel))
theorem dL_law_1462 : decode cL_law 1462 = .ok (.iadd, 1) := de9_96 (aL9 (by decide +kernel))
theorem dL_law_1463 : decode cL_law 1463 = .ok (.iaload, 1) := de9_46 (aL9 (by decide +kernel))
theorem dL_law_1464 : decode cL_law 1464 = .ok (.invokevirtual 293, 3) := de9_182 (a := 1) (b := 37) (aL9 (by decide +kernel)) (aL9 (by decide +kernel)) (aL9 (by decide +kernel)) (by decide +kernel)
theorem dL_law_1467 : decode cL_law 1467 = .ok (.istore 6, 2) := de9_54 (aL9 (by decide +kernel)) (aL9 (by decide +kernel))
theorem dL_law_1469 : decode cL_law 1469 = .ok (.goto 430, 3) := de9_167 (a := 1) (b := 174) (aL9 (by decide +kernel)) (aL9 (by decide +kernel)) (aL9 (by decide +kernel)) (by decide +kernel)
theorem dL_law_1472 : decode cL_law 1472 = .ok (.aload_n 1, 1) := de9_43 (aL9 (by decide +kernel))
theorem dL_law_1473 : decode cL_law 1473 = .ok (.aload_n 0, 1) := de9_42 (aL9 (by decide +kernel))
theorem dL_law_1474 : decode cL_law 1474 = .ok (.iload 4, 2) := de9_21 (aL9 (by decide +kernel)) (aL9 (by decide +kernel))
theorem dL_law_1476 : decode cL_law 1476 = .ok (.iconst 1, 1) := de9_4 (aL9 (by decide +kernel))
theorem dL_law_1477 : decode cL_law 1477 = .ok (.iadd, 1) := de9_96 (aL9 (by decide +kernel))
theorem dL_law_1478 : decode cL_law 1478 = .ok (.iaload, 1) := de9_46 (aL9 (by decide +kernel))
theorem dL_law_1479 : decode cL_law 1479 = .ok (.aload_n 3, 1) := de9_45 (aL9 (by decide +kernel))
theorem dL_law_1480 : decode cL_law 1480 = .ok (.invokestatic 294, 3) := de9_184 (a := 1) (b := 38) (aL9 (by decide +kernel)) (aL9 (by decide +kernel)) (aL9 (by decide +kernel)) (by decide +kernel)
theorem dL_law_1483 : decode cL_law 1483 = .ok (.istore 5, 2) := de9_54 (aL9 (by decide +kernel)) (aL9 (by decide +kernel))
theorem dL_law_1485 : decode cL_law 1485 = .ok (.aload_n 2, 1) := de9_44 (aL9 (by decide +kernel))
theorem dL_law_1486 : decode cL_law 1486 = .ok (.aload_n 0, 1) := de9_42 (aL9 (by decide +kernel))
theorem dL_law_1487 : decode cL_law 1487 = .ok (.iload 4, 2) := de9_21 (aL9 (by decide +kernel)) (aL9 (by decide +kernel))
theorem dL_law_1489 : decode cL_law 1489 = .ok (.iconst 1, 1) := de9_4 (aL9 (by decide +kernel))
theorem dL_law_1490 : decode cL_law 1490 = .ok (.iadd, 1) := de9_96 (aL9 (by decide +kernel))
theorem dL_law_1491 : decode cL_law 1491 = .ok (.iaload, 1) := de9_46 (aL9 (by decide +kernel))
theorem dL_law_1492 : decode cL_law 1492 = .ok (.invokevirtual 296, 3) := de9_182 (a := 1) (b := 40) (aL9 (by decide +kernel)) (aL9 (by decide +kernel)) (aL9 (by decide +kernel)) (by decide +kernel)
theorem dL_law_1495 : decode cL_law 1495 = .ok (.istore 6, 2) := de9_54 (aL9 (by decide +kernel)) (aL9 (by decide +kernel))
theorem dL_law_1497 : decode cL_law 1497 = .ok (.goto 402, 3) := de9_167 (a := 1) (b := 146) (aL9 (by decide +kernel)) (aL9 (by decide +kernel)) (aL9 (by decide +kernel)) (by decide +kernel)
theorem dL_law_1500 : decode cL_law 1500 = .ok (.aload_n 1, 1) := de9_43 (aL9 (by decide +kernel))
theorem dL_law_1501 : decode cL_law 1501 = .ok (.aload_n 0, 1) := de9_42 (aL9 (by decide +kernel))
theorem dL_law_1502 : decode cL_law 1502 = .ok (.iload 4, 2) := de9_21 (aL9 (by decide +kernel)) (aL9 (by decide +kernel))
theorem dL_law_1504 : decode cL_law 1504 = .ok (.iconst 1, 1) := de9_4 (aL9 (by decide +kernel))
theorem dL_law_1505 : decode cL_law 1505 = .ok (.iadd, 1) := de9_96 (aL9 (by decide +kernel))
theorem dL_law_1506 : decode cL_law 1506 = .ok (.iaload, 1) := de9_46 (aL9 (by decide +kernel))
theorem dL_law_1507 : decode cL_law 1507 = .ok (.aload_n 3, 1) := de9_45 (aL9 (by decide +kernel))
theorem dL_law_1508 : decode cL_law 1508 = .ok (.invokestatic 297, 3) := de9_184 (a := 1) (b := 41) (aL9 (by decide +kernel)) (aL9 (by decide +kernel)) (aL9 (by decide +kernel)) (by decide +kernel)
theorem dL_law_1511 : decode cL_law 1511 = .ok (.istore 5, 2) := de9_54 (aL9 (by decide +kernel)) (aL9 (by decide +kernel))
theorem dL_law_1513 : decode cL_law 1513 = .ok (.aload_n 2, 1) := de9_44 (aL9 (by decide +kernel))
theorem dL_law_1514 : decode cL_law 1514 = .ok (.aload_n 0, 1) := de9_42 (aL9 (by decide +kernel))
theorem dL_law_1515 : decode cL_law 1515 = .ok (.iload 4, 2) := de9_21 (aL9 (by decide +kernel)) (aL9 (by decide +kernel))
theorem dL_law_1517 : decode cL_law 1517 = .ok (.iconst 1, 1) := de9_4 (aL9 (by decide +kernel))
theorem dL_law_1518 : decode cL_law 1518 = .ok (.iadd, 1) := de9_96 (aL9 (by decide +kernel))
theorem dL_law_1519 : decode cL_law 1519 = .ok (.iaload, 1) := de9_46 (aL9 (by decide +kernel))
theorem dL_law_1520 : decode cL_law 1520 = .ok (.invokevirtual 299, 3) := de9_182 (a := 1) (b := 43) (aL9 (by decide +kernel)) (aL9 (by decide +kernel)) (aL9 (by decide +kernel)) (by decide +kernel)
theorem dL_law_1523 : decode cL_law 1523 = .ok (.istore 6, 2) := de9_54 (aL9 (by decide +kernel)) (aL9 (by decide +kernel))
theorem dL_law_1525 : decode cL_law 1525 = .ok (.goto 374, 3) := de9_167 (a := 1) (b := 118) (aL9 (by decide +kernel)) (aL9 (by decide +kernel)) (aL9 (by decide +kernel)) (by decide +kernel)
theorem dL_law_1528 : decode cL_law 1528 = .ok (.aload_n 1, 1) := de9_43 (aL9 (by decide +kernel))
theorem dL_law_1529 : decode cL_law 1529 = .ok (.invokevirtual 300, 3) := de9_182 (a := 1) (b := 44) (aL9 (by decide +kernel)) (aL9 (by decide +kernel)) (aL9 (by decide +kernel)) (by decide +kernel)
theorem dL_law_1532 : decode cL_law 1532 = .ok (.pop, 1) := de9_87 (aL9 (by decide +kernel))
theorem dL_law_1533 : decode cL_law 1533 = .ok (.aload_n 2, 1) := de9_44 (aL9 (by decide +kernel))
theorem dL_law_1534 : decode cL_law 1534 = .ok (.invokevirtual 303, 3) := de9_182 (a := 1) (b := 47) (aL9 (by decide +kernel)) (aL9 (by decide +kernel)) (aL9 (by decide +kernel)) (by decide +kernel)
theorem dL_law_1537 : decode cL_law 1537 = .ok (.pop, 1) := de9_87 (aL9 (by decide +kernel))
theorem dL_law_1538 : decode cL_law 1538 = .ok (.goto 361, 3) := de9_167 (a := 1) (b := 105) (aL9 (by decide +kernel)) (aL9 (by decide +kernel)) (aL9 (by decide +kernel)) (by decide +kernel)
theorem dL_law_1541 : decode cL_law 1541 = .ok (.aload_n 1, 1) := de9_43 (aL9 (by decide +kernel))
theorem dL_law_1542 : decode cL_law 1542 = .ok (.invokevirtual 304, 3) := de9_182 (a := 1) (b := 48) (aL9 (by decide +kernel)) (aL9 (by decide +kernel)) (aL9 (by decide +kernel)) (by decide +kernel)
theorem dL_law_1545 : decode cL_law 1545 = .ok (.pop, 1) := de9_87 (aL9 (by decide +kernel))
theorem dL_law_1546 : decode cL_law 1546 = .ok (.aload_n 2, 1) := de9_44 (aL9 (by decide +kernel))
theorem dL_law_1547 : decode cL_law 1547 = .ok (.invokevirtual 307, 3) := de9_182 (a := 1) (b := 51) (aL9 (by decide +kernel)) (aL9 (by decide +kernel)) (aL9 (by decide +kernel)) (by decide +kernel)
theorem dL_law_1550 : decode cL_law 1550 = .ok (.pop, 1) := de9_87 (aL9 (by decide +kernel))
theorem dL_law_1551 : decode cL_law 1551 = .ok (.goto 348, 3) := de9_167 (a := 1) (b := 92) (aL9 (by decide +kernel)) (aL9 (by decide +kernel)) (aL9 (by decide +kernel)) (by decide +kernel)
theorem dL_law_1554 : decode cL_law 1554 = .ok (.aload_n 1, 1) := de9_43 (aL9 (by decide +kernel))
theorem dL_law_1555 : decode cL_law 1555 = .ok (.invokevirtual 308, 3) := de9_182 (a := 1) (b := 52) (aL9 (by decide +kernel)) (aL9 (by decide +kernel)) (aL9 (by decide +kernel)) (by decide +kernel)
theorem dL_law_1558 : decode cL_law 1558 = .ok (.pop, 1) := de9_87 (aL9 (by decide +kernel))
theorem dL_law_1559 : decode cL_law 1559 = .ok (.aload_n 2, 1) := de9_44 (aL9 (by decide +kernel))
theorem dL_law_1560 : decode cL_law 1560 = .ok (.invokevirtual 311, 3) := de9_182 (a := 1) (b := 55) (aL9 (by decide +kernel)) (aL9 (by decide +kernel)) (aL9 (by decide +kernel)) (by decide +kernel)
theorem dL_law_1563 : decode cL_law 1563 = .ok (.pop, 1) := de9_87 (aL9 (by decide +kernel))
theorem dL_law_1564 : decode cL_law 1564 = .ok (.goto 335, 3) := de9_167 (a := 1) (b := 79) (aL9 (by decide +kernel)) (aL9 (by decide +kernel)) (aL9 (by decide +kernel)) (by decide +kernel)
theorem dL_law_1567 : decode cL_law 1567 = .ok (.aload_n 1, 1) := de9_43 (aL9 (by decide +kernel))
theorem dL_law_1568 : decode cL_law 1568 = .ok (.invokevirtual 312, 3) := de9_182 (a := 1) (b := 56) (aL9 (by decide +kernel)) (aL9 (by decide +kernel)) (aL9 (by decide +kernel)) (by decide +kernel)
theorem dL_law_1571 : decode cL_law 1571 = .ok (.dstore 5, 2) := de9_57 (aL9 (by decide +kernel)) (aL9 (by decide +kernel))
theorem dL_law_1573 : decode cL_law 1573 = .ok (.aload_n 2, 1) := de9_44 (aL9 (by decide +kernel))
theorem dL_law_1574 : decode cL_law 1574 = .ok (.invokevirtual 316, 3) := de9_182 (a := 1) (b := 60) (aL9 (by decide +kernel)) (aL9 (by decide +kernel)) (aL9 (by decide +kernel)) (by decide +kernel)
theorem dL_law_1577 : decode cL_law 1577 = .ok (.dstore 7, 2) := de9_57 (aL9 (by decide +kernel)) (aL9 (by decide +kernel))
theorem dL_law_1579 : decode cL_law 1579 = .ok (.goto 320, 3) := de9_167 (a := 1) (b := 64) (aL9 (by decide +kernel)) (aL9 (by decide +kernel)) (aL9 (by decide +kernel)) (by decide +kernel)
theorem dL_law_1582 : decode cL_law 1582 = .ok (.aload_n 1, 1) := de9_43 (aL9 (by decide +kernel))
theorem dL_law_1583 : decode cL_law 1583 = .ok (.invokevirtual 317, 3) := de9_182 (a := 1) (b := 61) (aL9 (by decide +kernel)) (aL9 (by decide +kernel)) (aL9 (by decide +kernel)) (by decide +kernel)
theorem dL_law_1586 : decode cL_law 1586 = .ok (.f2d, 1) := de9_141 (aL9 (by decide +kernel))
theorem dL_law_1587 : decode cL_law 1587 = .ok (.dstore 5, 2) := de9_57 (aL9 (by decide +kernel)) (aL9 (by decide +kernel))
theorem dL_law_1589 : decode cL_law 1589 = .ok (.aload_n 2, 1) := de9_44 (aL9 (by decide +kernel))
theorem dL_law_1590 : decode cL_law 1590 = .ok (.invokevirtual 321, 3) := de9_182 (a := 1) (b := 65) (aL9 (by decide +kernel)) (aL9 (by decide +kernel)) (aL9 (by decide +kernel)) (by decide +kernel)
theorem dL_law_1593 : decode cL_law 1593 = .ok (.f2d, 1) := de9_141 (aL9 (by decide +kernel))
theorem dL_law_1594 : decode cL_law 1594 = .ok (.dstore 7, 2) := de9_57 (aL9 (by decide +kernel)) (aL9 (by decide +kernel))
theorem dL_law_1596 : decode cL_law 1596 = .ok (.goto 303, 3) := de9_167 (a := 1) (b := 47) (aL9 (by decide +kernel)) (aL9 (by decide +kernel)) (aL9 (by decide +kernel)) (by decide +kernel)
theorem dL_law_1599 : decode cL_law 1599 = .ok (.aload_n 1, 1) := de9_43 (aL9 (by decide +kernel))
theorem dL_law_1600 : decode cL_law 1600 = .ok (.aload_n 0, 1) := de9_42 (aL9 (by decide +kernel))
theorem dL_law_1601 : decode cL_law 1601 = .ok (.iload 4, 2) := de9_21 (aL9 (by decide +kernel)) (aL9 (by decide +kernel))
theorem dL_law_1603 : decode cL_law 1603 = .ok (.iconst 1, 1) := de9_4 (aL9 (by decide +kernel))
theorem dL_law_1604 : decode cL_law 1604 = .ok (.iadd, 1) := de9_96 (aL9 (by decide +kernel))
theorem dL_law_1605 : decode cL_law 1605 = .ok (.iaload, 1) := de9_46 (aL9 (by decide +kernel))
theorem dL_law_1606 : decode cL_law 1606 = .ok (.aload_n 3, 1) := de9_45 (aL9 (by decide +kernel))
theorem dL_law_1607 : decode cL_law 1607 = .ok (.invokestatic 322, 3) := de9_184 (a := 1) (b := 66) (aL9 (by decide +kernel)) (aL9 (by decide +kernel)) (aL9 (by decide +kernel)) (by decide +kernel)
theorem dL_law_1610 : decode cL_law 1610 = .ok (.istore 5, 2) := de9_54 (aL9 (by decide +kernel)) (aL9 (by decide +kernel))
theorem dL_law_1612 : decode cL_law 1612 = .ok (.aload_n 2, 1) := de9_44 (aL9 (by decide +kernel))
theorem dL_law_1613 : decode cL_law 1613 = .ok (.aload_n 0, 1) := de9_42 (aL9 (by decide +kernel))
theorem dL_law_1614 : decode cL_law 1614 = .ok (.iload 4, 2) := de9_21 (aL9 (by decide +kernel)) (aL9 (by decide +kernel))
theorem dL_law_1616 : decode cL_law 1616 = .ok (.iconst 1, 1) := de9_4 (aL9 (by decide +kernel))
theorem dL_law_1617 : decode cL_law 1617 = .ok (.iadd, 1) := de9_96 (aL9 (by decide +kernel))
theorem dL_law_1618 : decode cL_law 1618 = .ok (.iaload, 1) := de9_46 (aL9 (by decide +kernel))
theorem dL_law_1619 : decode cL_law 1619 = .ok (.invokevirtual 324, 3) := de9_182 (a := 1) (b := 68) (aL9 (by decide +kernel)) (aL9 (by decide +kernel)) (aL9 (by decide +kernel)) (by decide +kernel)
theorem dL_law_1622 : decode cL_law 1622 = .ok (.istore 6, 2) := de9_54 (aL9 (by decide +kernel)) (aL9 (by decide +kernel))
theorem dL_law_1624 : decode cL_law 1624 = .ok (.goto 275, 3) := de9_167 (a := 1) (b := 19) (aL9 (by decide +kernel)) (aL9 (by decide +kernel)) (aL9 (by decide +kernel)) (by decide +kernel)
theorem dL_law_1627 : decode cL_law 1627 = .ok (.aload_n 1, 1) := de9_43 (aL9 (by decide +kernel))
theorem dL_law_1628 : decode cL_law 1628 = .ok (.invokevirtual 325, 3) := de9_182 (a := 1) (b := 69) (aL9 (by decide +kernel)) (aL9 (by decide +kernel)) (aL9 (by decide +kernel)) (by decide +kernel)
theorem dL_law_1631 : decode cL_law 1631 = .ok (.pop, 1) := de9_87 (aL9 (by decide +kernel))
theorem dL_law_1632 : decode cL_law 1632 = .ok (.aload_n 2, 1) := de9_44 (aL9 (by decide +kernel))
theorem dL_law_1633 : decode cL_law 1633 = .ok (.invokevirtual 328, 3) := de9_182 (a := 1) (b := 72) (aL9 (by decide +kernel)) (aL9 (by decide +kernel)) (aL9 (by decide +kernel)) (by decide +kernel)
theorem dL_law_1636 : decode cL_law 1636 = .ok (.pop, 1) := de9_87 (aL9 (by decide +kernel))
theorem dL_law_1637 : decode cL_law 1637 = .ok (.goto 262, 3) := de9_167 (a := 1) (b := 6) (aL9 (by decide +kernel)) (aL9 (by decide +kernel)) (aL9 (by decide +kernel)) (by decide +kernel)
theorem dL_law_1640 : decode cL_law 1640 = .ok (.aload_n 1, 1) := de9_43 (aL9 (by decide +kernel))
theorem dL_law_1641 : decode cL_law 1641 = .ok (.aload_n 0, 1) := de9_42 (aL9 (by decide +kernel))
theorem dL_law_1642 : decode cL_law 1642 = .ok (.iload 4, 2) := de9_21 (aL9 (by decide +kernel)) (aL9 (by decide +kernel))
theorem dL_law_1644 : decode cL_law 1644 = .ok (.iconst 1, 1) := de9_4 (aL9 (by decide +kernel))
theorem dL_law_1645 : decode cL_law 1645 = .ok (.iadd, 1) := de9_96 (aL9 (by decide +kernel))
theorem dL_law_1646 : decode cL_law 1646 = .ok (.iaload, 1) := de9_46 (aL9 (by decide +kernel))
theorem dL_law_1647 : decode cL_law 1647 = .ok (.aload_n 0, 1) := de9_42 (aL9 (by decide +kernel))
theorem dL_law_1648 : decode cL_law 1648 = .ok (.iload 4, 2) := de9_21 (aL9 (by decide +kernel)) (aL9 (by decide +kernel))
theorem dL_law_1650 : decode cL_law 1650 = .ok (.iconst 2, 1) := de9_5 (aL9 (by decide +kernel))
theorem dL_law_1651 : decode cL_law 1651 = .ok (.iadd, 1) := de9_96 (aL9 (by decide +kernel))
theorem dL_law_1652 : decode cL_law 1652 = .ok (.iaload, 1) := de9_46 (aL9 (by decide +kernel))
theorem dL_law_1653 : decode cL_law 1653 = .ok (.aload_n 3, 1) := de9_45 (aL9 (by decide +kernel))
theorem dL_law_1654 : decode cL_law 1654 = .ok (.invokestatic 329, 3) := de9_184 (a := 1) (b := 73) (aL9 (by decide +kernel)) (aL9 (by decide +kernel)) (aL9 (by decide +kernel)) (by decide +kernel)
theorem dL_law_1657 : decode cL_law 1657 = .ok (.istore 5, 2) := de9_54 (aL9 (by decide +kernel)) (aL9 (by decide +kernel))
theorem dL_law_1659 : decode cL_law 1659 = .ok (.aload_n 2, 1) := de9_44 (aL9 (by decide +kernel))
theorem dL_law_1660 : decode cL_law 1660 = .ok (.aload_n 0, 1) := de9_42 (aL9 (by decide +kernel))
theorem dL_law_1661 : decode cL_law 1661 = .ok (.iload 4, 2) := de9_21 (aL9 (by decide +kernel)) (aL9 (by decide +kernel))
theorem dL_law_1663 : decode cL_law 1663 = .ok (.iconst 1, 1) := de9_4 (aL9 (by decide +kernel))
theorem dL_law_1664 : decode cL_law 1664 = .ok (.iadd, 1) := de9_96 (aL9 (by decide +kernel))
theorem dL_law_1665 : decode cL_law 1665 = .ok (.iaload, 1) := de9_46 (aL9 (by decide +kernel))
theorem dL_law_1666 : decode cL_law 1666 = .ok (.aload_n 0, 1) := de9_42 (aL9 (by decide +kernel))
theorem dL_law_1667 : decode cL_law 1667 = .ok (.iload 4, 2) := de9_21 (aL9 (by decide +kernel)) (aL9 (by decide +kernel))
theorem dL_law_1669 : decode cL_law 1669 = .ok (.iconst 2, 1) := de9_5 (aL9 (by decide +kernel))
theorem dL_law_1670 : decode cL_law 1670 = .ok (.iadd, 1) := de9_96 (aL9 (by decide +kernel))
theorem dL_law_1671 : decode cL_law 1671 = .ok (.iaload, 1) := de9_46 (aL9 (by decide +kernel))
theorem dL_law_1672 : decode cL_law 1672 = .ok (.invokevirtual 331, 3) := de9_182 (a := 1) (b := 75) (aL9 (by decide +kernel)) (aL9 (by decide +kernel)) (aL9 (by decide +kernel)) (by decide +kernel)
theorem dL_law_1675 : decode cL_law 1675 = .ok (.istore 6, 2) := de9_54 (aL9 (by decide +kernel)) (aL9 (by decide +kernel))
theorem dL_law_1677 : decode cL_law 1677 = .ok (.goto 222, 3) := de9_167 (a := 0) (b := 222) (aL9 (by decide +kernel)) (aL9 (by decide +kernel)) (aL9 (by decide +kernel)) (by decide +kernel)
theorem dL_law_1680 : decode cL_law 1680 = .ok (.aload_n 1, 1) := de9_43 (aL9 (by decide +kernel))
theorem dL_law_1681 : decode cL_law 1681 = .ok (.aload_n 0, 1) := de9_42 (aL9 (by decide +kernel))
theorem dL_law_1682 : decode cL_law 1682 = .ok (.iload 4, 2) := de9_21 (aL9 (by decide +kernel)) (aL9 (by decide +kernel))
theorem dL_law_1684 : decode cL_law 1684 = .ok (.iconst 1, 1) := de9_4 (aL9 (by decide +kernel))
theorem dL_law_1685 : decode cL_law 1685 = .ok (.iadd, 1) := de9_96 (aL9 (by decide +kernel))
theorem dL_law_1686 : decode cL_law 1686 = .ok (.iaload, 1) := de9_46 (aL9 (by decide +kernel))
theorem dL_law_1687 : decode cL_law 1687 = .ok (.aload_n 3, 1) := de9_45 (aL9 (by decide +kernel))
theorem dL_law_1688 : decode cL_law 1688 = .ok (.invokestatic 332, 3) := de9_184 (a := 1) (b := 76) (aL9 (by decide +kernel)) (aL9 (by decide +kernel)) (aL9 (by decide +kernel)) (by decide +kernel)
theorem dL_law_1691 : decode cL_law 1691 = .ok (.istore 5, 2) := de9_54 (aL9 (by decide +kernel)) (aL9 (by decide +kernel))
theorem dL_law_1693 : decode cL_law 1693 = .ok (.aload_n 2, 1) := de9_44 (aL9 (by decide +kernel))
theorem dL_law_1694 : decode cL_law 1694 = .ok (.aload_n 0, 1) := de9_42 (aL9 (by decide +kernel))
theorem dL_law_1695 : decode cL_law 1695 = .ok (.iload 4, 2) := de9_21 (aL9 (by decide +kernel)) (aL9 (by decide +kernel))
theorem dL_law_1697 : decode cL_law 1697 = .ok (.iconst 1, 1) := de9_4 (aL9 (by decide +kernel))
theorem dL_law_1698 : decode cL_law 1698 = .ok (.iadd, 1) := de9_96 (aL9 (by decide +kernel))
theorem dL_law_1699 : decode cL_law 1699 = .ok (.iaload, 1) := de9_46 (aL9 (by decide +kernel))
theorem dL_law_1700 : decode cL_law 1700 = .ok (.invokevirtual 334, 3) := de9_182 (a := 1) (b := 78) (aL9 (by decide +kernel)) (aL9 (by decide +kernel)) (aL9 (by decide +kernel)) (by decide +kernel)
theorem dL_law_1703 : decode cL_law 1703 = .ok (.istore 6, 2) := de9_54 (aL9 (by decide +kernel)) (aL9 (by decide +kernel))
theorem dL_law_1705 : decode cL_law 1705 = .ok (.goto 194, 3) := de9_167 (a := 0) (b := 194) (aL9 (by decide +kernel)) (aL9 (by decide +kernel)) (aL9 (by decide +kernel)) (by decide +kernel)
theorem dL_law_1708 : decode cL_law 1708 = .ok (.aload_n 1, 1) := de9_43 (aL9 (by decide +kernel))
theorem dL_law_1709 : decode cL_law 1709 = .ok (.aload_n 0, 1) := de9_42 (aL9 (by decide +kernel))
theorem dL_law_1710 : decode cL_law 1710 = .ok (.iload 4, 2) := de9_21 (aL9 (by decide +kernel)) (aL9 (by decide +kernel))
theorem dL_law_1712 : decode cL_law 1712 = .ok (.iconst 1, 1) := de9_4 (aL9 (by decide +kernel))
theorem dL_law_1713 : decode cL_law 1713 = .ok (.iadd, 1) := de9_96 (aL9 (by decide +kernel))
theorem dL_law_1714 : decode cL_law 1714 = .ok (.iaload, 1) := de9_46 (aL9 (by decide +kernel))
theorem dL_law_1715 : decode cL_law 1715 = .ok (.aload_n 0, 1) := de9_42 (aL9 (by decide +kernel))
theorem dL_law_1716 : decode cL_law 1716 = .ok (.iload 4, 2) := de9_21 (aL9 (by decide +kernel)) (aL9 (by decide +kernel))
theorem dL_law_1718 : decode cL_law 1718 = .ok (.iconst 2, 1) := de9_5 (aL9 (by decide +kernel))
theorem dL_law_1719 : decode cL_law 1719 = .ok (.iadd, 1) := de9_96 (aL9 (by decide +kernel))
theorem dL_law_1720 : decode cL_law 1720 = .ok (.iaload, 1) := de9_46 (aL9 (by decide +kernel))
theorem dL_law_1721 : decode cL_law 1721 = .ok (.aload_n 3, 1) := de9_45 (aL9 (by decide +kernel))
theorem dL_law_1722 : decode cL_law 1722 = .ok (.invokestatic 335, 3) := de9_184 (a := 1) (b := 79) (aL9 (by decide +kernel)) (aL9 (by decide +kernel)) (aL9 (by decide +kernel)) (by decide +kernel)
theorem dL_law_1725 : decode cL_law 1725 = .ok (.istore 5, 2) := de9_54 (aL9 (by decide +kernel)) (aL9 (by decide +kernel))
theorem dL_law_1727 : decode cL_law 1727 = .ok (.aload_n 2, 1) := de9_44 (aL9 (by decide +kernel))
theorem dL_law_1728 : decode cL_law 1728 = .ok (.aload_n 0, 1) := de9_42 (aL9 (by decide +kernel))
theorem dL_law_1729 : decode cL_law 1729 = .ok (.iload 4, 2) := de9_21 (aL9 (by decide +kernel)) (aL9 (by decide +kernel))
theorem dL_law_1731 : decode cL_law 1731 = .ok (.iconst 1, 1) := de9_4 (aL9 (by decide +kernel))
theorem dL_law_1732 : decode cL_law 1732 = .ok (.iadd, 1) := de9_96 (aL9 (by decide +kernel))
theorem dL_law_1733 : decode cL_law 1733 = .ok (.iaload, 1) := de9_46 (aL9 (by decide +kernel))
theorem dL_law_1734 : decode cL_law 1734 = .ok (.aload_n 0, 1) := de9_42 (aL9 (by decide +kernel))
theorem dL_law_1735 : decode cL_law 1735 = .ok (.iload 4, 2) := de9_21 (aL9 (by decide +kernel)) (aL9 (by decide +kernel))
theorem dL_law_1737 : decode cL_law 1737 = .ok (.iconst 2, 1) := de9_5 (aL9 (by decide +kernel))
theorem dL_law_1738 : decode cL_law 1738 = .ok (.iadd, 1) := de9_96 (aL9 (by decide +kernel))
theorem dL_law_1739 : decode cL_law 1739 = .ok (.iaload, 1) := de9_46 (aL9 (by decide +kernel))
theorem dL_law_1740 : decode cL_law 1740 = .ok (.invokevirtual 337, 3) := de9_182 (a := 1) (b := 81) (aL9 (by decide +kernel)) (aL9 (by decide +kernel)) (aL9 (by decide +kernel)) (by decide +kernel)
theorem dL_law_1743 : decode cL_law 1743 = .ok (.istore 6, 2) := de9_54 (aL9 (by decide +kernel)) (aL9 (by decide +kernel))
theorem dL_law_1745 : decode cL_law 1745 = .ok (.goto 154, 3) := de9_167 (a := 0) (b := 154) (aL9 (by decide +kernel)) (aL9 (by decide +kernel)) (aL9 (by decide +kernel)) (by decide +kernel)
theorem dL_law_1748 : decode cL_law 1748 = .ok (.aload_n 1, 1) := de9_43 (aL9 (by decide +kernel))
theorem dL_law_1749 : decode cL_law 1749 = .ok (.aload_n 0, 1) := de9_42 (aL9 (by decide +kernel))
theorem dL_law_1750 : decode cL_law 1750 = .ok (.iload 4, 2) := de9_21 (aL9 (by decide +kernel)) (aL9 (by decide +kernel))
theorem dL_law_1752 : decode cL_law 1752 = .ok (.iconst 1, 1) := de9_4 (aL9 (by decide +kernel))
theorem dL_law_1753 : decode cL_law 1753 = .ok (.iadd, 1) := de9_96 (aL9 (by decide +kernel))
theorem dL_law_1754 : decode cL_law 1754 = .ok (.iaload, 1) := de9_46 (aL9 (by decide +kernel))
theorem dL_law_1755 : decode cL_law 1755 = .ok (.aload_n 0, 1) := de9_42 (aL9 (by decide +kernel))
theorem dL_law_1756 : decode cL_law 1756 = .ok (.iload 4, 2) := de9_21 (aL9 (by decide +kernel)) (aL9 (by decide +kernel))
theorem dL_law_1758 : decode cL_law 1758 = .ok (.iconst 2, 1) := de9_5 (aL9 (by decide +kernel))
theorem dL_law_1759 : decode cL_law 1759 = .ok (.iadd, 1) := de9_96 (aL9 (by decide +kernel))
theorem dL_law_1760 : decode cL_law 1760 = .ok (.iaload, 1) := de9_46 (aL9 (by decide +kernel))
theorem dL_law_1761 : decode cL_law 1761 = .ok (.aload_n 3, 1) := de9_45 (aL9 (by decide +kernel))
theorem dL_law_1762 : decode cL_law 1762 = .ok (.invokestatic 338, 3) := de9_184 (a := 1) (b := 82) (aL9 (by decide +kernel)) (aL9 (by decide +kernel)) (aL9 (by decide +kernel)) (by decide +kernel)
theorem dL_law_1765 : decode cL_law 1765 = .ok (.istore 5, 2) := de9_54 (aL9 (by decide +kernel)) (aL9 (by decide +kernel))
theorem dL_law_1767 : decode cL_law 1767 = .ok (.aload_n 2, 1) := de9_44 (aL9 (by decide +kernel))
theorem dL_law_1768 : decode cL_law 1768 = .ok (.aload_n 0, 1) := de9_42 (aL9 (by decide +kernel))
theorem dL_law_1769 : decode cL_law 1769 = .ok (.iload 4, 2) := de9_21 (aL9 (by decide +kernel)) (aL9 (by decide +kernel))
theorem dL_law_1771 : decode cL_law 1771 = .ok (.iconst 1, 1) := de9_4 (aL9 (by decide +kernel))
theorem dL_law_1772 : decode cL_law 1772 = .ok (.iadd, 1) := de9_96 (aL9 (by decide +kernel))
theorem dL_law_1773 : decode cL_law 1773 = .ok (.iaload, 1) := de9_46 (aL9 (by decide +kernel))
theorem dL_law_1774 : decode cL_law 1774 = .ok (.aload_n 0, 1) := de9_42 (aL9 (by decide +kernel))
theorem dL_law_1775 : decode cL_law 1775 = .ok (.iload 4, 2) := de9_21 (aL9 (by decide +kernel)) (aL9 (by decide +kernel))
theorem dL_law_1777 : decode cL_law 1777 = .ok (.iconst 2, 1) := de9_5 (aL9 (by decide +kernel))
theorem dL_law_1778 : decode cL_law 1778 = .ok (.iadd, 1) := de9_96 (aL9 (by decide +kernel))
theorem dL_law_1779 : decode cL_law 1779 = .ok (.iaload, 1) := de9_46 (aL9 (by decide +kernel))
theorem dL_law_1780 : decode cL_law 1780 = .ok (.invokevirtual 340, 3) := de9_182 (a := 1) (b := 84) (aL9 (by decide +kernel)) (aL9 (by decide +kernel)) (aL9 (by decide +kernel)) (by decide +kernel)
theorem dL_law_1783 : decode cL_law 1783 = .ok (.istore 6, 2) := de9_54 (aL9 (by decide +kernel)) (aL9 (by decide +kernel))
theorem dL_law_1785 : decode cL_law 1785 = .ok (.goto 114, 3) := de9_167 (a := 0) (b := 114) (aL9 (by decide +kernel)) (aL9 (by decide +kernel)) (aL9 (by decide +kernel)) (by decide +kernel)
theorem dL_law_1788 : decode cL_law 1788 = .ok (.aload_n 1, 1) := de9_43 (aL9 (by decide +kernel))
theorem dL_law_1789 : decode cL_law 1789 = .ok (.aload_n 0, 1) := de9_42 (aL9 (by decide +kernel))
theorem dL_law_1790 : decode cL_law 1790 = .ok (.iload 4, 2) := de9_21 (aL9 (by decide +kernel)) (aL9 (by decide +kernel))
theorem dL_law_1792 : decode cL_law 1792 = .ok (.iconst 1, 1) := de9_4 (aL9 (by decide +kernel))
theorem dL_law_1793 : decode cL_law 1793 = .ok (.iadd, 1) := de9_96 (aL9 (by decide +kernel))
theorem dL_law_1794 : decode cL_law 1794 = .ok (.iaload, 1) := de9_46 (aL9 (by decide +kernel))
theorem dL_law_1795 : decode cL_law 1795 = .ok (.aload_n 3, 1) := de9_45 (aL9 (by decide +kernel))
theorem dL_law_1796 : decode cL_law 1796 = .ok (.invokestatic 341, 3) := de9_184 (a := 1) (b := 85) (aL9 (by decide +kernel)) (aL9 (by decide +kernel)) (aL9 (by decide +kernel)) (by decide +kernel)
theorem dL_law_1799 : decode cL_law 1799 = .ok (.istore 5, 2) := de9_54 (aL9 (by decide +kernel)) (aL9 (by decide +kernel))
theorem dL_law_1801 : decode cL_law 1801 = .ok (.aload_n 2, 1) := de9_44 (aL9 (by decide +kernel))
theorem dL_law_1802 : decode cL_law 1802 = .ok (.aload_n 0, 1) := de9_42 (aL9 (by decide +kernel))
theorem dL_law_1803 : decode cL_law 1803 = .ok (.iload 4, 2) := de9_21 (aL9 (by decide +kernel)) (aL9 (by decide +kernel))
theorem dL_law_1805 : decode cL_law 1805 = .ok (.iconst 1, 1) := de9_4 (aL9 (by decide +kernel))
theorem dL_law_1806 : decode cL_law 1806 = .ok (.iadd, 1) := de9_96 (aL9 (by decide +kernel))
theorem dL_law_1807 : decode cL_law 1807 = .ok (.iaload, 1) := de9_46 (aL9 (by decide +kernel))
theorem dL_law_1808 : decode cL_law 1808 = .ok (.invokevirtual 343, 3) := de9_182 (a := 1) (b := 87) (aL9 (by decide +kernel)) (aL9 (by decide +kernel)) (aL9 (by decide +kernel)) (by decide +kernel)
theorem dL_law_1811 : decode cL_law 1811 = .ok (.istore 6, 2) := de9_54 (aL9 (by decide +kernel)) (aL9 (by decide +kernel))
theorem dL_law_1813 : decode cL_law 1813 = .ok (.goto 86, 3) := de9_167 (a := 0) (b := 86) (aL9 (by decide +kernel)) (aL9 (by decide +kernel)) (aL9 (by decide +kernel)) (by decide +kernel)
theorem dL_law_1816 : decode cL_law 1816 = .ok (.aload_n 1, 1) := de9_43 (aL9 (by decide +kernel))
theorem dL_law_1817 : decode cL_law 1817 = .ok (.aload_n 3, 1) := de9_45 (aL9 (by decide +kernel))
theorem dL_law_1818 : decode cL_law 1818 = .ok (.invokestatic 344, 3) := de9_184 (a := 1) (b := 88) (aL9 (by decide +kernel)) (aL9 (by decide +kernel)) (aL9 (by decide +kernel)) (by decide +kernel)
theorem dL_law_1821 : decode cL_law 1821 = .ok (.istore 5, 2) := de9_54 (aL9 (by decide +kernel)) (aL9 (by decide +kernel))
theorem dL_law_1823 : decode cL_law 1823 = .ok (.aload_n 2, 1) := de9_44 (aL9 (by decide +kernel))
theorem dL_law_1824 : decode cL_law 1824 = .ok (.invokevirtual 346, 3) := de9_182 (a := 1) (b := 90) (aL9 (by decide +kernel)) (aL9 (by decide +kernel)) (aL9 (by decide +kernel)) (by decide +kernel)
theorem dL_law_1827 : decode cL_law 1827 = .ok (.istore 6, 2) := de9_54 (aL9 (by decide +kernel)) (aL9 (by decide +kernel))
theorem dL_law_1829 : decode cL_law 1829 = .ok (.goto 70, 3) := de9_167 (a := 0) (b := 70) (aL9 (by decide +kernel)) (aL9 (by decide +kernel)) (aL9 (by decide +kernel)) (by decide +kernel)
theorem dL_law_1832 : decode cL_law 1832 = .ok (.aload_n 1, 1) := de9_43 (aL9 (by decide +kernel))
theorem dL_law_1833 : decode cL_law 1833 = .ok (.invokevirtual 347, 3) := de9_182 (a := 1) (b := 91) (aL9 (by decide +kernel)) (aL9 (by decide +kernel)) (aL9 (by decide +kernel)) (by decide +kernel)
theorem dL_law_1836 : decode cL_law 1836 = .ok (.pop, 1) := de9_87 (aL9 (by decide +kernel))
theorem dL_law_1837 : decode cL_law 1837 = .ok (.aload_n 2, 1) := de9_44 (aL9 (by decide +kernel))
theorem dL_law_1838 : decode cL_law 1838 = .ok (.invokevirtual 350, 3) := de9_182 (a := 1) (b := 94) (aL9 (by decide +kernel)) (aL9 (by decide +kernel)) (aL9 (by decide +kernel)) (by decide +kernel)
theorem dL_law_1841 : decode cL_law 1841 = .ok (.pop, 1) := de9_87 (aL9 (by decide +kernel))
theorem dL_law_1842 : decode cL_law 1842 = .ok (.goto 57, 3) := de9_167 (a := 0) (b := 57) (aL9 (by decide +kernel)) (aL9 (by decide +kernel)) (aL9 (by decide +kernel)) (by decide +kernel)
theorem dL_law_1845 : decode cL_law 1845 = .ok (.aload_n 1, 1) := de9_43 (aL9 (by decide +kernel))
theorem dL_law_1846 : decode cL_law 1846 = .ok (.aload_n 3, 1) := de9_45 (aL9 (by decide +kernel))
theorem dL_law_1847 : decode cL_law 1847 = .ok (.invokestatic 351, 3) := de9_184 (a := 1) (b := 95) (aL9 (by decide +kernel)) (aL9 (by decide +kernel)) (aL9 (by decide +kernel)) (by decide +kernel)
theorem dL_law_1850 : decode cL_law 1850 = .ok (.istore 5, 2) := de9_54 (aL9 (by decide +kernel)) (aL9 (by decide +kernel))
theorem dL_law_1852 : decode cL_law 1852 = .ok (.aload_n 2, 1) := de9_44 (aL9 (by decide +kernel))
theorem dL_law_1853 : decode cL_law 1853 = .ok (.invokevirtual 353, 3) := de9_182 (a := 1) (b := 97) (aL9 (by decide +kernel)) (aL9 (by decide +kernel)) (aL9 (by decide +kernel)) (by decide +kernel)
theorem dL_law_1856 : decode cL_law 1856 = .ok (.istore 6, 2) := de9_54 (aL9 (by decide +kernel)) (aL9 (by decide +kernel))
theorem dL_law_1858 : decode cL_law 1858 = .ok (.goto 41, 3) := de9_167 (a := 0) (b := 41) (aL9 (by decide +kernel)) (aL9 (by decide +kernel)) (aL9 (by decide +kernel)) (by decide +kernel)
theorem dL_law_1861 : decode cL_law 1861 = .ok (.aload_n 1, 1) := de9_43 (aL9 (by decide +kernel))
theorem dL_law_1862 : decode cL_law 1862 = .ok (.invokevirtual 354, 3) := de9_182 (a := 1) (b := 98) (aL9 (by decide +kernel)) (aL9 (by decide +kernel)) (aL9 (by decide +kernel)) (by decide +kernel)
theorem dL_law_1865 : decode cL_law 1865 = .ok (.pop, 1) := de9_87 (aL9 (by decide +kernel))
theorem dL_law_1866 : decode cL_law 1866 = .ok (.aload_n 2, 1) := de9_44 (aL9 (by decide +kernel))
theorem dL_law_1867 : decode cL_law 1867 = .ok (.invokevirtual 357, 3) := de9_182 (a := 1) (b := 101) (aL9 (by decide +kernel)) (aL9 (by decide +kernel)) (aL9 (by decide +kernel)) (by decide +kernel)
theorem dL_law_1870 : decode cL_law 1870 = .ok (.pop, 1) := de9_87 (aL9 (by decide +kernel))
theorem dL_law_1871 : decode cL_law 1871 = .ok (.goto 28, 3) := de9_167 (a := 0) (b := 28) (aL9 (by decide +kernel)) (aL9 (by decide +kernel)) (aL9 (by decide +kernel)) (by decide +kernel)
theorem dL_law_1874 : decode cL_law 1874 = .ok (.aload_n 1, 1) := de9_43 (aL9 (by decide +kernel))
theorem dL_law_1875 : decode cL_law 1875 = .ok (.aload_n 0, 1) := de9_42 (aL9 (by decide +kernel))
theorem dL_law_1876 : decode cL_law 1876 = .ok (.iload 4, 2) := de9_21 (aL9 (by decide +kernel)) (aL9 (by decide +kernel))
theorem dL_law_1878 : decode cL_law 1878 = .ok (.iconst 1, 1) := de9_4 (aL9 (by decide +kernel))
theorem dL_law_1879 : decode cL_law 1879 = .ok (.iadd, 1) := de9_96 (aL9 (by decide +kernel))
theorem dL_law_1880 : decode cL_law 1880 = .ok (.iaload, 1) := de9_46 (aL9 (by decide +kernel))
theorem dL_law_1881 : decode cL_law 1881 = .ok (.invokevirtual 358, 3) := de9_182 (a := 1) (b := 102) (aL9 (by decide +kernel)) (aL9 (by decide +kernel)) (aL9 (by decide +kernel)) (by decide +kernel)
theorem dL_law_1884 : decode cL_law 1884 = .ok (.pop, 1) := de9_87 (aL9 (by decide +kernel))
theorem dL_law_1885 : decode cL_law 1885 = .ok (.aload_n 2, 1) := de9_44 (aL9 (by decide +kernel))
theorem dL_law_1886 : decode cL_law 1886 = .ok (.aload_n 0, 1) := de9_42 (aL9 (by decide +kernel))
theorem dL_law_1887 : decode cL_law 1887 = .ok (.iload 4, 2) := de9_21 (aL9 (by decide +kernel)) (aL9 (by decide +kernel))
theorem dL_law_1889 : decode cL_law 1889 = .ok (.iconst 1, 1) := de9_4 (aL9 (by decide +kernel))
theorem dL_law_1890 : decode cL_law 1890 = .ok (.iadd, 1) := de9_96 (aL9 (by decide +kernel))
theorem dL_law_1891 : decode cL_law 1891 = .ok (.iaload, 1) := de9_46 (aL9 (by decide +kernel))
theorem dL_law_1892 : decode cL_law 1892 = .ok (.invokevirtual 361, 3) := de9_182 (a := 1) (b := 105) (aL9 (by decide +kernel)) (aL9 (by decide +kernel)) (aL9 (by decide +kernel)) (by decide +kernel)
theorem dL_law_1895 : decode cL_law 1895 = .ok (.pop, 1) := de9_87 (aL9 (by decide +kernel))
theorem dL_law_1896 : decode cL_law 1896 = .ok (.goto 3, 3) := de9_167 (a := 0) (b := 3) (aL9 (by decide +kernel)) (aL9 (by decide +kernel)) (aL9 (by decide +kernel)) (by decide +kernel)
theorem dL_law_1899 : decode cL_law 1899 = .ok (.iinc 4 6, 3) := by decide +kernel
theorem dL_law_1902 : decode cL_law 1902 = .ok (.goto (-1879), 3) := de9_167 (a := 248) (b := 169) (aL9 (by decide +kernel)) (aL9 (by decide +kernel)) (aL9 (by decide +kernel)) (by decide +kernel)
theorem dL_law_1905 : decode cL_law 1905 = .ok (.iconst 1, 1) := de9_4 (aL9 (by decide +kernel))
theorem dL_law_1906 : decode cL_law 1906 = .ok (.ireturn, 1) := de9_172 (aL9 (by decide +kernel))
