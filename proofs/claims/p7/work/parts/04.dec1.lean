theorem dX0_init_0 : decode cX0_init 0 = .ok (.aload_n 0, 1) := by decide +kernel
theorem dX0_init_1 : decode cX0_init 1 = .ok (.invokespecial 3, 3) := by decide +kernel
theorem dX0_init_4 : decode cX0_init 4 = .ok (.aload_n 0, 1) := by decide +kernel
theorem dX0_init_5 : decode cX0_init 5 = .ok (.iload_n 1, 1) := by decide +kernel
theorem dX0_init_6 : decode cX0_init 6 = .ok (.iconst 0, 1) := by decide +kernel
theorem dX0_init_7 : decode cX0_init 7 = .ok (.invokestatic 9, 3) := by decide +kernel
theorem dX0_init_10 : decode cX0_init 10 = .ok (.newarray .byte, 2) := by decide +kernel
theorem dX0_init_12 : decode cX0_init 12 = .ok (.putfield 15, 3) := by decide +kernel
theorem dX0_init_15 : decode cX0_init 15 = .ok (.return_, 1) := by decide +kernel
theorem dX0_add_0 : decode cX0_add 0 = .ok (.aload_n 0, 1) := by decide +kernel
theorem dX0_add_1 : decode cX0_add 1 = .ok (.getfield 21, 3) := by decide +kernel
theorem dX0_add_4 : decode cX0_add 4 = .ok (.aload_n 0, 1) := by decide +kernel
theorem dX0_add_5 : decode cX0_add 5 = .ok (.getfield 15, 3) := by decide +kernel
theorem dX0_add_8 : decode cX0_add 8 = .ok (.arraylength, 1) := by decide +kernel
theorem dX0_add_9 : decode cX0_add 9 = .ok (.if_icmp .ge 24, 3) := by decide +kernel
theorem dX0_add_12 : decode cX0_add 12 = .ok (.aload_n 0, 1) := by decide +kernel
theorem dX0_add_13 : decode cX0_add 13 = .ok (.getfield 15, 3) := by decide +kernel
theorem dX0_add_16 : decode cX0_add 16 = .ok (.aload_n 0, 1) := by decide +kernel
theorem dX0_add_17 : decode cX0_add 17 = .ok (.getfield 21, 3) := by decide +kernel
theorem dX0_add_20 : decode cX0_add 20 = .ok (.iload_n 1, 1) := by decide +kernel
theorem dX0_add_21 : decode cX0_add 21 = .ok (.i2b, 1) := by decide +kernel
theorem dX0_add_22 : decode cX0_add 22 = .ok (.bastore, 1) := by decide +kernel
theorem dX0_add_23 : decode cX0_add 23 = .ok (.aload_n 0, 1) := by decide +kernel
theorem dX0_add_24 : decode cX0_add 24 = .ok (.dup, 1) := by decide +kernel
theorem dX0_add_25 : decode cX0_add 25 = .ok (.getfield 21, 3) := by decide +kernel
theorem dX0_add_28 : decode cX0_add 28 = .ok (.iconst 1, 1) := by decide +kernel
theorem dX0_add_29 : decode cX0_add 29 = .ok (.iadd, 1) := by decide +kernel
theorem dX0_add_30 : decode cX0_add 30 = .ok (.putfield 21, 3) := by decide +kernel
theorem dX0_add_33 : decode cX0_add 33 = .ok (.return_, 1) := by decide +kernel
theorem dX0_addInt_0 : decode cX0_addInt 0 = .ok (.aload_n 0, 1) := by decide +kernel
theorem dX0_addInt_1 : decode cX0_addInt 1 = .ok (.iload_n 1, 1) := by decide +kernel
theorem dX0_addInt_2 : decode cX0_addInt 2 = .ok (.bipush 24, 2) := by decide +kernel
theorem dX0_addInt_4 : decode cX0_addInt 4 = .ok (.ishr, 1) := by decide +kernel
theorem dX0_addInt_5 : decode cX0_addInt 5 = .ok (.invokevirtual 25, 3) := by decide +kernel
theorem dX0_addInt_8 : decode cX0_addInt 8 = .ok (.aload_n 0, 1) := by decide +kernel
theorem dX0_addInt_9 : decode cX0_addInt 9 = .ok (.iload_n 1, 1) := by decide +kernel
theorem dX0_addInt_10 : decode cX0_addInt 10 = .ok (.bipush 16, 2) := by decide +kernel
theorem dX0_addInt_12 : decode cX0_addInt 12 = .ok (.ishr, 1) := by decide +kernel
theorem dX0_addInt_13 : decode cX0_addInt 13 = .ok (.invokevirtual 25, 3) := by decide +kernel
theorem dX0_addInt_16 : decode cX0_addInt 16 = .ok (.aload_n 0, 1) := by decide +kernel
theorem dX0_addInt_17 : decode cX0_addInt 17 = .ok (.iload_n 1, 1) := by decide +kernel
theorem dX0_addInt_18 : decode cX0_addInt 18 = .ok (.bipush 8, 2) := by decide +kernel
theorem dX0_addInt_20 : decode cX0_addInt 20 = .ok (.ishr, 1) := by decide +kernel
theorem dX0_addInt_21 : decode cX0_addInt 21 = .ok (.invokevirtual 25, 3) := by decide +kernel
theorem dX0_addInt_24 : decode cX0_addInt 24 = .ok (.aload_n 0, 1) := by decide +kernel
theorem dX0_addInt_25 : decode cX0_addInt 25 = .ok (.iload_n 1, 1) := by decide +kernel
theorem dX0_addInt_26 : decode cX0_addInt 26 = .ok (.invokevirtual 25, 3) := by decide +kernel
theorem dX0_addInt_29 : decode cX0_addInt 29 = .ok (.return_, 1) := by decide +kernel
theorem dX0_addName_0 : decode cX0_addName 0 = .ok (.bipush 40, 2) := by decide +kernel
theorem dX0_addName_2 : decode cX0_addName 2 = .ok (.istore_n 3, 1) := by decide +kernel
theorem dX0_addName_3 : decode cX0_addName 3 = .ok (.iload_n 3, 1) := by decide +kernel
theorem dX0_addName_4 : decode cX0_addName 4 = .ok (.ifCond .lt 30, 3) := by decide +kernel
theorem dX0_addName_7 : decode cX0_addName 7 = .ok (.lload_n 1, 1) := by decide +kernel
theorem dX0_addName_8 : decode cX0_addName 8 = .ok (.iload_n 3, 1) := by decide +kernel
theorem dX0_addName_9 : decode cX0_addName 9 = .ok (.lshr, 1) := by decide +kernel
theorem dX0_addName_10 : decode cX0_addName 10 = .ok (.l2i, 1) := by decide +kernel
theorem dX0_addName_11 : decode cX0_addName 11 = .ok (.sipush 255, 3) := by decide +kernel
theorem dX0_addName_14 : decode cX0_addName 14 = .ok (.iand, 1) := by decide +kernel
theorem dX0_addName_15 : decode cX0_addName 15 = .ok (.istore 4, 2) := by decide +kernel
theorem dX0_addName_17 : decode cX0_addName 17 = .ok (.iload 4, 2) := by decide +kernel
theorem dX0_addName_19 : decode cX0_addName 19 = .ok (.ifCond .eq 9, 3) := by decide +kernel
theorem dX0_addName_22 : decode cX0_addName 22 = .ok (.aload_n 0, 1) := by decide +kernel
theorem dX0_addName_23 : decode cX0_addName 23 = .ok (.iload 4, 2) := by decide +kernel
theorem dX0_addName_25 : decode cX0_addName 25 = .ok (.invokevirtual 25, 3) := by decide +kernel
theorem dX0_addName_28 : decode cX0_addName 28 = .ok (.iinc 3 (-8), 3) := by decide +kernel
theorem dX0_addName_31 : decode cX0_addName 31 = .ok (.goto (-28), 3) := by decide +kernel
theorem dX0_addName_34 : decode cX0_addName 34 = .ok (.return_, 1) := by decide +kernel
theorem dX0_byteAt_0 : decode cX0_byteAt 0 = .ok (.iload_n 1, 1) := by decide +kernel
theorem dX0_byteAt_1 : decode cX0_byteAt 1 = .ok (.ifCond .lt 11, 3) := by decide +kernel
theorem dX0_byteAt_4 : decode cX0_byteAt 4 = .ok (.iload_n 1, 1) := by decide +kernel
theorem dX0_byteAt_5 : decode cX0_byteAt 5 = .ok (.aload_n 0, 1) := by decide +kernel
theorem dX0_byteAt_6 : decode cX0_byteAt 6 = .ok (.getfield 21, 3) := by decide +kernel
theorem dX0_byteAt_9 : decode cX0_byteAt 9 = .ok (.if_icmp .lt 5, 3) := by decide +kernel
theorem dX0_byteAt_12 : decode cX0_byteAt 12 = .ok (.iconst (-1), 1) := by decide +kernel
theorem dX0_byteAt_13 : decode cX0_byteAt 13 = .ok (.ireturn, 1) := by decide +kernel
theorem dX0_byteAt_14 : decode cX0_byteAt 14 = .ok (.aload_n 0, 1) := by decide +kernel
theorem dX0_byteAt_15 : decode cX0_byteAt 15 = .ok (.getfield 15, 3) := by decide +kernel
theorem dX0_byteAt_18 : decode cX0_byteAt 18 = .ok (.iload_n 1, 1) := by decide +kernel
theorem dX0_byteAt_19 : decode cX0_byteAt 19 = .ok (.baload, 1) := by decide +kernel
theorem dX0_byteAt_20 : decode cX0_byteAt 20 = .ok (.sipush 255, 3) := by decide +kernel
theorem dX0_byteAt_23 : decode cX0_byteAt 23 = .ok (.iand, 1) := by decide +kernel
theorem dX0_byteAt_24 : decode cX0_byteAt 24 = .ok (.ireturn, 1) := by decide +kernel
theorem dX0_nameAt_0 : decode cX0_nameAt 0 = .ok (.iload_n 2, 1) := by decide +kernel
theorem dX0_nameAt_1 : decode cX0_nameAt 1 = .ok (.iconst 1, 1) := by decide +kernel
theorem dX0_nameAt_2 : decode cX0_nameAt 2 = .ok (.if_icmp .lt 9, 3) := by decide +kernel
theorem dX0_nameAt_5 : decode cX0_nameAt 5 = .ok (.iload_n 2, 1) := by decide +kernel
theorem dX0_nameAt_6 : decode cX0_nameAt 6 = .ok (.bipush 6, 2) := by decide +kernel
theorem dX0_nameAt_8 : decode cX0_nameAt 8 = .ok (.if_icmp .le 5, 3) := by decide +kernel
theorem dX0_nameAt_11 : decode cX0_nameAt 11 = .ok (.lconst 0, 1) := by decide +kernel
theorem dX0_nameAt_12 : decode cX0_nameAt 12 = .ok (.lreturn, 1) := by decide +kernel
theorem dX0_nameAt_13 : decode cX0_nameAt 13 = .ok (.lconst 0, 1) := by decide +kernel
theorem dX0_nameAt_14 : decode cX0_nameAt 14 = .ok (.lstore_n 3, 1) := by decide +kernel
theorem dX0_nameAt_15 : decode cX0_nameAt 15 = .ok (.iconst 0, 1) := by decide +kernel
theorem dX0_nameAt_16 : decode cX0_nameAt 16 = .ok (.istore 5, 2) := by decide +kernel
theorem dX0_nameAt_18 : decode cX0_nameAt 18 = .ok (.iload 5, 2) := by decide +kernel
theorem dX0_nameAt_20 : decode cX0_nameAt 20 = .ok (.iload_n 2, 1) := by decide +kernel
theorem dX0_nameAt_21 : decode cX0_nameAt 21 = .ok (.if_icmp .ge 44, 3) := by decide +kernel
theorem dX0_nameAt_24 : decode cX0_nameAt 24 = .ok (.aload_n 0, 1) := by decide +kernel
theorem dX0_nameAt_25 : decode cX0_nameAt 25 = .ok (.iload_n 1, 1) := by decide +kernel
theorem dX0_nameAt_26 : decode cX0_nameAt 26 = .ok (.iload 5, 2) := by decide +kernel
theorem dX0_nameAt_28 : decode cX0_nameAt 28 = .ok (.iadd, 1) := by decide +kernel
theorem dX0_nameAt_29 : decode cX0_nameAt 29 = .ok (.invokevirtual 29, 3) := by decide +kernel
theorem dX0_nameAt_32 : decode cX0_nameAt 32 = .ok (.istore 6, 2) := by decide +kernel
theorem dX0_nameAt_34 : decode cX0_nameAt 34 = .ok (.iload 6, 2) := by decide +kernel
theorem dX0_nameAt_36 : decode cX0_nameAt 36 = .ok (.bipush 97, 2) := by decide +kernel
theorem dX0_nameAt_38 : decode cX0_nameAt 38 = .ok (.if_icmp .lt 10, 3) := by decide +kernel
theorem dX0_nameAt_41 : decode cX0_nameAt 41 = .ok (.iload 6, 2) := by decide +kernel
theorem dX0_nameAt_43 : decode cX0_nameAt 43 = .ok (.bipush 122, 2) := by decide +kernel
theorem dX0_nameAt_45 : decode cX0_nameAt 45 = .ok (.if_icmp .le 5, 3) := by decide +kernel
theorem dX0_nameAt_48 : decode cX0_nameAt 48 = .ok (.lconst 0, 1) := by decide +kernel
theorem dX0_nameAt_49 : decode cX0_nameAt 49 = .ok (.lreturn, 1) := by decide +kernel
theorem dX0_nameAt_50 : decode cX0_nameAt 50 = .ok (.lload_n 3, 1) := by decide +kernel
theorem dX0_nameAt_51 : decode cX0_nameAt 51 = .ok (.bipush 8, 2) := by decide +kernel
theorem dX0_nameAt_53 : decode cX0_nameAt 53 = .ok (.lshl, 1) := by decide +kernel
theorem dX0_nameAt_54 : decode cX0_nameAt 54 = .ok (.iload 6, 2) := by decide +kernel
theorem dX0_nameAt_56 : decode cX0_nameAt 56 = .ok (.i2l, 1) := by decide +kernel
theorem dX0_nameAt_57 : decode cX0_nameAt 57 = .ok (.lor, 1) := by decide +kernel
theorem dX0_nameAt_58 : decode cX0_nameAt 58 = .ok (.lstore_n 3, 1) := by decide +kernel
theorem dX0_nameAt_59 : decode cX0_nameAt 59 = .ok (.iinc 5 1, 3) := by decide +kernel
theorem dX0_nameAt_62 : decode cX0_nameAt 62 = .ok (.goto (-44), 3) := by decide +kernel
theorem dX0_nameAt_65 : decode cX0_nameAt 65 = .ok (.lload_n 3, 1) := by decide +kernel
theorem dX0_nameAt_66 : decode cX0_nameAt 66 = .ok (.lreturn, 1) := by decide +kernel
theorem dX1_init_0 : decode cX1_init 0 = .ok (.aload_n 0, 1) := by decide +kernel
theorem dX1_init_1 : decode cX1_init 1 = .ok (.invokespecial 3, 3) := by decide +kernel
theorem dX1_init_4 : decode cX1_init 4 = .ok (.aload_n 0, 1) := by decide +kernel
theorem dX1_init_5 : decode cX1_init 5 = .ok (.bipush 30, 2) := by decide +kernel
theorem dX1_init_7 : decode cX1_init 7 = .ok (.newarray .int, 2) := by decide +kernel
theorem dX1_init_9 : decode cX1_init 9 = .ok (.putfield 9, 3) := by decide +kernel
theorem dX1_init_12 : decode cX1_init 12 = .ok (.aload_n 0, 1) := by decide +kernel
theorem dX1_init_13 : decode cX1_init 13 = .ok (.bipush 30, 2) := by decide +kernel
theorem dX1_init_15 : decode cX1_init 15 = .ok (.newarray .int, 2) := by decide +kernel
theorem dX1_init_17 : decode cX1_init 17 = .ok (.putfield 15, 3) := by decide +kernel
theorem dX1_init_20 : decode cX1_init 20 = .ok (.aload_n 0, 1) := by decide +kernel
theorem dX1_init_21 : decode cX1_init 21 = .ok (.bipush 30, 2) := by decide +kernel
theorem dX1_init_23 : decode cX1_init 23 = .ok (.newarray .int, 2) := by decide +kernel
theorem dX1_init_25 : decode cX1_init 25 = .ok (.putfield 18, 3) := by decide +kernel
theorem dX1_init_28 : decode cX1_init 28 = .ok (.aload_n 0, 1) := by decide +kernel
theorem dX1_init_29 : decode cX1_init 29 = .ok (.aload_n 1, 1) := by decide +kernel
theorem dX1_init_30 : decode cX1_init 30 = .ok (.putfield 21, 3) := by decide +kernel
theorem dX1_init_33 : decode cX1_init 33 = .ok (.return_, 1) := by decide +kernel
theorem dX1_parse_0 : decode cX1_parse 0 = .ok (.aload_n 0, 1) := by decide +kernel
theorem dX1_parse_1 : decode cX1_parse 1 = .ok (.getfield 21, 3) := by decide +kernel
theorem dX1_parse_4 : decode cX1_parse 4 = .ok (.invokevirtual 25, 3) := by decide +kernel
theorem dX1_parse_7 : decode cX1_parse 7 = .ok (.aload_n 0, 1) := by decide +kernel
theorem dX1_parse_8 : decode cX1_parse 8 = .ok (.iconst 0, 1) := by decide +kernel
theorem dX1_parse_9 : decode cX1_parse 9 = .ok (.putfield 30, 3) := by decide +kernel
theorem dX1_parse_12 : decode cX1_parse 12 = .ok (.iconst 0, 1) := by decide +kernel
theorem dX1_parse_13 : decode cX1_parse 13 = .ok (.istore_n 2, 1) := by decide +kernel
theorem dX1_parse_14 : decode cX1_parse 14 = .ok (.iload_n 2, 1) := by decide +kernel
theorem dX1_parse_15 : decode cX1_parse 15 = .ok (.bipush 30, 2) := by decide +kernel
theorem dX1_parse_17 : decode cX1_parse 17 = .ok (.if_icmp .gt 106, 3) := by decide +kernel
theorem dX1_parse_20 : decode cX1_parse 20 = .ok (.aload_n 0, 1) := by decide +kernel
theorem dX1_parse_21 : decode cX1_parse 21 = .ok (.getfield 21, 3) := by decide +kernel
theorem dX1_parse_24 : decode cX1_parse 24 = .ok (.invokevirtual 34, 3) := by decide +kernel
theorem dX1_parse_27 : decode cX1_parse 27 = .ok (.aload_n 0, 1) := by decide +kernel
theorem dX1_parse_28 : decode cX1_parse 28 = .ok (.getfield 21, 3) := by decide +kernel
theorem dX1_parse_31 : decode cX1_parse 31 = .ok (.getfield 37, 3) := by decide +kernel
theorem dX1_parse_34 : decode cX1_parse 34 = .ok (.ifCond .ne 5, 3) := by decide +kernel
theorem dX1_parse_37 : decode cX1_parse 37 = .ok (.iconst 1, 1) := by decide +kernel
theorem dX1_parse_38 : decode cX1_parse 38 = .ok (.ireturn, 1) := by decide +kernel
theorem dX1_parse_39 : decode cX1_parse 39 = .ok (.aload_n 0, 1) := by decide +kernel
theorem dX1_parse_40 : decode cX1_parse 40 = .ok (.invokevirtual 40, 3) := by decide +kernel
theorem dX1_parse_43 : decode cX1_parse 43 = .ok (.istore_n 3, 1) := by decide +kernel
theorem dX1_parse_44 : decode cX1_parse 44 = .ok (.iload_n 3, 1) := by decide +kernel
theorem dX1_parse_45 : decode cX1_parse 45 = .ok (.iconst (-1), 1) := by decide +kernel
theorem dX1_parse_46 : decode cX1_parse 46 = .ok (.if_icmp .ne 12, 3) := by decide +kernel
theorem dX1_parse_49 : decode cX1_parse 49 = .ok (.aload_n 0, 1) := by decide +kernel
theorem dX1_parse_50 : decode cX1_parse 50 = .ok (.getfield 21, 3) := by decide +kernel
theorem dX1_parse_53 : decode cX1_parse 53 = .ok (.iconst 1, 1) := by decide +kernel
theorem dX1_parse_54 : decode cX1_parse 54 = .ok (.invokevirtual 44, 3) := by decide +kernel
theorem dX1_parse_57 : decode cX1_parse 57 = .ok (.ireturn, 1) := by decide +kernel
theorem dX1_parse_58 : decode cX1_parse 58 = .ok (.aload_n 0, 1) := by decide +kernel
theorem dX1_parse_59 : decode cX1_parse 59 = .ok (.getfield 30, 3) := by decide +kernel
theorem dX1_parse_62 : decode cX1_parse 62 = .ok (.bipush 30, 2) := by decide +kernel
theorem dX1_parse_64 : decode cX1_parse 64 = .ok (.if_icmp .lt 12, 3) := by decide +kernel
theorem dX1_parse_67 : decode cX1_parse 67 = .ok (.aload_n 0, 1) := by decide +kernel
theorem dX1_parse_68 : decode cX1_parse 68 = .ok (.getfield 21, 3) := by decide +kernel
theorem dX1_parse_71 : decode cX1_parse 71 = .ok (.iconst 4, 1) := by decide +kernel
theorem dX1_parse_72 : decode cX1_parse 72 = .ok (.invokevirtual 44, 3) := by decide +kernel
theorem dX1_parse_75 : decode cX1_parse 75 = .ok (.ireturn, 1) := by decide +kernel
theorem dX1_parse_76 : decode cX1_parse 76 = .ok (.aload_n 0, 1) := by decide +kernel
theorem dX1_parse_77 : decode cX1_parse 77 = .ok (.getfield 9, 3) := by decide +kernel
theorem dX1_parse_80 : decode cX1_parse 80 = .ok (.aload_n 0, 1) := by decide +kernel
theorem dX1_parse_81 : decode cX1_parse 81 = .ok (.getfield 30, 3) := by decide +kernel
theorem dX1_parse_84 : decode cX1_parse 84 = .ok (.iload_n 3, 1) := by decide +kernel
theorem dX1_parse_85 : decode cX1_parse 85 = .ok (.iastore, 1) := by decide +kernel
theorem dX1_parse_86 : decode cX1_parse 86 = .ok (.aload_n 0, 1) := by decide +kernel
theorem dX1_parse_87 : decode cX1_parse 87 = .ok (.iload_n 3, 1) := by decide +kernel
theorem dX1_parse_88 : decode cX1_parse 88 = .ok (.aload_n 1, 1) := by decide +kernel
theorem dX1_parse_89 : decode cX1_parse 89 = .ok (.invokevirtual 48, 3) := by decide +kernel
theorem dX1_parse_92 : decode cX1_parse 92 = .ok (.ifCond .eq 13, 3) := by decide +kernel
theorem dX1_parse_95 : decode cX1_parse 95 = .ok (.aload_n 0, 1) := by decide +kernel
theorem dX1_parse_96 : decode cX1_parse 96 = .ok (.getfield 21, 3) := by decide +kernel
theorem dX1_parse_99 : decode cX1_parse 99 = .ok (.invokevirtual 52, 3) := by decide +kernel
theorem dX1_parse_102 : decode cX1_parse 102 = .ok (.ifCond .ne 5, 3) := by decide +kernel
theorem dX1_parse_105 : decode cX1_parse 105 = .ok (.iconst 0, 1) := by decide +kernel
theorem dX1_parse_106 : decode cX1_parse 106 = .ok (.ireturn, 1) := by decide +kernel
theorem dX1_parse_107 : decode cX1_parse 107 = .ok (.aload_n 0, 1) := by decide +kernel
theorem dX1_parse_108 : decode cX1_parse 108 = .ok (.dup, 1) := by decide +kernel
theorem dX1_parse_109 : decode cX1_parse 109 = .ok (.getfield 30, 3) := by decide +kernel
theorem dX1_parse_112 : decode cX1_parse 112 = .ok (.iconst 1, 1) := by decide +kernel
theorem dX1_parse_113 : decode cX1_parse 113 = .ok (.iadd, 1) := by decide +kernel
theorem dX1_parse_114 : decode cX1_parse 114 = .ok (.putfield 30, 3) := by decide +kernel
theorem dX1_parse_117 : decode cX1_parse 117 = .ok (.iinc 2 1, 3) := by decide +kernel
theorem dX1_parse_120 : decode cX1_parse 120 = .ok (.goto (-106), 3) := by decide +kernel
theorem dX1_parse_123 : decode cX1_parse 123 = .ok (.aload_n 0, 1) := by decide +kernel
theorem dX1_parse_124 : decode cX1_parse 124 = .ok (.getfield 21, 3) := by decide +kernel
theorem dX1_parse_127 : decode cX1_parse 127 = .ok (.iconst 4, 1) := by decide +kernel
theorem dX1_parse_128 : decode cX1_parse 128 = .ok (.invokevirtual 44, 3) := by decide +kernel
theorem dX1_parse_131 : decode cX1_parse 131 = .ok (.ireturn, 1) := by decide +kernel
theorem dX1_verbRead_0 : decode cX1_verbRead 0 = .ok (.aload_n 0, 1) := by decide +kernel
theorem dX1_verbRead_1 : decode cX1_verbRead 1 = .ok (.getfield 21, 3) := by decide +kernel
theorem dX1_verbRead_4 : decode cX1_verbRead 4 = .ok (.ldc 56, 2) := by decide +kernel
theorem dX1_verbRead_6 : decode cX1_verbRead 6 = .ok (.invokevirtual 58, 3) := by decide +kernel
theorem dX1_verbRead_9 : decode cX1_verbRead 9 = .ok (.ifCond .eq 5, 3) := by decide +kernel
theorem dX1_verbRead_12 : decode cX1_verbRead 12 = .ok (.iconst 0, 1) := by decide +kernel
theorem dX1_verbRead_13 : decode cX1_verbRead 13 = .ok (.ireturn, 1) := by decide +kernel
theorem dX1_verbRead_14 : decode cX1_verbRead 14 = .ok (.aload_n 0, 1) := by decide +kernel
theorem dX1_verbRead_15 : decode cX1_verbRead 15 = .ok (.getfield 21, 3) := by decide +kernel
theorem dX1_verbRead_18 : decode cX1_verbRead 18 = .ok (.ldc 62, 2) := by decide +kernel
theorem dX1_verbRead_20 : decode cX1_verbRead 20 = .ok (.invokevirtual 58, 3) := by decide +kernel
theorem dX1_verbRead_23 : decode cX1_verbRead 23 = .ok (.ifCond .eq 5, 3) := by decide +kernel
theorem dX1_verbRead_26 : decode cX1_verbRead 26 = .ok (.iconst 1, 1) := by decide +kernel
theorem dX1_verbRead_27 : decode cX1_verbRead 27 = .ok (.ireturn, 1) := by decide +kernel
theorem dX1_verbRead_28 : decode cX1_verbRead 28 = .ok (.aload_n 0, 1) := by decide +kernel
theorem dX1_verbRead_29 : decode cX1_verbRead 29 = .ok (.getfield 21, 3) := by decide +kernel
theorem dX1_verbRead_32 : decode cX1_verbRead 32 = .ok (.ldc 64, 2) := by decide +kernel
theorem dX1_verbRead_34 : decode cX1_verbRead 34 = .ok (.invokevirtual 58, 3) := by decide +kernel
theorem dX1_verbRead_37 : decode cX1_verbRead 37 = .ok (.ifCond .eq 5, 3) := by decide +kernel
theorem dX1_verbRead_40 : decode cX1_verbRead 40 = .ok (.iconst 2, 1) := by decide +kernel
theorem dX1_verbRead_41 : decode cX1_verbRead 41 = .ok (.ireturn, 1) := by decide +kernel
theorem dX1_verbRead_42 : decode cX1_verbRead 42 = .ok (.aload_n 0, 1) := by decide +kernel
theorem dX1_verbRead_43 : decode cX1_verbRead 43 = .ok (.getfield 21, 3) := by decide +kernel
theorem dX1_verbRead_46 : decode cX1_verbRead 46 = .ok (.ldc 66, 2) := by decide +kernel
theorem dX1_verbRead_48 : decode cX1_verbRead 48 = .ok (.invokevirtual 58, 3) := by decide +kernel
theorem dX1_verbRead_51 : decode cX1_verbRead 51 = .ok (.ifCond .eq 5, 3) := by decide +kernel
theorem dX1_verbRead_54 : decode cX1_verbRead 54 = .ok (.iconst 3, 1) := by decide +kernel
theorem dX1_verbRead_55 : decode cX1_verbRead 55 = .ok (.ireturn, 1) := by decide +kernel
theorem dX1_verbRead_56 : decode cX1_verbRead 56 = .ok (.aload_n 0, 1) := by decide +kernel
theorem dX1_verbRead_57 : decode cX1_verbRead 57 = .ok (.getfield 21, 3) := by decide +kernel
theorem dX1_verbRead_60 : decode cX1_verbRead 60 = .ok (.ldc 68, 2) := by decide +kernel
theorem dX1_verbRead_62 : decode cX1_verbRead 62 = .ok (.invokevirtual 58, 3) := by decide +kernel
theorem dX1_verbRead_65 : decode cX1_verbRead 65 = .ok (.ifCond .eq 5, 3) := by decide +kernel
theorem dX1_verbRead_68 : decode cX1_verbRead 68 = .ok (.iconst 4, 1) := by decide +kernel
theorem dX1_verbRead_69 : decode cX1_verbRead 69 = .ok (.ireturn, 1) := by decide +kernel
theorem dX1_verbRead_70 : decode cX1_verbRead 70 = .ok (.aload_n 0, 1) := by decide +kernel
theorem dX1_verbRead_71 : decode cX1_verbRead 71 = .ok (.getfield 21, 3) := by decide +kernel
theorem dX1_verbRead_74 : decode cX1_verbRead 74 = .ok (.ldc 70, 2) := by decide +kernel
theorem dX1_verbRead_76 : decode cX1_verbRead 76 = .ok (.invokevirtual 58, 3) := by decide +kernel
theorem dX1_verbRead_79 : decode cX1_verbRead 79 = .ok (.ifCond .eq 5, 3) := by decide +kernel
theorem dX1_verbRead_82 : decode cX1_verbRead 82 = .ok (.iconst 5, 1) := by decide +kernel
theorem dX1_verbRead_83 : decode cX1_verbRead 83 = .ok (.ireturn, 1) := by decide +kernel
theorem dX1_verbRead_84 : decode cX1_verbRead 84 = .ok (.aload_n 0, 1) := by decide +kernel
theorem dX1_verbRead_85 : decode cX1_verbRead 85 = .ok (.getfield 21, 3) := by decide +kernel
theorem dX1_verbRead_88 : decode cX1_verbRead 88 = .ok (.ldc 72, 2) := by decide +kernel
theorem dX1_verbRead_90 : decode cX1_verbRead 90 = .ok (.invokevirtual 58, 3) := by decide +kernel
theorem dX1_verbRead_93 : decode cX1_verbRead 93 = .ok (.ifCond .eq 8, 3) := by decide +kernel
theorem dX1_verbRead_96 : decode cX1_verbRead 96 = .ok (.bipush 6, 2) := by decide +kernel
theorem dX1_verbRead_98 : decode cX1_verbRead 98 = .ok (.goto 4, 3) := by decide +kernel
theorem dX1_verbRead_101 : decode cX1_verbRead 101 = .ok (.iconst (-1), 1) := by decide +kernel
theorem dX1_verbRead_102 : decode cX1_verbRead 102 = .ok (.ireturn, 1) := by decide +kernel
theorem dX1_takeParameters_0 : decode cX1_takeParameters 0 = .ok (.aload_n 0, 1) := by decide +kernel
theorem dX1_takeParameters_1 : decode cX1_takeParameters 1 = .ok (.getfield 15, 3) := by decide +kernel
theorem dX1_takeParameters_4 : decode cX1_takeParameters 4 = .ok (.aload_n 0, 1) := by decide +kernel
theorem dX1_takeParameters_5 : decode cX1_takeParameters 5 = .ok (.getfield 30, 3) := by decide +kernel
theorem dX1_takeParameters_8 : decode cX1_takeParameters 8 = .ok (.iconst 0, 1) := by decide +kernel
theorem dX1_takeParameters_9 : decode cX1_takeParameters 9 = .ok (.iastore, 1) := by decide +kernel
theorem dX1_takeParameters_10 : decode cX1_takeParameters 10 = .ok (.aload_n 0, 1) := by decide +kernel
theorem dX1_takeParameters_11 : decode cX1_takeParameters 11 = .ok (.getfield 18, 3) := by decide +kernel
theorem dX1_takeParameters_14 : decode cX1_takeParameters 14 = .ok (.aload_n 0, 1) := by decide +kernel
theorem dX1_takeParameters_15 : decode cX1_takeParameters 15 = .ok (.getfield 30, 3) := by decide +kernel
theorem dX1_takeParameters_18 : decode cX1_takeParameters 18 = .ok (.iconst 0, 1) := by decide +kernel
theorem dX1_takeParameters_19 : decode cX1_takeParameters 19 = .ok (.iastore, 1) := by decide +kernel
theorem dX1_takeParameters_20 : decode cX1_takeParameters 20 = .ok (.iload_n 1, 1) := by decide +kernel
theorem dX1_takeParameters_21 : decode cX1_takeParameters 21 = .ok (.tableswitch 101 0 6 #[45, 43, 101, 74, 101, 101, 74], 43) := by decide +kernel
theorem dX1_takeParameters_64 : decode cX1_takeParameters 64 = .ok (.iconst 1, 1) := by decide +kernel
theorem dX1_takeParameters_65 : decode cX1_takeParameters 65 = .ok (.ireturn, 1) := by decide +kernel
theorem dX1_takeParameters_66 : decode cX1_takeParameters 66 = .ok (.aload_n 0, 1) := by decide +kernel
theorem dX1_takeParameters_67 : decode cX1_takeParameters 67 = .ok (.getfield 21, 3) := by decide +kernel
theorem dX1_takeParameters_70 : decode cX1_takeParameters 70 = .ok (.iconst 1, 1) := by decide +kernel
theorem dX1_takeParameters_71 : decode cX1_takeParameters 71 = .ok (.bipush 60, 2) := by decide +kernel
theorem dX1_takeParameters_73 : decode cX1_takeParameters 73 = .ok (.invokevirtual 74, 3) := by decide +kernel
theorem dX1_takeParameters_76 : decode cX1_takeParameters 76 = .ok (.istore_n 3, 1) := by decide +kernel
theorem dX1_takeParameters_77 : decode cX1_takeParameters 77 = .ok (.aload_n 0, 1) := by decide +kernel
theorem dX1_takeParameters_78 : decode cX1_takeParameters 78 = .ok (.getfield 15, 3) := by decide +kernel
theorem dX1_takeParameters_81 : decode cX1_takeParameters 81 = .ok (.aload_n 0, 1) := by decide +kernel
theorem dX1_takeParameters_82 : decode cX1_takeParameters 82 = .ok (.getfield 30, 3) := by decide +kernel
theorem dX1_takeParameters_85 : decode cX1_takeParameters 85 = .ok (.aload_n 0, 1) := by decide +kernel
theorem dX1_takeParameters_86 : decode cX1_takeParameters 86 = .ok (.getfield 21, 3) := by decide +kernel
theorem dX1_takeParameters_89 : decode cX1_takeParameters 89 = .ok (.getfield 78, 3) := by decide +kernel
theorem dX1_takeParameters_92 : decode cX1_takeParameters 92 = .ok (.iastore, 1) := by decide +kernel
theorem dX1_takeParameters_93 : decode cX1_takeParameters 93 = .ok (.iload_n 3, 1) := by decide +kernel
theorem dX1_takeParameters_94 : decode cX1_takeParameters 94 = .ok (.ireturn, 1) := by decide +kernel
theorem dX1_takeParameters_95 : decode cX1_takeParameters 95 = .ok (.aload_n 0, 1) := by decide +kernel
theorem dX1_takeParameters_96 : decode cX1_takeParameters 96 = .ok (.getfield 21, 3) := by decide +kernel
theorem dX1_takeParameters_99 : decode cX1_takeParameters 99 = .ok (.aload_n 2, 1) := by decide +kernel
theorem dX1_takeParameters_100 : decode cX1_takeParameters 100 = .ok (.invokevirtual 81, 3) := by decide +kernel
theorem dX1_takeParameters_103 : decode cX1_takeParameters 103 = .ok (.istore_n 3, 1) := by decide +kernel
theorem dX1_takeParameters_104 : decode cX1_takeParameters 104 = .ok (.aload_n 0, 1) := by decide +kernel
theorem dX1_takeParameters_105 : decode cX1_takeParameters 105 = .ok (.getfield 15, 3) := by decide +kernel
theorem dX1_takeParameters_108 : decode cX1_takeParameters 108 = .ok (.aload_n 0, 1) := by decide +kernel
theorem dX1_takeParameters_109 : decode cX1_takeParameters 109 = .ok (.getfield 30, 3) := by decide +kernel
theorem dX1_takeParameters_112 : decode cX1_takeParameters 112 = .ok (.aload_n 0, 1) := by decide +kernel
theorem dX1_takeParameters_113 : decode cX1_takeParameters 113 = .ok (.getfield 21, 3) := by decide +kernel
theorem dX1_takeParameters_116 : decode cX1_takeParameters 116 = .ok (.getfield 78, 3) := by decide +kernel
theorem dX1_takeParameters_119 : decode cX1_takeParameters 119 = .ok (.iastore, 1) := by decide +kernel
theorem dX1_takeParameters_120 : decode cX1_takeParameters 120 = .ok (.iload_n 3, 1) := by decide +kernel
theorem dX1_takeParameters_121 : decode cX1_takeParameters 121 = .ok (.ireturn, 1) := by decide +kernel
theorem dX1_takeParameters_122 : decode cX1_takeParameters 122 = .ok (.aload_n 0, 1) := by decide +kernel
theorem dX1_takeParameters_123 : decode cX1_takeParameters 123 = .ok (.iload_n 1, 1) := by decide +kernel
theorem dX1_takeParameters_124 : decode cX1_takeParameters 124 = .ok (.aload_n 2, 1) := by decide +kernel
theorem dX1_takeParameters_125 : decode cX1_takeParameters 125 = .ok (.invokevirtual 85, 3) := by decide +kernel
theorem dX1_takeParameters_128 : decode cX1_takeParameters 128 = .ok (.ireturn, 1) := by decide +kernel
theorem dX1_takeValleyAndMore_0 : decode cX1_takeValleyAndMore 0 = .ok (.aload_n 0, 1) := by decide +kernel
theorem dX1_takeValleyAndMore_1 : decode cX1_takeValleyAndMore 1 = .ok (.getfield 21, 3) := by decide +kernel
theorem dX1_takeValleyAndMore_4 : decode cX1_takeValleyAndMore 4 = .ok (.aload_n 2, 1) := by decide +kernel
theorem dX1_takeValleyAndMore_5 : decode cX1_takeValleyAndMore 5 = .ok (.invokevirtual 88, 3) := by decide +kernel
theorem dX1_takeValleyAndMore_8 : decode cX1_takeValleyAndMore 8 = .ok (.ifCond .ne 5, 3) := by decide +kernel
theorem dX1_takeValleyAndMore_11 : decode cX1_takeValleyAndMore 11 = .ok (.iconst 0, 1) := by decide +kernel
theorem dX1_takeValleyAndMore_12 : decode cX1_takeValleyAndMore 12 = .ok (.ireturn, 1) := by decide +kernel
theorem dX1_takeValleyAndMore_13 : decode cX1_takeValleyAndMore 13 = .ok (.aload_n 0, 1) := by decide +kernel
theorem dX1_takeValleyAndMore_14 : decode cX1_takeValleyAndMore 14 = .ok (.getfield 15, 3) := by decide +kernel
theorem dX1_takeValleyAndMore_17 : decode cX1_takeValleyAndMore 17 = .ok (.aload_n 0, 1) := by decide +kernel
theorem dX1_takeValleyAndMore_18 : decode cX1_takeValleyAndMore 18 = .ok (.getfield 30, 3) := by decide +kernel
theorem dX1_takeValleyAndMore_21 : decode cX1_takeValleyAndMore 21 = .ok (.aload_n 0, 1) := by decide +kernel
theorem dX1_takeValleyAndMore_22 : decode cX1_takeValleyAndMore 22 = .ok (.getfield 21, 3) := by decide +kernel
theorem dX1_takeValleyAndMore_25 : decode cX1_takeValleyAndMore 25 = .ok (.getfield 78, 3) := by decide +kernel
theorem dX1_takeValleyAndMore_28 : decode cX1_takeValleyAndMore 28 = .ok (.iastore, 1) := by decide +kernel
theorem dX1_takeValleyAndMore_29 : decode cX1_takeValleyAndMore 29 = .ok (.iload_n 1, 1) := by decide +kernel
theorem dX1_takeValleyAndMore_30 : decode cX1_takeValleyAndMore 30 = .ok (.iconst 2, 1) := by decide +kernel
theorem dX1_takeValleyAndMore_31 : decode cX1_takeValleyAndMore 31 = .ok (.if_icmp .ne 15, 3) := by decide +kernel
theorem dX1_takeValleyAndMore_34 : decode cX1_takeValleyAndMore 34 = .ok (.aload_n 0, 1) := by decide +kernel
theorem dX1_takeValleyAndMore_35 : decode cX1_takeValleyAndMore 35 = .ok (.getfield 21, 3) := by decide +kernel
theorem dX1_takeValleyAndMore_38 : decode cX1_takeValleyAndMore 38 = .ok (.aload_n 2, 1) := by decide +kernel
theorem dX1_takeValleyAndMore_39 : decode cX1_takeValleyAndMore 39 = .ok (.invokevirtual 81, 3) := by decide +kernel
theorem dX1_takeValleyAndMore_42 : decode cX1_takeValleyAndMore 42 = .ok (.istore_n 3, 1) := by decide +kernel
theorem dX1_takeValleyAndMore_43 : decode cX1_takeValleyAndMore 43 = .ok (.goto 25, 3) := by decide +kernel
theorem dX1_takeValleyAndMore_46 : decode cX1_takeValleyAndMore 46 = .ok (.aload_n 0, 1) := by decide +kernel
theorem dX1_takeValleyAndMore_47 : decode cX1_takeValleyAndMore 47 = .ok (.getfield 21, 3) := by decide +kernel
theorem dX1_takeValleyAndMore_50 : decode cX1_takeValleyAndMore 50 = .ok (.iconst 1, 1) := by decide +kernel
theorem dX1_takeValleyAndMore_51 : decode cX1_takeValleyAndMore 51 = .ok (.iload_n 1, 1) := by decide +kernel
theorem dX1_takeValleyAndMore_52 : decode cX1_takeValleyAndMore 52 = .ok (.iconst 4, 1) := by decide +kernel
theorem dX1_takeValleyAndMore_53 : decode cX1_takeValleyAndMore 53 = .ok (.if_icmp .ne 8, 3) := by decide +kernel
theorem dX1_takeValleyAndMore_56 : decode cX1_takeValleyAndMore 56 = .ok (.bipush 99, 2) := by decide +kernel
theorem dX1_takeValleyAndMore_58 : decode cX1_takeValleyAndMore 58 = .ok (.goto 6, 3) := by decide +kernel
theorem dX1_takeValleyAndMore_61 : decode cX1_takeValleyAndMore 61 = .ok (.sipush 999, 3) := by decide +kernel
theorem dX1_takeValleyAndMore_64 : decode cX1_takeValleyAndMore 64 = .ok (.invokevirtual 74, 3) := by decide +kernel
theorem dX1_takeValleyAndMore_67 : decode cX1_takeValleyAndMore 67 = .ok (.istore_n 3, 1) := by decide +kernel
theorem dX1_takeValleyAndMore_68 : decode cX1_takeValleyAndMore 68 = .ok (.aload_n 0, 1) := by decide +kernel
theorem dX1_takeValleyAndMore_69 : decode cX1_takeValleyAndMore 69 = .ok (.getfield 18, 3) := by decide +kernel
theorem dX1_takeValleyAndMore_72 : decode cX1_takeValleyAndMore 72 = .ok (.aload_n 0, 1) := by decide +kernel
theorem dX1_takeValleyAndMore_73 : decode cX1_takeValleyAndMore 73 = .ok (.getfield 30, 3) := by decide +kernel
theorem dX1_takeValleyAndMore_76 : decode cX1_takeValleyAndMore 76 = .ok (.aload_n 0, 1) := by decide +kernel
theorem dX1_takeValleyAndMore_77 : decode cX1_takeValleyAndMore 77 = .ok (.getfield 21, 3) := by decide +kernel
theorem dX1_takeValleyAndMore_80 : decode cX1_takeValleyAndMore 80 = .ok (.getfield 78, 3) := by decide +kernel
theorem dX1_takeValleyAndMore_83 : decode cX1_takeValleyAndMore 83 = .ok (.iastore, 1) := by decide +kernel
theorem dX1_takeValleyAndMore_84 : decode cX1_takeValleyAndMore 84 = .ok (.iload_n 3, 1) := by decide +kernel
theorem dX1_takeValleyAndMore_85 : decode cX1_takeValleyAndMore 85 = .ok (.ireturn, 1) := by decide +kernel
theorem dX2_init_0 : decode cX2_init 0 = .ok (.aload_n 0, 1) := by decide +kernel
theorem dX2_init_1 : decode cX2_init 1 = .ok (.invokespecial 3, 3) := by decide +kernel
theorem dX2_init_4 : decode cX2_init 4 = .ok (.aload_n 0, 1) := by decide +kernel
theorem dX2_init_5 : decode cX2_init 5 = .ok (.aload_n 1, 1) := by decide +kernel
theorem dX2_init_6 : decode cX2_init 6 = .ok (.putfield 9, 3) := by decide +kernel
theorem dX2_init_9 : decode cX2_init 9 = .ok (.aload_n 0, 1) := by decide +kernel
theorem dX2_init_10 : decode cX2_init 10 = .ok (.aload_n 2, 1) := by decide +kernel
theorem dX2_init_11 : decode cX2_init 11 = .ok (.putfield 15, 3) := by decide +kernel
theorem dX2_init_14 : decode cX2_init 14 = .ok (.aload_n 0, 1) := by decide +kernel
theorem dX2_init_15 : decode cX2_init 15 = .ok (.aload_n 3, 1) := by decide +kernel
theorem dX2_init_16 : decode cX2_init 16 = .ok (.putfield 19, 3) := by decide +kernel
theorem dX2_init_19 : decode cX2_init 19 = .ok (.return_, 1) := by decide +kernel
theorem dX2_parse_0 : decode cX2_parse 0 = .ok (.aload_n 0, 1) := by decide +kernel
theorem dX2_parse_1 : decode cX2_parse 1 = .ok (.getfield 9, 3) := by decide +kernel
theorem dX2_parse_4 : decode cX2_parse 4 = .ok (.invokevirtual 23, 3) := by decide +kernel
theorem dX2_parse_7 : decode cX2_parse 7 = .ok (.aload_n 0, 1) := by decide +kernel
theorem dX2_parse_8 : decode cX2_parse 8 = .ok (.getfield 15, 3) := by decide +kernel
theorem dX2_parse_11 : decode cX2_parse 11 = .ok (.invokevirtual 28, 3) := by decide +kernel
theorem dX2_parse_14 : decode cX2_parse 14 = .ok (.aload_n 0, 1) := by decide +kernel
theorem dX2_parse_15 : decode cX2_parse 15 = .ok (.invokevirtual 33, 3) := by decide +kernel
theorem dX2_parse_18 : decode cX2_parse 18 = .ok (.ifCond .eq 10, 3) := by decide +kernel
theorem dX2_parse_21 : decode cX2_parse 21 = .ok (.aload_n 0, 1) := by decide +kernel
theorem dX2_parse_22 : decode cX2_parse 22 = .ok (.invokevirtual 37, 3) := by decide +kernel
theorem dX2_parse_25 : decode cX2_parse 25 = .ok (.ifCond .ne 5, 3) := by decide +kernel
theorem dX2_parse_28 : decode cX2_parse 28 = .ok (.iconst 0, 1) := by decide +kernel
theorem dX2_parse_29 : decode cX2_parse 29 = .ok (.ireturn, 1) := by decide +kernel
theorem dX2_parse_30 : decode cX2_parse 30 = .ok (.iconst 0, 1) := by decide +kernel
theorem dX2_parse_31 : decode cX2_parse 31 = .ok (.istore_n 1, 1) := by decide +kernel
theorem dX2_parse_32 : decode cX2_parse 32 = .ok (.iload_n 1, 1) := by decide +kernel
theorem dX2_parse_33 : decode cX2_parse 33 = .ok (.sipush 900, 3) := by decide +kernel
theorem dX2_parse_36 : decode cX2_parse 36 = .ok (.if_icmp .gt 40, 3) := by decide +kernel
theorem dX2_parse_39 : decode cX2_parse 39 = .ok (.aload_n 0, 1) := by decide +kernel
theorem dX2_parse_40 : decode cX2_parse 40 = .ok (.getfield 9, 3) := by decide +kernel
theorem dX2_parse_43 : decode cX2_parse 43 = .ok (.invokevirtual 40, 3) := by decide +kernel
theorem dX2_parse_46 : decode cX2_parse 46 = .ok (.aload_n 0, 1) := by decide +kernel
theorem dX2_parse_47 : decode cX2_parse 47 = .ok (.getfield 9, 3) := by decide +kernel
theorem dX2_parse_50 : decode cX2_parse 50 = .ok (.getfield 43, 3) := by decide +kernel
theorem dX2_parse_53 : decode cX2_parse 53 = .ok (.ifCond .ne 8, 3) := by decide +kernel
theorem dX2_parse_56 : decode cX2_parse 56 = .ok (.aload_n 0, 1) := by decide +kernel
theorem dX2_parse_57 : decode cX2_parse 57 = .ok (.invokevirtual 47, 3) := by decide +kernel
theorem dX2_parse_60 : decode cX2_parse 60 = .ok (.ireturn, 1) := by decide +kernel
theorem dX2_parse_61 : decode cX2_parse 61 = .ok (.aload_n 0, 1) := by decide +kernel
theorem dX2_parse_62 : decode cX2_parse 62 = .ok (.invokevirtual 50, 3) := by decide +kernel
theorem dX2_parse_65 : decode cX2_parse 65 = .ok (.ifCond .ne 5, 3) := by decide +kernel
theorem dX2_parse_68 : decode cX2_parse 68 = .ok (.iconst 0, 1) := by decide +kernel
theorem dX2_parse_69 : decode cX2_parse 69 = .ok (.ireturn, 1) := by decide +kernel
theorem dX2_parse_70 : decode cX2_parse 70 = .ok (.iinc 1 1, 3) := by decide +kernel
theorem dX2_parse_73 : decode cX2_parse 73 = .ok (.goto (-41), 3) := by decide +kernel
theorem dX2_parse_76 : decode cX2_parse 76 = .ok (.aload_n 0, 1) := by decide +kernel
theorem dX2_parse_77 : decode cX2_parse 77 = .ok (.getfield 9, 3) := by decide +kernel
theorem dX2_parse_80 : decode cX2_parse 80 = .ok (.iconst 4, 1) := by decide +kernel
theorem dX2_parse_81 : decode cX2_parse 81 = .ok (.invokevirtual 53, 3) := by decide +kernel
theorem dX2_parse_84 : decode cX2_parse 84 = .ok (.ireturn, 1) := by decide +kernel
theorem dX2_isComplete_0 : decode cX2_isComplete 0 = .ok (.aload_n 0, 1) := by decide +kernel
theorem dX2_isComplete_1 : decode cX2_isComplete 1 = .ok (.getfield 15, 3) := by decide +kernel
theorem dX2_isComplete_4 : decode cX2_isComplete 4 = .ok (.getfield 57, 3) := by decide +kernel
theorem dX2_isComplete_7 : decode cX2_isComplete 7 = .ok (.ifCond .le 13, 3) := by decide +kernel
theorem dX2_isComplete_10 : decode cX2_isComplete 10 = .ok (.aload_n 0, 1) := by decide +kernel
theorem dX2_isComplete_11 : decode cX2_isComplete 11 = .ok (.getfield 15, 3) := by decide +kernel
theorem dX2_isComplete_14 : decode cX2_isComplete 14 = .ok (.getfield 60, 3) := by decide +kernel
theorem dX2_isComplete_17 : decode cX2_isComplete 17 = .ok (.ifCond .gt 14, 3) := by decide +kernel
theorem dX2_isComplete_20 : decode cX2_isComplete 20 = .ok (.aload_n 0, 1) := by decide +kernel
theorem dX2_isComplete_21 : decode cX2_isComplete 21 = .ok (.getfield 9, 3) := by decide +kernel
theorem dX2_isComplete_24 : decode cX2_isComplete 24 = .ok (.iconst 1, 1) := by decide +kernel
theorem dX2_isComplete_25 : decode cX2_isComplete 25 = .ok (.invokevirtual 53, 3) := by decide +kernel
theorem dX2_isComplete_28 : decode cX2_isComplete 28 = .ok (.ifCond .eq 7, 3) := by decide +kernel
theorem dX2_isComplete_31 : decode cX2_isComplete 31 = .ok (.iconst 1, 1) := by decide +kernel
theorem dX2_isComplete_32 : decode cX2_isComplete 32 = .ok (.goto 4, 3) := by decide +kernel
theorem dX2_isComplete_35 : decode cX2_isComplete 35 = .ok (.iconst 0, 1) := by decide +kernel
theorem dX2_isComplete_36 : decode cX2_isComplete 36 = .ok (.ireturn, 1) := by decide +kernel
theorem dX2_takeSeason_0 : decode cX2_takeSeason 0 = .ok (.aload_n 0, 1) := by decide +kernel
theorem dX2_takeSeason_1 : decode cX2_takeSeason 1 = .ok (.getfield 9, 3) := by decide +kernel
theorem dX2_takeSeason_4 : decode cX2_takeSeason 4 = .ok (.ldc 63, 2) := by decide +kernel
theorem dX2_takeSeason_6 : decode cX2_takeSeason 6 = .ok (.invokevirtual 65, 3) := by decide +kernel
theorem dX2_takeSeason_9 : decode cX2_takeSeason 9 = .ok (.ifCond .eq 16, 3) := by decide +kernel
theorem dX2_takeSeason_12 : decode cX2_takeSeason 12 = .ok (.aload_n 0, 1) := by decide +kernel
theorem dX2_takeSeason_13 : decode cX2_takeSeason 13 = .ok (.getfield 9, 3) := by decide +kernel
theorem dX2_takeSeason_16 : decode cX2_takeSeason 16 = .ok (.iconst 1, 1) := by decide +kernel
theorem dX2_takeSeason_17 : decode cX2_takeSeason 17 = .ok (.bipush 30, 2) := by decide +kernel
theorem dX2_takeSeason_19 : decode cX2_takeSeason 19 = .ok (.invokevirtual 69, 3) := by decide +kernel
theorem dX2_takeSeason_22 : decode cX2_takeSeason 22 = .ok (.ifCond .ne 5, 3) := by decide +kernel
theorem dX2_takeSeason_25 : decode cX2_takeSeason 25 = .ok (.iconst 0, 1) := by decide +kernel
theorem dX2_takeSeason_26 : decode cX2_takeSeason 26 = .ok (.ireturn, 1) := by decide +kernel
theorem dX2_takeSeason_27 : decode cX2_takeSeason 27 = .ok (.aload_n 0, 1) := by decide +kernel
theorem dX2_takeSeason_28 : decode cX2_takeSeason 28 = .ok (.getfield 19, 3) := by decide +kernel
theorem dX2_takeSeason_31 : decode cX2_takeSeason 31 = .ok (.aload_n 0, 1) := by decide +kernel
theorem dX2_takeSeason_32 : decode cX2_takeSeason 32 = .ok (.getfield 9, 3) := by decide +kernel
theorem dX2_takeSeason_35 : decode cX2_takeSeason 35 = .ok (.getfield 73, 3) := by decide +kernel
theorem dX2_takeSeason_38 : decode cX2_takeSeason 38 = .ok (.putfield 76, 3) := by decide +kernel
theorem dX2_takeSeason_41 : decode cX2_takeSeason 41 = .ok (.aload_n 0, 1) := by decide +kernel
theorem dX2_takeSeason_42 : decode cX2_takeSeason 42 = .ok (.getfield 9, 3) := by decide +kernel
theorem dX2_takeSeason_45 : decode cX2_takeSeason 45 = .ok (.invokevirtual 81, 3) := by decide +kernel
theorem dX2_takeSeason_48 : decode cX2_takeSeason 48 = .ok (.ireturn, 1) := by decide +kernel
theorem dX2_takeFog_0 : decode cX2_takeFog 0 = .ok (.aload_n 0, 1) := by decide +kernel
theorem dX2_takeFog_1 : decode cX2_takeFog 1 = .ok (.getfield 19, 3) := by decide +kernel
theorem dX2_takeFog_4 : decode cX2_takeFog 4 = .ok (.iconst 0, 1) := by decide +kernel
theorem dX2_takeFog_5 : decode cX2_takeFog 5 = .ok (.putfield 84, 3) := by decide +kernel
theorem dX2_takeFog_8 : decode cX2_takeFog 8 = .ok (.aload_n 0, 1) := by decide +kernel
theorem dX2_takeFog_9 : decode cX2_takeFog 9 = .ok (.getfield 9, 3) := by decide +kernel
theorem dX2_takeFog_12 : decode cX2_takeFog 12 = .ok (.ldc 87, 2) := by decide +kernel
theorem dX2_takeFog_14 : decode cX2_takeFog 14 = .ok (.invokevirtual 65, 3) := by decide +kernel
theorem dX2_takeFog_17 : decode cX2_takeFog 17 = .ok (.ifCond .ne 5, 3) := by decide +kernel
theorem dX2_takeFog_20 : decode cX2_takeFog 20 = .ok (.iconst 0, 1) := by decide +kernel
theorem dX2_takeFog_21 : decode cX2_takeFog 21 = .ok (.ireturn, 1) := by decide +kernel
theorem dX2_takeFog_22 : decode cX2_takeFog 22 = .ok (.iconst 0, 1) := by decide +kernel
theorem dX2_takeFog_23 : decode cX2_takeFog 23 = .ok (.istore_n 1, 1) := by decide +kernel
theorem dX2_takeFog_24 : decode cX2_takeFog 24 = .ok (.iload_n 1, 1) := by decide +kernel
theorem dX2_takeFog_25 : decode cX2_takeFog 25 = .ok (.bipush 12, 2) := by decide +kernel
theorem dX2_takeFog_27 : decode cX2_takeFog 27 = .ok (.if_icmp .gt 62, 3) := by decide +kernel
theorem dX2_takeFog_30 : decode cX2_takeFog 30 = .ok (.aload_n 0, 1) := by decide +kernel
theorem dX2_takeFog_31 : decode cX2_takeFog 31 = .ok (.getfield 9, 3) := by decide +kernel
theorem dX2_takeFog_34 : decode cX2_takeFog 34 = .ok (.invokevirtual 40, 3) := by decide +kernel
theorem dX2_takeFog_37 : decode cX2_takeFog 37 = .ok (.iload_n 1, 1) := by decide +kernel
theorem dX2_takeFog_38 : decode cX2_takeFog 38 = .ok (.ifCond .le 16, 3) := by decide +kernel
theorem dX2_takeFog_41 : decode cX2_takeFog 41 = .ok (.aload_n 0, 1) := by decide +kernel
theorem dX2_takeFog_42 : decode cX2_takeFog 42 = .ok (.getfield 9, 3) := by decide +kernel
theorem dX2_takeFog_45 : decode cX2_takeFog 45 = .ok (.getfield 43, 3) := by decide +kernel
theorem dX2_takeFog_48 : decode cX2_takeFog 48 = .ok (.iconst 3, 1) := by decide +kernel
theorem dX2_takeFog_49 : decode cX2_takeFog 49 = .ok (.if_icmp .ne 5, 3) := by decide +kernel
theorem dX2_takeFog_52 : decode cX2_takeFog 52 = .ok (.iconst 1, 1) := by decide +kernel
theorem dX2_takeFog_53 : decode cX2_takeFog 53 = .ok (.ireturn, 1) := by decide +kernel
theorem dX2_takeFog_54 : decode cX2_takeFog 54 = .ok (.aload_n 0, 1) := by decide +kernel
theorem dX2_takeFog_55 : decode cX2_takeFog 55 = .ok (.getfield 9, 3) := by decide +kernel
theorem dX2_takeFog_58 : decode cX2_takeFog 58 = .ok (.iconst 0, 1) := by decide +kernel
theorem dX2_takeFog_59 : decode cX2_takeFog 59 = .ok (.bipush 9, 2) := by decide +kernel
theorem dX2_takeFog_61 : decode cX2_takeFog 61 = .ok (.invokevirtual 89, 3) := by decide +kernel
theorem dX2_takeFog_64 : decode cX2_takeFog 64 = .ok (.ifCond .ne 5, 3) := by decide +kernel
theorem dX2_takeFog_67 : decode cX2_takeFog 67 = .ok (.iconst 0, 1) := by decide +kernel
theorem dX2_takeFog_68 : decode cX2_takeFog 68 = .ok (.ireturn, 1) := by decide +kernel
theorem dX2_takeFog_69 : decode cX2_takeFog 69 = .ok (.aload_n 0, 1) := by decide +kernel
theorem dX2_takeFog_70 : decode cX2_takeFog 70 = .ok (.getfield 19, 3) := by decide +kernel
theorem dX2_takeFog_73 : decode cX2_takeFog 73 = .ok (.aload_n 0, 1) := by decide +kernel
theorem dX2_takeFog_74 : decode cX2_takeFog 74 = .ok (.getfield 9, 3) := by decide +kernel
theorem dX2_takeFog_77 : decode cX2_takeFog 77 = .ok (.getfield 73, 3) := by decide +kernel
theorem dX2_takeFog_80 : decode cX2_takeFog 80 = .ok (.invokevirtual 92, 3) := by decide +kernel
theorem dX2_takeFog_83 : decode cX2_takeFog 83 = .ok (.iinc 1 1, 3) := by decide +kernel
theorem dX2_takeFog_86 : decode cX2_takeFog 86 = .ok (.goto (-62), 3) := by decide +kernel
theorem dX2_takeFog_89 : decode cX2_takeFog 89 = .ok (.aload_n 0, 1) := by decide +kernel
theorem dX2_takeFog_90 : decode cX2_takeFog 90 = .ok (.getfield 9, 3) := by decide +kernel
theorem dX2_takeFog_93 : decode cX2_takeFog 93 = .ok (.iconst 4, 1) := by decide +kernel
theorem dX2_takeFog_94 : decode cX2_takeFog 94 = .ok (.invokevirtual 53, 3) := by decide +kernel
theorem dX2_takeFog_97 : decode cX2_takeFog 97 = .ok (.ireturn, 1) := by decide +kernel
theorem dX2_takeStatement_0 : decode cX2_takeStatement 0 = .ok (.aload_n 0, 1) := by decide +kernel
theorem dX2_takeStatement_1 : decode cX2_takeStatement 1 = .ok (.getfield 9, 3) := by decide +kernel
theorem dX2_takeStatement_4 : decode cX2_takeStatement 4 = .ok (.ldc 96, 2) := by decide +kernel
theorem dX2_takeStatement_6 : decode cX2_takeStatement 6 = .ok (.invokevirtual 98, 3) := by decide +kernel
theorem dX2_takeStatement_9 : decode cX2_takeStatement 9 = .ok (.ifCond .eq 8, 3) := by decide +kernel
theorem dX2_takeStatement_12 : decode cX2_takeStatement 12 = .ok (.aload_n 0, 1) := by decide +kernel
theorem dX2_takeStatement_13 : decode cX2_takeStatement 13 = .ok (.invokevirtual 101, 3) := by decide +kernel
theorem dX2_takeStatement_16 : decode cX2_takeStatement 16 = .ok (.ireturn, 1) := by decide +kernel
theorem dX2_takeStatement_17 : decode cX2_takeStatement 17 = .ok (.aload_n 0, 1) := by decide +kernel
theorem dX2_takeStatement_18 : decode cX2_takeStatement 18 = .ok (.getfield 9, 3) := by decide +kernel
theorem dX2_takeStatement_21 : decode cX2_takeStatement 21 = .ok (.ldc 104, 2) := by decide +kernel
theorem dX2_takeStatement_23 : decode cX2_takeStatement 23 = .ok (.invokevirtual 98, 3) := by decide +kernel
theorem dX2_takeStatement_26 : decode cX2_takeStatement 26 = .ok (.ifCond .eq 8, 3) := by decide +kernel
theorem dX2_takeStatement_29 : decode cX2_takeStatement 29 = .ok (.aload_n 0, 1) := by decide +kernel
theorem dX2_takeStatement_30 : decode cX2_takeStatement 30 = .ok (.invokevirtual 106, 3) := by decide +kernel
theorem dX2_takeStatement_33 : decode cX2_takeStatement 33 = .ok (.ireturn, 1) := by decide +kernel
theorem dX2_takeStatement_34 : decode cX2_takeStatement 34 = .ok (.aload_n 0, 1) := by decide +kernel
theorem dX2_takeStatement_35 : decode cX2_takeStatement 35 = .ok (.getfield 9, 3) := by decide +kernel
theorem dX2_takeStatement_38 : decode cX2_takeStatement 38 = .ok (.ldc 109, 2) := by decide +kernel
theorem dX2_takeStatement_40 : decode cX2_takeStatement 40 = .ok (.invokevirtual 98, 3) := by decide +kernel
theorem dX2_takeStatement_43 : decode cX2_takeStatement 43 = .ok (.ifCond .eq 8, 3) := by decide +kernel
theorem dX2_takeStatement_46 : decode cX2_takeStatement 46 = .ok (.aload_n 0, 1) := by decide +kernel
theorem dX2_takeStatement_47 : decode cX2_takeStatement 47 = .ok (.invokevirtual 111, 3) := by decide +kernel
theorem dX2_takeStatement_50 : decode cX2_takeStatement 50 = .ok (.ireturn, 1) := by decide +kernel
theorem dX2_takeStatement_51 : decode cX2_takeStatement 51 = .ok (.aload_n 0, 1) := by decide +kernel
theorem dX2_takeStatement_52 : decode cX2_takeStatement 52 = .ok (.getfield 9, 3) := by decide +kernel
theorem dX2_takeStatement_55 : decode cX2_takeStatement 55 = .ok (.iconst 1, 1) := by decide +kernel
theorem dX2_takeStatement_56 : decode cX2_takeStatement 56 = .ok (.invokevirtual 53, 3) := by decide +kernel
theorem dX2_takeStatement_59 : decode cX2_takeStatement 59 = .ok (.ireturn, 1) := by decide +kernel
theorem dX2_takeNewEcho_0 : decode cX2_takeNewEcho 0 = .ok (.aload_n 0, 1) := by decide +kernel
theorem dX2_takeNewEcho_1 : decode cX2_takeNewEcho 1 = .ok (.getfield 15, 3) := by decide +kernel
theorem dX2_takeNewEcho_4 : decode cX2_takeNewEcho 4 = .ok (.getfield 57, 3) := by decide +kernel
theorem dX2_takeNewEcho_7 : decode cX2_takeNewEcho 7 = .ok (.bipush 12, 2) := by decide +kernel
theorem dX2_takeNewEcho_9 : decode cX2_takeNewEcho 9 = .ok (.if_icmp .lt 12, 3) := by decide +kernel
theorem dX2_takeNewEcho_12 : decode cX2_takeNewEcho 12 = .ok (.aload_n 0, 1) := by decide +kernel
theorem dX2_takeNewEcho_13 : decode cX2_takeNewEcho 13 = .ok (.getfield 9, 3) := by decide +kernel
theorem dX2_takeNewEcho_16 : decode cX2_takeNewEcho 16 = .ok (.iconst 4, 1) := by decide +kernel
theorem dX2_takeNewEcho_17 : decode cX2_takeNewEcho 17 = .ok (.invokevirtual 53, 3) := by decide +kernel
theorem dX2_takeNewEcho_20 : decode cX2_takeNewEcho 20 = .ok (.ireturn, 1) := by decide +kernel
theorem dX2_takeNewEcho_21 : decode cX2_takeNewEcho 21 = .ok (.aload_n 0, 1) := by decide +kernel
theorem dX2_takeNewEcho_22 : decode cX2_takeNewEcho 22 = .ok (.getfield 9, 3) := by decide +kernel
theorem dX2_takeNewEcho_25 : decode cX2_takeNewEcho 25 = .ok (.invokevirtual 114, 3) := by decide +kernel
theorem dX2_takeNewEcho_28 : decode cX2_takeNewEcho 28 = .ok (.ifCond .ne 5, 3) := by decide +kernel
theorem dX2_takeNewEcho_31 : decode cX2_takeNewEcho 31 = .ok (.iconst 0, 1) := by decide +kernel
theorem dX2_takeNewEcho_32 : decode cX2_takeNewEcho 32 = .ok (.ireturn, 1) := by decide +kernel
theorem dX2_takeNewEcho_33 : decode cX2_takeNewEcho 33 = .ok (.aload_n 0, 1) := by decide +kernel
theorem dX2_takeNewEcho_34 : decode cX2_takeNewEcho 34 = .ok (.getfield 15, 3) := by decide +kernel
theorem dX2_takeNewEcho_37 : decode cX2_takeNewEcho 37 = .ok (.aload_n 0, 1) := by decide +kernel
theorem dX2_takeNewEcho_38 : decode cX2_takeNewEcho 38 = .ok (.getfield 9, 3) := by decide +kernel
theorem dX2_takeNewEcho_41 : decode cX2_takeNewEcho 41 = .ok (.invokevirtual 117, 3) := by decide +kernel
theorem dX2_takeNewEcho_44 : decode cX2_takeNewEcho 44 = .ok (.invokevirtual 121, 3) := by decide +kernel
theorem dX2_takeNewEcho_47 : decode cX2_takeNewEcho 47 = .ok (.iconst (-1), 1) := by decide +kernel
theorem dX2_takeNewEcho_48 : decode cX2_takeNewEcho 48 = .ok (.if_icmp .eq 12, 3) := by decide +kernel
theorem dX2_takeNewEcho_51 : decode cX2_takeNewEcho 51 = .ok (.aload_n 0, 1) := by decide +kernel
theorem dX2_takeNewEcho_52 : decode cX2_takeNewEcho 52 = .ok (.getfield 9, 3) := by decide +kernel
theorem dX2_takeNewEcho_55 : decode cX2_takeNewEcho 55 = .ok (.iconst 3, 1) := by decide +kernel
theorem dX2_takeNewEcho_56 : decode cX2_takeNewEcho 56 = .ok (.invokevirtual 53, 3) := by decide +kernel
theorem dX2_takeNewEcho_59 : decode cX2_takeNewEcho 59 = .ok (.ireturn, 1) := by decide +kernel
theorem dX2_takeNewEcho_60 : decode cX2_takeNewEcho 60 = .ok (.aload_n 0, 1) := by decide +kernel
theorem dX2_takeNewEcho_61 : decode cX2_takeNewEcho 61 = .ok (.getfield 15, 3) := by decide +kernel
theorem dX2_takeNewEcho_64 : decode cX2_takeNewEcho 64 = .ok (.getfield 125, 3) := by decide +kernel
theorem dX2_takeNewEcho_67 : decode cX2_takeNewEcho 67 = .ok (.aload_n 0, 1) := by decide +kernel
theorem dX2_takeNewEcho_68 : decode cX2_takeNewEcho 68 = .ok (.getfield 15, 3) := by decide +kernel
theorem dX2_takeNewEcho_71 : decode cX2_takeNewEcho 71 = .ok (.getfield 57, 3) := by decide +kernel
theorem dX2_takeNewEcho_74 : decode cX2_takeNewEcho 74 = .ok (.aaload, 1) := by decide +kernel
theorem dX2_takeNewEcho_75 : decode cX2_takeNewEcho 75 = .ok (.astore_n 1, 1) := by decide +kernel
theorem dX2_takeNewEcho_76 : decode cX2_takeNewEcho 76 = .ok (.aload_n 1, 1) := by decide +kernel
theorem dX2_takeNewEcho_77 : decode cX2_takeNewEcho 77 = .ok (.aload_n 0, 1) := by decide +kernel
theorem dX2_takeNewEcho_78 : decode cX2_takeNewEcho 78 = .ok (.getfield 9, 3) := by decide +kernel
theorem dX2_takeNewEcho_81 : decode cX2_takeNewEcho 81 = .ok (.invokevirtual 117, 3) := by decide +kernel
theorem dX2_takeNewEcho_84 : decode cX2_takeNewEcho 84 = .ok (.invokevirtual 129, 3) := by decide +kernel
theorem dX2_takeNewEcho_87 : decode cX2_takeNewEcho 87 = .ok (.aload_n 0, 1) := by decide +kernel
theorem dX2_takeNewEcho_88 : decode cX2_takeNewEcho 88 = .ok (.getfield 9, 3) := by decide +kernel
theorem dX2_takeNewEcho_91 : decode cX2_takeNewEcho 91 = .ok (.iconst 1, 1) := by decide +kernel
theorem dX2_takeNewEcho_92 : decode cX2_takeNewEcho 92 = .ok (.bipush 9, 2) := by decide +kernel
theorem dX2_takeNewEcho_94 : decode cX2_takeNewEcho 94 = .ok (.invokevirtual 69, 3) := by decide +kernel
theorem dX2_takeNewEcho_97 : decode cX2_takeNewEcho 97 = .ok (.ifCond .ne 5, 3) := by decide +kernel
theorem dX2_takeNewEcho_100 : decode cX2_takeNewEcho 100 = .ok (.iconst 0, 1) := by decide +kernel
theorem dX2_takeNewEcho_101 : decode cX2_takeNewEcho 101 = .ok (.ireturn, 1) := by decide +kernel
theorem dX2_takeNewEcho_102 : decode cX2_takeNewEcho 102 = .ok (.aload_n 1, 1) := by decide +kernel
theorem dX2_takeNewEcho_103 : decode cX2_takeNewEcho 103 = .ok (.aload_n 0, 1) := by decide +kernel
theorem dX2_takeNewEcho_104 : decode cX2_takeNewEcho 104 = .ok (.getfield 9, 3) := by decide +kernel
theorem dX2_takeNewEcho_107 : decode cX2_takeNewEcho 107 = .ok (.getfield 73, 3) := by decide +kernel
theorem dX2_takeNewEcho_110 : decode cX2_takeNewEcho 110 = .ok (.putfield 135, 3) := by decide +kernel
theorem dX2_takeNewEcho_113 : decode cX2_takeNewEcho 113 = .ok (.aload_n 0, 1) := by decide +kernel
theorem dX2_takeNewEcho_114 : decode cX2_takeNewEcho 114 = .ok (.getfield 9, 3) := by decide +kernel
theorem dX2_takeNewEcho_117 : decode cX2_takeNewEcho 117 = .ok (.iconst 1, 1) := by decide +kernel
theorem dX2_takeNewEcho_118 : decode cX2_takeNewEcho 118 = .ok (.bipush 9, 2) := by decide +kernel
theorem dX2_takeNewEcho_120 : decode cX2_takeNewEcho 120 = .ok (.invokevirtual 69, 3) := by decide +kernel
theorem dX2_takeNewEcho_123 : decode cX2_takeNewEcho 123 = .ok (.ifCond .ne 5, 3) := by decide +kernel
theorem dX2_takeNewEcho_126 : decode cX2_takeNewEcho 126 = .ok (.iconst 0, 1) := by decide +kernel
theorem dX2_takeNewEcho_127 : decode cX2_takeNewEcho 127 = .ok (.ireturn, 1) := by decide +kernel
theorem dX2_takeNewEcho_128 : decode cX2_takeNewEcho 128 = .ok (.aload_n 1, 1) := by decide +kernel
theorem dX2_takeNewEcho_129 : decode cX2_takeNewEcho 129 = .ok (.aload_n 0, 1) := by decide +kernel
theorem dX2_takeNewEcho_130 : decode cX2_takeNewEcho 130 = .ok (.getfield 9, 3) := by decide +kernel
theorem dX2_takeNewEcho_133 : decode cX2_takeNewEcho 133 = .ok (.getfield 73, 3) := by decide +kernel
theorem dX2_takeNewEcho_136 : decode cX2_takeNewEcho 136 = .ok (.putfield 138, 3) := by decide +kernel
theorem dX2_takeNewEcho_139 : decode cX2_takeNewEcho 139 = .ok (.aload_n 0, 1) := by decide +kernel
theorem dX2_takeNewEcho_140 : decode cX2_takeNewEcho 140 = .ok (.getfield 9, 3) := by decide +kernel
theorem dX2_takeNewEcho_143 : decode cX2_takeNewEcho 143 = .ok (.iconst 1, 1) := by decide +kernel
theorem dX2_takeNewEcho_144 : decode cX2_takeNewEcho 144 = .ok (.bipush 99, 2) := by decide +kernel
theorem dX2_takeNewEcho_146 : decode cX2_takeNewEcho 146 = .ok (.invokevirtual 69, 3) := by decide +kernel
theorem dX2_takeNewEcho_149 : decode cX2_takeNewEcho 149 = .ok (.ifCond .ne 5, 3) := by decide +kernel
theorem dX2_takeNewEcho_152 : decode cX2_takeNewEcho 152 = .ok (.iconst 0, 1) := by decide +kernel
theorem dX2_takeNewEcho_153 : decode cX2_takeNewEcho 153 = .ok (.ireturn, 1) := by decide +kernel
theorem dX2_takeNewEcho_154 : decode cX2_takeNewEcho 154 = .ok (.aload_n 1, 1) := by decide +kernel
theorem dX2_takeNewEcho_155 : decode cX2_takeNewEcho 155 = .ok (.aload_n 0, 1) := by decide +kernel
theorem dX2_takeNewEcho_156 : decode cX2_takeNewEcho 156 = .ok (.getfield 9, 3) := by decide +kernel
theorem dX2_takeNewEcho_159 : decode cX2_takeNewEcho 159 = .ok (.getfield 73, 3) := by decide +kernel
theorem dX2_takeNewEcho_162 : decode cX2_takeNewEcho 162 = .ok (.putfield 141, 3) := by decide +kernel
theorem dX2_takeNewEcho_165 : decode cX2_takeNewEcho 165 = .ok (.aload_n 0, 1) := by decide +kernel
theorem dX2_takeNewEcho_166 : decode cX2_takeNewEcho 166 = .ok (.getfield 9, 3) := by decide +kernel
theorem dX2_takeNewEcho_169 : decode cX2_takeNewEcho 169 = .ok (.iconst 0, 1) := by decide +kernel
theorem dX2_takeNewEcho_170 : decode cX2_takeNewEcho 170 = .ok (.bipush 9, 2) := by decide +kernel
theorem dX2_takeNewEcho_172 : decode cX2_takeNewEcho 172 = .ok (.invokevirtual 69, 3) := by decide +kernel
theorem dX2_takeNewEcho_175 : decode cX2_takeNewEcho 175 = .ok (.ifCond .ne 5, 3) := by decide +kernel
theorem dX2_takeNewEcho_178 : decode cX2_takeNewEcho 178 = .ok (.iconst 0, 1) := by decide +kernel
theorem dX2_takeNewEcho_179 : decode cX2_takeNewEcho 179 = .ok (.ireturn, 1) := by decide +kernel
theorem dX2_takeNewEcho_180 : decode cX2_takeNewEcho 180 = .ok (.aload_n 1, 1) := by decide +kernel
theorem dX2_takeNewEcho_181 : decode cX2_takeNewEcho 181 = .ok (.aload_n 0, 1) := by decide +kernel
theorem dX2_takeNewEcho_182 : decode cX2_takeNewEcho 182 = .ok (.getfield 9, 3) := by decide +kernel
theorem dX2_takeNewEcho_185 : decode cX2_takeNewEcho 185 = .ok (.getfield 73, 3) := by decide +kernel
theorem dX2_takeNewEcho_188 : decode cX2_takeNewEcho 188 = .ok (.putfield 144, 3) := by decide +kernel
theorem dX2_takeNewEcho_191 : decode cX2_takeNewEcho 191 = .ok (.aload_n 0, 1) := by decide +kernel
theorem dX2_takeNewEcho_192 : decode cX2_takeNewEcho 192 = .ok (.getfield 15, 3) := by decide +kernel
theorem dX2_takeNewEcho_195 : decode cX2_takeNewEcho 195 = .ok (.dup, 1) := by decide +kernel
theorem dX2_takeNewEcho_196 : decode cX2_takeNewEcho 196 = .ok (.getfield 57, 3) := by decide +kernel
theorem dX2_takeNewEcho_199 : decode cX2_takeNewEcho 199 = .ok (.iconst 1, 1) := by decide +kernel
theorem dX2_takeNewEcho_200 : decode cX2_takeNewEcho 200 = .ok (.iadd, 1) := by decide +kernel
theorem dX2_takeNewEcho_201 : decode cX2_takeNewEcho 201 = .ok (.putfield 57, 3) := by decide +kernel
theorem dX2_takeNewEcho_204 : decode cX2_takeNewEcho 204 = .ok (.aload_n 0, 1) := by decide +kernel
theorem dX2_takeNewEcho_205 : decode cX2_takeNewEcho 205 = .ok (.getfield 9, 3) := by decide +kernel
theorem dX2_takeNewEcho_208 : decode cX2_takeNewEcho 208 = .ok (.invokevirtual 81, 3) := by decide +kernel
theorem dX2_takeNewEcho_211 : decode cX2_takeNewEcho 211 = .ok (.ireturn, 1) := by decide +kernel
theorem dX2_takeNewValley_0 : decode cX2_takeNewValley 0 = .ok (.aload_n 0, 1) := by decide +kernel
theorem dX2_takeNewValley_1 : decode cX2_takeNewValley 1 = .ok (.getfield 15, 3) := by decide +kernel
theorem dX2_takeNewValley_4 : decode cX2_takeNewValley 4 = .ok (.getfield 60, 3) := by decide +kernel
theorem dX2_takeNewValley_7 : decode cX2_takeNewValley 7 = .ok (.bipush 8, 2) := by decide +kernel
theorem dX2_takeNewValley_9 : decode cX2_takeNewValley 9 = .ok (.if_icmp .lt 12, 3) := by decide +kernel
theorem dX2_takeNewValley_12 : decode cX2_takeNewValley 12 = .ok (.aload_n 0, 1) := by decide +kernel
theorem dX2_takeNewValley_13 : decode cX2_takeNewValley 13 = .ok (.getfield 9, 3) := by decide +kernel
theorem dX2_takeNewValley_16 : decode cX2_takeNewValley 16 = .ok (.iconst 4, 1) := by decide +kernel
theorem dX2_takeNewValley_17 : decode cX2_takeNewValley 17 = .ok (.invokevirtual 53, 3) := by decide +kernel
theorem dX2_takeNewValley_20 : decode cX2_takeNewValley 20 = .ok (.ireturn, 1) := by decide +kernel
theorem dX2_takeNewValley_21 : decode cX2_takeNewValley 21 = .ok (.aload_n 0, 1) := by decide +kernel
theorem dX2_takeNewValley_22 : decode cX2_takeNewValley 22 = .ok (.getfield 9, 3) := by decide +kernel
theorem dX2_takeNewValley_25 : decode cX2_takeNewValley 25 = .ok (.invokevirtual 114, 3) := by decide +kernel
theorem dX2_takeNewValley_28 : decode cX2_takeNewValley 28 = .ok (.ifCond .ne 5, 3) := by decide +kernel
theorem dX2_takeNewValley_31 : decode cX2_takeNewValley 31 = .ok (.iconst 0, 1) := by decide +kernel
theorem dX2_takeNewValley_32 : decode cX2_takeNewValley 32 = .ok (.ireturn, 1) := by decide +kernel
theorem dX2_takeNewValley_33 : decode cX2_takeNewValley 33 = .ok (.aload_n 0, 1) := by decide +kernel
theorem dX2_takeNewValley_34 : decode cX2_takeNewValley 34 = .ok (.getfield 15, 3) := by decide +kernel
theorem dX2_takeNewValley_37 : decode cX2_takeNewValley 37 = .ok (.aload_n 0, 1) := by decide +kernel
theorem dX2_takeNewValley_38 : decode cX2_takeNewValley 38 = .ok (.getfield 9, 3) := by decide +kernel
theorem dX2_takeNewValley_41 : decode cX2_takeNewValley 41 = .ok (.invokevirtual 117, 3) := by decide +kernel
theorem dX2_takeNewValley_44 : decode cX2_takeNewValley 44 = .ok (.invokevirtual 147, 3) := by decide +kernel
theorem dX2_takeNewValley_47 : decode cX2_takeNewValley 47 = .ok (.iconst (-1), 1) := by decide +kernel
theorem dX2_takeNewValley_48 : decode cX2_takeNewValley 48 = .ok (.if_icmp .eq 12, 3) := by decide +kernel
theorem dX2_takeNewValley_51 : decode cX2_takeNewValley 51 = .ok (.aload_n 0, 1) := by decide +kernel
theorem dX2_takeNewValley_52 : decode cX2_takeNewValley 52 = .ok (.getfield 9, 3) := by decide +kernel
theorem dX2_takeNewValley_55 : decode cX2_takeNewValley 55 = .ok (.iconst 3, 1) := by decide +kernel
theorem dX2_takeNewValley_56 : decode cX2_takeNewValley 56 = .ok (.invokevirtual 53, 3) := by decide +kernel
theorem dX2_takeNewValley_59 : decode cX2_takeNewValley 59 = .ok (.ireturn, 1) := by decide +kernel
theorem dX2_takeNewValley_60 : decode cX2_takeNewValley 60 = .ok (.aload_n 0, 1) := by decide +kernel
theorem dX2_takeNewValley_61 : decode cX2_takeNewValley 61 = .ok (.getfield 15, 3) := by decide +kernel
theorem dX2_takeNewValley_64 : decode cX2_takeNewValley 64 = .ok (.getfield 150, 3) := by decide +kernel
theorem dX2_takeNewValley_67 : decode cX2_takeNewValley 67 = .ok (.aload_n 0, 1) := by decide +kernel
theorem dX2_takeNewValley_68 : decode cX2_takeNewValley 68 = .ok (.getfield 15, 3) := by decide +kernel
theorem dX2_takeNewValley_71 : decode cX2_takeNewValley 71 = .ok (.getfield 60, 3) := by decide +kernel
theorem dX2_takeNewValley_74 : decode cX2_takeNewValley 74 = .ok (.aaload, 1) := by decide +kernel
theorem dX2_takeNewValley_75 : decode cX2_takeNewValley 75 = .ok (.astore_n 1, 1) := by decide +kernel
theorem dX2_takeNewValley_76 : decode cX2_takeNewValley 76 = .ok (.aload_n 1, 1) := by decide +kernel
theorem dX2_takeNewValley_77 : decode cX2_takeNewValley 77 = .ok (.aload_n 0, 1) := by decide +kernel
theorem dX2_takeNewValley_78 : decode cX2_takeNewValley 78 = .ok (.getfield 9, 3) := by decide +kernel
theorem dX2_takeNewValley_81 : decode cX2_takeNewValley 81 = .ok (.invokevirtual 117, 3) := by decide +kernel
theorem dX2_takeNewValley_84 : decode cX2_takeNewValley 84 = .ok (.invokevirtual 154, 3) := by decide +kernel
theorem dX2_takeNewValley_87 : decode cX2_takeNewValley 87 = .ok (.aload_n 0, 1) := by decide +kernel
theorem dX2_takeNewValley_88 : decode cX2_takeNewValley 88 = .ok (.getfield 9, 3) := by decide +kernel
theorem dX2_takeNewValley_91 : decode cX2_takeNewValley 91 = .ok (.iconst 1, 1) := by decide +kernel
theorem dX2_takeNewValley_92 : decode cX2_takeNewValley 92 = .ok (.bipush 9, 2) := by decide +kernel
theorem dX2_takeNewValley_94 : decode cX2_takeNewValley 94 = .ok (.invokevirtual 69, 3) := by decide +kernel
theorem dX2_takeNewValley_97 : decode cX2_takeNewValley 97 = .ok (.ifCond .ne 5, 3) := by decide +kernel
theorem dX2_takeNewValley_100 : decode cX2_takeNewValley 100 = .ok (.iconst 0, 1) := by decide +kernel
theorem dX2_takeNewValley_101 : decode cX2_takeNewValley 101 = .ok (.ireturn, 1) := by decide +kernel
theorem dX2_takeNewValley_102 : decode cX2_takeNewValley 102 = .ok (.aload_n 1, 1) := by decide +kernel
theorem dX2_takeNewValley_103 : decode cX2_takeNewValley 103 = .ok (.aload_n 0, 1) := by decide +kernel
theorem dX2_takeNewValley_104 : decode cX2_takeNewValley 104 = .ok (.getfield 9, 3) := by decide +kernel
theorem dX2_takeNewValley_107 : decode cX2_takeNewValley 107 = .ok (.getfield 73, 3) := by decide +kernel
theorem dX2_takeNewValley_110 : decode cX2_takeNewValley 110 = .ok (.putfield 157, 3) := by decide +kernel
theorem dX2_takeNewValley_113 : decode cX2_takeNewValley 113 = .ok (.aload_n 0, 1) := by decide +kernel
theorem dX2_takeNewValley_114 : decode cX2_takeNewValley 114 = .ok (.getfield 9, 3) := by decide +kernel
theorem dX2_takeNewValley_117 : decode cX2_takeNewValley 117 = .ok (.iconst 1, 1) := by decide +kernel
theorem dX2_takeNewValley_118 : decode cX2_takeNewValley 118 = .ok (.iconst 3, 1) := by decide +kernel
theorem dX2_takeNewValley_119 : decode cX2_takeNewValley 119 = .ok (.invokevirtual 69, 3) := by decide +kernel
theorem dX2_takeNewValley_122 : decode cX2_takeNewValley 122 = .ok (.ifCond .ne 5, 3) := by decide +kernel
theorem dX2_takeNewValley_125 : decode cX2_takeNewValley 125 = .ok (.iconst 0, 1) := by decide +kernel
theorem dX2_takeNewValley_126 : decode cX2_takeNewValley 126 = .ok (.ireturn, 1) := by decide +kernel
theorem dX2_takeNewValley_127 : decode cX2_takeNewValley 127 = .ok (.aload_n 1, 1) := by decide +kernel
theorem dX2_takeNewValley_128 : decode cX2_takeNewValley 128 = .ok (.aload_n 0, 1) := by decide +kernel
theorem dX2_takeNewValley_129 : decode cX2_takeNewValley 129 = .ok (.getfield 9, 3) := by decide +kernel
theorem dX2_takeNewValley_132 : decode cX2_takeNewValley 132 = .ok (.getfield 73, 3) := by decide +kernel
theorem dX2_takeNewValley_135 : decode cX2_takeNewValley 135 = .ok (.putfield 160, 3) := by decide +kernel
theorem dX2_takeNewValley_138 : decode cX2_takeNewValley 138 = .ok (.aload_n 0, 1) := by decide +kernel
theorem dX2_takeNewValley_139 : decode cX2_takeNewValley 139 = .ok (.getfield 9, 3) := by decide +kernel
theorem dX2_takeNewValley_142 : decode cX2_takeNewValley 142 = .ok (.iconst 1, 1) := by decide +kernel
theorem dX2_takeNewValley_143 : decode cX2_takeNewValley 143 = .ok (.bipush 99, 2) := by decide +kernel
theorem dX2_takeNewValley_145 : decode cX2_takeNewValley 145 = .ok (.invokevirtual 69, 3) := by decide +kernel
theorem dX2_takeNewValley_148 : decode cX2_takeNewValley 148 = .ok (.ifCond .ne 5, 3) := by decide +kernel
theorem dX2_takeNewValley_151 : decode cX2_takeNewValley 151 = .ok (.iconst 0, 1) := by decide +kernel
theorem dX2_takeNewValley_152 : decode cX2_takeNewValley 152 = .ok (.ireturn, 1) := by decide +kernel
theorem dX2_takeNewValley_153 : decode cX2_takeNewValley 153 = .ok (.aload_n 1, 1) := by decide +kernel
theorem dX2_takeNewValley_154 : decode cX2_takeNewValley 154 = .ok (.aload_n 0, 1) := by decide +kernel
theorem dX2_takeNewValley_155 : decode cX2_takeNewValley 155 = .ok (.getfield 9, 3) := by decide +kernel
theorem dX2_takeNewValley_158 : decode cX2_takeNewValley 158 = .ok (.getfield 73, 3) := by decide +kernel
theorem dX2_takeNewValley_161 : decode cX2_takeNewValley 161 = .ok (.putfield 163, 3) := by decide +kernel
theorem dX2_takeNewValley_164 : decode cX2_takeNewValley 164 = .ok (.aload_n 0, 1) := by decide +kernel
theorem dX2_takeNewValley_165 : decode cX2_takeNewValley 165 = .ok (.getfield 9, 3) := by decide +kernel
theorem dX2_takeNewValley_168 : decode cX2_takeNewValley 168 = .ok (.iconst 0, 1) := by decide +kernel
theorem dX2_takeNewValley_169 : decode cX2_takeNewValley 169 = .ok (.sipush 9999, 3) := by decide +kernel
theorem dX2_takeNewValley_172 : decode cX2_takeNewValley 172 = .ok (.invokevirtual 69, 3) := by decide +kernel
theorem dX2_takeNewValley_175 : decode cX2_takeNewValley 175 = .ok (.ifCond .ne 5, 3) := by decide +kernel
theorem dX2_takeNewValley_178 : decode cX2_takeNewValley 178 = .ok (.iconst 0, 1) := by decide +kernel
theorem dX2_takeNewValley_179 : decode cX2_takeNewValley 179 = .ok (.ireturn, 1) := by decide +kernel
theorem dX2_takeNewValley_180 : decode cX2_takeNewValley 180 = .ok (.aload_n 1, 1) := by decide +kernel
theorem dX2_takeNewValley_181 : decode cX2_takeNewValley 181 = .ok (.aload_n 0, 1) := by decide +kernel
theorem dX2_takeNewValley_182 : decode cX2_takeNewValley 182 = .ok (.getfield 9, 3) := by decide +kernel
theorem dX2_takeNewValley_185 : decode cX2_takeNewValley 185 = .ok (.getfield 73, 3) := by decide +kernel
theorem dX2_takeNewValley_188 : decode cX2_takeNewValley 188 = .ok (.putfield 166, 3) := by decide +kernel
theorem dX2_takeNewValley_191 : decode cX2_takeNewValley 191 = .ok (.aload_n 0, 1) := by decide +kernel
theorem dX2_takeNewValley_192 : decode cX2_takeNewValley 192 = .ok (.getfield 15, 3) := by decide +kernel
theorem dX2_takeNewValley_195 : decode cX2_takeNewValley 195 = .ok (.dup, 1) := by decide +kernel
theorem dX2_takeNewValley_196 : decode cX2_takeNewValley 196 = .ok (.getfield 169, 3) := by decide +kernel
theorem dX2_takeNewValley_199 : decode cX2_takeNewValley 199 = .ok (.aload_n 1, 1) := by decide +kernel
theorem dX2_takeNewValley_200 : decode cX2_takeNewValley 200 = .ok (.getfield 166, 3) := by decide +kernel
theorem dX2_takeNewValley_203 : decode cX2_takeNewValley 203 = .ok (.iadd, 1) := by decide +kernel
theorem dX2_takeNewValley_204 : decode cX2_takeNewValley 204 = .ok (.putfield 169, 3) := by decide +kernel
theorem dX2_takeNewValley_207 : decode cX2_takeNewValley 207 = .ok (.aload_n 0, 1) := by decide +kernel
theorem dX2_takeNewValley_208 : decode cX2_takeNewValley 208 = .ok (.getfield 15, 3) := by decide +kernel
theorem dX2_takeNewValley_211 : decode cX2_takeNewValley 211 = .ok (.dup, 1) := by decide +kernel
theorem dX2_takeNewValley_212 : decode cX2_takeNewValley 212 = .ok (.getfield 60, 3) := by decide +kernel
theorem dX2_takeNewValley_215 : decode cX2_takeNewValley 215 = .ok (.iconst 1, 1) := by decide +kernel
theorem dX2_takeNewValley_216 : decode cX2_takeNewValley 216 = .ok (.iadd, 1) := by decide +kernel
theorem dX2_takeNewValley_217 : decode cX2_takeNewValley 217 = .ok (.putfield 60, 3) := by decide +kernel
theorem dX2_takeNewValley_220 : decode cX2_takeNewValley 220 = .ok (.aload_n 0, 1) := by decide +kernel
theorem dX2_takeNewValley_221 : decode cX2_takeNewValley 221 = .ok (.getfield 9, 3) := by decide +kernel
theorem dX2_takeNewValley_224 : decode cX2_takeNewValley 224 = .ok (.invokevirtual 81, 3) := by decide +kernel
theorem dX2_takeNewValley_227 : decode cX2_takeNewValley 227 = .ok (.ireturn, 1) := by decide +kernel
theorem dX2_takeTest_0 : decode cX2_takeTest 0 = .ok (.aload_n 0, 1) := by decide +kernel
theorem dX2_takeTest_1 : decode cX2_takeTest 1 = .ok (.getfield 9, 3) := by decide +kernel
theorem dX2_takeTest_4 : decode cX2_takeTest 4 = .ok (.aload_n 0, 1) := by decide +kernel
theorem dX2_takeTest_5 : decode cX2_takeTest 5 = .ok (.getfield 15, 3) := by decide +kernel
theorem dX2_takeTest_8 : decode cX2_takeTest 8 = .ok (.invokevirtual 172, 3) := by decide +kernel
theorem dX2_takeTest_11 : decode cX2_takeTest 11 = .ok (.ifCond .ne 5, 3) := by decide +kernel
theorem dX2_takeTest_14 : decode cX2_takeTest 14 = .ok (.iconst 0, 1) := by decide +kernel
theorem dX2_takeTest_15 : decode cX2_takeTest 15 = .ok (.ireturn, 1) := by decide +kernel
theorem dX2_takeTest_16 : decode cX2_takeTest 16 = .ok (.aload_n 0, 1) := by decide +kernel
theorem dX2_takeTest_17 : decode cX2_takeTest 17 = .ok (.getfield 15, 3) := by decide +kernel
theorem dX2_takeTest_20 : decode cX2_takeTest 20 = .ok (.getfield 150, 3) := by decide +kernel
theorem dX2_takeTest_23 : decode cX2_takeTest 23 = .ok (.aload_n 0, 1) := by decide +kernel
theorem dX2_takeTest_24 : decode cX2_takeTest 24 = .ok (.getfield 9, 3) := by decide +kernel
theorem dX2_takeTest_27 : decode cX2_takeTest 27 = .ok (.getfield 73, 3) := by decide +kernel
theorem dX2_takeTest_30 : decode cX2_takeTest 30 = .ok (.aaload, 1) := by decide +kernel
theorem dX2_takeTest_31 : decode cX2_takeTest 31 = .ok (.astore_n 1, 1) := by decide +kernel
theorem dX2_takeTest_32 : decode cX2_takeTest 32 = .ok (.aload_n 0, 1) := by decide +kernel
theorem dX2_takeTest_33 : decode cX2_takeTest 33 = .ok (.getfield 9, 3) := by decide +kernel
theorem dX2_takeTest_36 : decode cX2_takeTest 36 = .ok (.aload_n 0, 1) := by decide +kernel
theorem dX2_takeTest_37 : decode cX2_takeTest 37 = .ok (.getfield 15, 3) := by decide +kernel
theorem dX2_takeTest_40 : decode cX2_takeTest 40 = .ok (.invokevirtual 176, 3) := by decide +kernel
theorem dX2_takeTest_43 : decode cX2_takeTest 43 = .ok (.ifCond .ne 5, 3) := by decide +kernel
theorem dX2_takeTest_46 : decode cX2_takeTest 46 = .ok (.iconst 0, 1) := by decide +kernel
theorem dX2_takeTest_47 : decode cX2_takeTest 47 = .ok (.ireturn, 1) := by decide +kernel
theorem dX2_takeTest_48 : decode cX2_takeTest 48 = .ok (.aload_n 1, 1) := by decide +kernel
theorem dX2_takeTest_49 : decode cX2_takeTest 49 = .ok (.aload_n 0, 1) := by decide +kernel
theorem dX2_takeTest_50 : decode cX2_takeTest 50 = .ok (.getfield 9, 3) := by decide +kernel
theorem dX2_takeTest_53 : decode cX2_takeTest 53 = .ok (.getfield 73, 3) := by decide +kernel
theorem dX2_takeTest_56 : decode cX2_takeTest 56 = .ok (.invokevirtual 179, 3) := by decide +kernel
theorem dX2_takeTest_59 : decode cX2_takeTest 59 = .ok (.aload_n 0, 1) := by decide +kernel
theorem dX2_takeTest_60 : decode cX2_takeTest 60 = .ok (.getfield 9, 3) := by decide +kernel
theorem dX2_takeTest_63 : decode cX2_takeTest 63 = .ok (.invokevirtual 81, 3) := by decide +kernel
theorem dX2_takeTest_66 : decode cX2_takeTest 66 = .ok (.ireturn, 1) := by decide +kernel
theorem dX3_init_0 : decode cX3_init 0 = .ok (.aload_n 0, 1) := by decide +kernel
theorem dX3_init_1 : decode cX3_init 1 = .ok (.invokespecial 3, 3) := by decide +kernel
theorem dX3_init_4 : decode cX3_init 4 = .ok (.aload_n 0, 1) := by decide +kernel
theorem dX3_init_5 : decode cX3_init 5 = .ok (.iconst (-1), 1) := by decide +kernel
theorem dX3_init_6 : decode cX3_init 6 = .ok (.putfield 9, 3) := by decide +kernel
theorem dX3_init_9 : decode cX3_init 9 = .ok (.return_, 1) := by decide +kernel
theorem dX3_start_0 : decode cX3_start 0 = .ok (.aload_n 0, 1) := by decide +kernel
theorem dX3_start_1 : decode cX3_start 1 = .ok (.lload_n 1, 1) := by decide +kernel
theorem dX3_start_2 : decode cX3_start 2 = .ok (.putfield 15, 3) := by decide +kernel
theorem dX3_start_5 : decode cX3_start 5 = .ok (.aload_n 0, 1) := by decide +kernel
theorem dX3_start_6 : decode cX3_start 6 = .ok (.iconst 0, 1) := by decide +kernel
theorem dX3_start_7 : decode cX3_start 7 = .ok (.putfield 19, 3) := by decide +kernel
theorem dX3_start_10 : decode cX3_start 10 = .ok (.aload_n 0, 1) := by decide +kernel
theorem dX3_start_11 : decode cX3_start 11 = .ok (.iconst 0, 1) := by decide +kernel
theorem dX3_start_12 : decode cX3_start 12 = .ok (.putfield 22, 3) := by decide +kernel
theorem dX3_start_15 : decode cX3_start 15 = .ok (.aload_n 0, 1) := by decide +kernel
theorem dX3_start_16 : decode cX3_start 16 = .ok (.iconst (-1), 1) := by decide +kernel
theorem dX3_start_17 : decode cX3_start 17 = .ok (.putfield 9, 3) := by decide +kernel
theorem dX3_start_20 : decode cX3_start 20 = .ok (.aload_n 0, 1) := by decide +kernel
theorem dX3_start_21 : decode cX3_start 21 = .ok (.iconst 0, 1) := by decide +kernel
theorem dX3_start_22 : decode cX3_start 22 = .ok (.putfield 25, 3) := by decide +kernel
theorem dX3_start_25 : decode cX3_start 25 = .ok (.return_, 1) := by decide +kernel
theorem dX3_copyFrom_0 : decode cX3_copyFrom 0 = .ok (.aload_n 0, 1) := by decide +kernel
theorem dX3_copyFrom_1 : decode cX3_copyFrom 1 = .ok (.aload_n 1, 1) := by decide +kernel
theorem dX3_copyFrom_2 : decode cX3_copyFrom 2 = .ok (.getfield 15, 3) := by decide +kernel
theorem dX3_copyFrom_5 : decode cX3_copyFrom 5 = .ok (.putfield 15, 3) := by decide +kernel
theorem dX3_copyFrom_8 : decode cX3_copyFrom 8 = .ok (.aload_n 0, 1) := by decide +kernel
theorem dX3_copyFrom_9 : decode cX3_copyFrom 9 = .ok (.aload_n 1, 1) := by decide +kernel
theorem dX3_copyFrom_10 : decode cX3_copyFrom 10 = .ok (.getfield 28, 3) := by decide +kernel
theorem dX3_copyFrom_13 : decode cX3_copyFrom 13 = .ok (.putfield 28, 3) := by decide +kernel
theorem dX3_copyFrom_16 : decode cX3_copyFrom 16 = .ok (.aload_n 0, 1) := by decide +kernel
theorem dX3_copyFrom_17 : decode cX3_copyFrom 17 = .ok (.aload_n 1, 1) := by decide +kernel
theorem dX3_copyFrom_18 : decode cX3_copyFrom 18 = .ok (.getfield 31, 3) := by decide +kernel
theorem dX3_copyFrom_21 : decode cX3_copyFrom 21 = .ok (.putfield 31, 3) := by decide +kernel
theorem dX3_copyFrom_24 : decode cX3_copyFrom 24 = .ok (.aload_n 0, 1) := by decide +kernel
theorem dX3_copyFrom_25 : decode cX3_copyFrom 25 = .ok (.aload_n 1, 1) := by decide +kernel
theorem dX3_copyFrom_26 : decode cX3_copyFrom 26 = .ok (.getfield 34, 3) := by decide +kernel
theorem dX3_copyFrom_29 : decode cX3_copyFrom 29 = .ok (.putfield 34, 3) := by decide +kernel
theorem dX3_copyFrom_32 : decode cX3_copyFrom 32 = .ok (.aload_n 0, 1) := by decide +kernel
theorem dX3_copyFrom_33 : decode cX3_copyFrom 33 = .ok (.aload_n 1, 1) := by decide +kernel
theorem dX3_copyFrom_34 : decode cX3_copyFrom 34 = .ok (.getfield 37, 3) := by decide +kernel
theorem dX3_copyFrom_37 : decode cX3_copyFrom 37 = .ok (.putfield 37, 3) := by decide +kernel
theorem dX3_copyFrom_40 : decode cX3_copyFrom 40 = .ok (.aload_n 0, 1) := by decide +kernel
theorem dX3_copyFrom_41 : decode cX3_copyFrom 41 = .ok (.aload_n 1, 1) := by decide +kernel
theorem dX3_copyFrom_42 : decode cX3_copyFrom 42 = .ok (.getfield 19, 3) := by decide +kernel
theorem dX3_copyFrom_45 : decode cX3_copyFrom 45 = .ok (.putfield 19, 3) := by decide +kernel
theorem dX3_copyFrom_48 : decode cX3_copyFrom 48 = .ok (.aload_n 0, 1) := by decide +kernel
theorem dX3_copyFrom_49 : decode cX3_copyFrom 49 = .ok (.aload_n 1, 1) := by decide +kernel
theorem dX3_copyFrom_50 : decode cX3_copyFrom 50 = .ok (.getfield 22, 3) := by decide +kernel
theorem dX3_copyFrom_53 : decode cX3_copyFrom 53 = .ok (.putfield 22, 3) := by decide +kernel
theorem dX3_copyFrom_56 : decode cX3_copyFrom 56 = .ok (.aload_n 0, 1) := by decide +kernel
theorem dX3_copyFrom_57 : decode cX3_copyFrom 57 = .ok (.aload_n 1, 1) := by decide +kernel
theorem dX3_copyFrom_58 : decode cX3_copyFrom 58 = .ok (.getfield 9, 3) := by decide +kernel
theorem dX3_copyFrom_61 : decode cX3_copyFrom 61 = .ok (.putfield 9, 3) := by decide +kernel
theorem dX3_copyFrom_64 : decode cX3_copyFrom 64 = .ok (.aload_n 0, 1) := by decide +kernel
theorem dX3_copyFrom_65 : decode cX3_copyFrom 65 = .ok (.aload_n 1, 1) := by decide +kernel
theorem dX3_copyFrom_66 : decode cX3_copyFrom 66 = .ok (.getfield 25, 3) := by decide +kernel
theorem dX3_copyFrom_69 : decode cX3_copyFrom 69 = .ok (.putfield 25, 3) := by decide +kernel
theorem dX3_copyFrom_72 : decode cX3_copyFrom 72 = .ok (.return_, 1) := by decide +kernel
theorem dX3_lessonPrice_0 : decode cX3_lessonPrice 0 = .ok (.bipush 10, 2) := by decide +kernel
theorem dX3_lessonPrice_2 : decode cX3_lessonPrice 2 = .ok (.aload_n 0, 1) := by decide +kernel
theorem dX3_lessonPrice_3 : decode cX3_lessonPrice 3 = .ok (.getfield 31, 3) := by decide +kernel
theorem dX3_lessonPrice_6 : decode cX3_lessonPrice 6 = .ok (.imul, 1) := by decide +kernel
theorem dX3_lessonPrice_7 : decode cX3_lessonPrice 7 = .ok (.ireturn, 1) := by decide +kernel
theorem dX3_canLearn_0 : decode cX3_canLearn 0 = .ok (.aload_n 0, 1) := by decide +kernel
theorem dX3_canLearn_1 : decode cX3_canLearn 1 = .ok (.getfield 31, 3) := by decide +kernel
theorem dX3_canLearn_4 : decode cX3_canLearn 4 = .ok (.bipush 9, 2) := by decide +kernel
theorem dX3_canLearn_6 : decode cX3_canLearn 6 = .ok (.if_icmp .ge 18, 3) := by decide +kernel
theorem dX3_canLearn_9 : decode cX3_canLearn 9 = .ok (.aload_n 0, 1) := by decide +kernel
theorem dX3_canLearn_10 : decode cX3_canLearn 10 = .ok (.getfield 19, 3) := by decide +kernel
theorem dX3_canLearn_13 : decode cX3_canLearn 13 = .ok (.aload_n 0, 1) := by decide +kernel
theorem dX3_canLearn_14 : decode cX3_canLearn 14 = .ok (.invokevirtual 40, 3) := by decide +kernel
theorem dX3_canLearn_17 : decode cX3_canLearn 17 = .ok (.if_icmp .lt 7, 3) := by decide +kernel
theorem dX3_canLearn_20 : decode cX3_canLearn 20 = .ok (.iconst 1, 1) := by decide +kernel
theorem dX3_canLearn_21 : decode cX3_canLearn 21 = .ok (.goto 4, 3) := by decide +kernel
theorem dX3_canLearn_24 : decode cX3_canLearn 24 = .ok (.iconst 0, 1) := by decide +kernel
theorem dX3_canLearn_25 : decode cX3_canLearn 25 = .ok (.ireturn, 1) := by decide +kernel
theorem dX3_leavesIn_0 : decode cX3_leavesIn 0 = .ok (.aload_n 0, 1) := by decide +kernel
theorem dX3_leavesIn_1 : decode cX3_leavesIn 1 = .ok (.getfield 22, 3) := by decide +kernel
theorem dX3_leavesIn_4 : decode cX3_leavesIn 4 = .ok (.iconst 2, 1) := by decide +kernel
theorem dX3_leavesIn_5 : decode cX3_leavesIn 5 = .ok (.if_icmp .ge 19, 3) := by decide +kernel
theorem dX3_leavesIn_8 : decode cX3_leavesIn 8 = .ok (.aload_n 0, 1) := by decide +kernel
theorem dX3_leavesIn_9 : decode cX3_leavesIn 9 = .ok (.getfield 22, 3) := by decide +kernel
theorem dX3_leavesIn_12 : decode cX3_leavesIn 12 = .ok (.iconst 1, 1) := by decide +kernel
theorem dX3_leavesIn_13 : decode cX3_leavesIn 13 = .ok (.if_icmp .ne 15, 3) := by decide +kernel
theorem dX3_leavesIn_16 : decode cX3_leavesIn 16 = .ok (.iload_n 1, 1) := by decide +kernel
theorem dX3_leavesIn_17 : decode cX3_leavesIn 17 = .ok (.aload_n 0, 1) := by decide +kernel
theorem dX3_leavesIn_18 : decode cX3_leavesIn 18 = .ok (.getfield 37, 3) := by decide +kernel
theorem dX3_leavesIn_21 : decode cX3_leavesIn 21 = .ok (.if_icmp .le 7, 3) := by decide +kernel
theorem dX3_leavesIn_24 : decode cX3_leavesIn 24 = .ok (.iconst 1, 1) := by decide +kernel
theorem dX3_leavesIn_25 : decode cX3_leavesIn 25 = .ok (.goto 4, 3) := by decide +kernel
theorem dX3_leavesIn_28 : decode cX3_leavesIn 28 = .ok (.iconst 0, 1) := by decide +kernel
theorem dX3_leavesIn_29 : decode cX3_leavesIn 29 = .ok (.ireturn, 1) := by decide +kernel
theorem dX4_init_0 : decode cX4_init 0 = .ok (.aload_n 0, 1) := by decide +kernel
theorem dX4_init_1 : decode cX4_init 1 = .ok (.invokespecial 3, 3) := by decide +kernel
theorem dX4_init_4 : decode cX4_init 4 = .ok (.aload_n 0, 1) := by decide +kernel
theorem dX4_init_5 : decode cX4_init 5 = .ok (.bipush 8, 2) := by decide +kernel
theorem dX4_init_7 : decode cX4_init 7 = .ok (.anewarray 9, 3) := by decide +kernel
theorem dX4_init_10 : decode cX4_init 10 = .ok (.putfield 11, 3) := by decide +kernel
theorem dX4_init_13 : decode cX4_init 13 = .ok (.iconst 0, 1) := by decide +kernel
theorem dX4_init_14 : decode cX4_init 14 = .ok (.istore_n 1, 1) := by decide +kernel
theorem dX4_init_15 : decode cX4_init 15 = .ok (.iload_n 1, 1) := by decide +kernel
theorem dX4_init_16 : decode cX4_init 16 = .ok (.bipush 8, 2) := by decide +kernel
theorem dX4_init_18 : decode cX4_init 18 = .ok (.if_icmp .ge 22, 3) := by decide +kernel
theorem dX4_init_21 : decode cX4_init 21 = .ok (.aload_n 0, 1) := by decide +kernel
theorem dX4_init_22 : decode cX4_init 22 = .ok (.getfield 11, 3) := by decide +kernel
theorem dX4_init_25 : decode cX4_init 25 = .ok (.iload_n 1, 1) := by decide +kernel
theorem dX4_init_26 : decode cX4_init 26 = .ok (.new 9, 3) := by decide +kernel
theorem dX4_init_29 : decode cX4_init 29 = .ok (.dup, 1) := by decide +kernel
theorem dX4_init_30 : decode cX4_init 30 = .ok (.invokespecial 17, 3) := by decide +kernel
theorem dX4_init_33 : decode cX4_init 33 = .ok (.aastore, 1) := by decide +kernel
theorem dX4_init_34 : decode cX4_init 34 = .ok (.iinc 1 1, 3) := by decide +kernel
theorem dX4_init_37 : decode cX4_init 37 = .ok (.goto (-22), 3) := by decide +kernel
theorem dX4_init_40 : decode cX4_init 40 = .ok (.return_, 1) := by decide +kernel
theorem dX4_push_0 : decode cX4_push 0 = .ok (.aload_n 0, 1) := by decide +kernel
theorem dX4_push_1 : decode cX4_push 1 = .ok (.getfield 11, 3) := by decide +kernel
theorem dX4_push_4 : decode cX4_push 4 = .ok (.aload_n 0, 1) := by decide +kernel
theorem dX4_push_5 : decode cX4_push 5 = .ok (.getfield 18, 3) := by decide +kernel
theorem dX4_push_8 : decode cX4_push 8 = .ok (.aaload, 1) := by decide +kernel
theorem dX4_push_9 : decode cX4_push 9 = .ok (.aload_n 1, 1) := by decide +kernel
theorem dX4_push_10 : decode cX4_push 10 = .ok (.invokevirtual 22, 3) := by decide +kernel
theorem dX4_push_13 : decode cX4_push 13 = .ok (.aload_n 0, 1) := by decide +kernel
theorem dX4_push_14 : decode cX4_push 14 = .ok (.aload_n 0, 1) := by decide +kernel
theorem dX4_push_15 : decode cX4_push 15 = .ok (.getfield 18, 3) := by decide +kernel
theorem dX4_push_18 : decode cX4_push 18 = .ok (.iconst 1, 1) := by decide +kernel
theorem dX4_push_19 : decode cX4_push 19 = .ok (.iadd, 1) := by decide +kernel
theorem dX4_push_20 : decode cX4_push 20 = .ok (.bipush 8, 2) := by decide +kernel
theorem dX4_push_22 : decode cX4_push 22 = .ok (.if_icmp .ge 12, 3) := by decide +kernel
theorem dX4_push_25 : decode cX4_push 25 = .ok (.aload_n 0, 1) := by decide +kernel
theorem dX4_push_26 : decode cX4_push 26 = .ok (.getfield 18, 3) := by decide +kernel
theorem dX4_push_29 : decode cX4_push 29 = .ok (.iconst 1, 1) := by decide +kernel
theorem dX4_push_30 : decode cX4_push 30 = .ok (.iadd, 1) := by decide +kernel
theorem dX4_push_31 : decode cX4_push 31 = .ok (.goto 4, 3) := by decide +kernel
theorem dX4_push_34 : decode cX4_push 34 = .ok (.iconst 0, 1) := by decide +kernel
theorem dX4_push_35 : decode cX4_push 35 = .ok (.putfield 18, 3) := by decide +kernel
theorem dX4_push_38 : decode cX4_push 38 = .ok (.aload_n 0, 1) := by decide +kernel
theorem dX4_push_39 : decode cX4_push 39 = .ok (.getfield 26, 3) := by decide +kernel
theorem dX4_push_42 : decode cX4_push 42 = .ok (.bipush 8, 2) := by decide +kernel
theorem dX4_push_44 : decode cX4_push 44 = .ok (.if_icmp .ge 13, 3) := by decide +kernel
theorem dX4_push_47 : decode cX4_push 47 = .ok (.aload_n 0, 1) := by decide +kernel
theorem dX4_push_48 : decode cX4_push 48 = .ok (.dup, 1) := by decide +kernel
theorem dX4_push_49 : decode cX4_push 49 = .ok (.getfield 26, 3) := by decide +kernel
theorem dX4_push_52 : decode cX4_push 52 = .ok (.iconst 1, 1) := by decide +kernel
theorem dX4_push_53 : decode cX4_push 53 = .ok (.iadd, 1) := by decide +kernel
theorem dX4_push_54 : decode cX4_push 54 = .ok (.putfield 26, 3) := by decide +kernel
theorem dX4_push_57 : decode cX4_push 57 = .ok (.return_, 1) := by decide +kernel
theorem dX4_pop_0 : decode cX4_pop 0 = .ok (.aload_n 0, 1) := by decide +kernel
theorem dX4_pop_1 : decode cX4_pop 1 = .ok (.getfield 26, 3) := by decide +kernel
theorem dX4_pop_4 : decode cX4_pop 4 = .ok (.iconst 1, 1) := by decide +kernel
theorem dX4_pop_5 : decode cX4_pop 5 = .ok (.if_icmp .ge 4, 3) := by decide +kernel
theorem dX4_pop_8 : decode cX4_pop 8 = .ok (.return_, 1) := by decide +kernel
theorem dX4_pop_9 : decode cX4_pop 9 = .ok (.aload_n 0, 1) := by decide +kernel
theorem dX4_pop_10 : decode cX4_pop 10 = .ok (.aload_n 0, 1) := by decide +kernel
theorem dX4_pop_11 : decode cX4_pop 11 = .ok (.getfield 18, 3) := by decide +kernel
theorem dX4_pop_14 : decode cX4_pop 14 = .ok (.ifCond .le 12, 3) := by decide +kernel
theorem dX4_pop_17 : decode cX4_pop 17 = .ok (.aload_n 0, 1) := by decide +kernel
theorem dX4_pop_18 : decode cX4_pop 18 = .ok (.getfield 18, 3) := by decide +kernel
theorem dX4_pop_21 : decode cX4_pop 21 = .ok (.iconst 1, 1) := by decide +kernel
theorem dX4_pop_22 : decode cX4_pop 22 = .ok (.isub, 1) := by decide +kernel
theorem dX4_pop_23 : decode cX4_pop 23 = .ok (.goto 5, 3) := by decide +kernel
theorem dX4_pop_26 : decode cX4_pop 26 = .ok (.bipush 7, 2) := by decide +kernel
theorem dX4_pop_28 : decode cX4_pop 28 = .ok (.putfield 18, 3) := by decide +kernel
theorem dX4_pop_31 : decode cX4_pop 31 = .ok (.aload_n 1, 1) := by decide +kernel
theorem dX4_pop_32 : decode cX4_pop 32 = .ok (.aload_n 0, 1) := by decide +kernel
theorem dX4_pop_33 : decode cX4_pop 33 = .ok (.getfield 11, 3) := by decide +kernel
theorem dX4_pop_36 : decode cX4_pop 36 = .ok (.aload_n 0, 1) := by decide +kernel
theorem dX4_pop_37 : decode cX4_pop 37 = .ok (.getfield 18, 3) := by decide +kernel
theorem dX4_pop_40 : decode cX4_pop 40 = .ok (.aaload, 1) := by decide +kernel
theorem dX4_pop_41 : decode cX4_pop 41 = .ok (.invokevirtual 22, 3) := by decide +kernel
theorem dX4_pop_44 : decode cX4_pop 44 = .ok (.aload_n 0, 1) := by decide +kernel
theorem dX4_pop_45 : decode cX4_pop 45 = .ok (.dup, 1) := by decide +kernel
theorem dX4_pop_46 : decode cX4_pop 46 = .ok (.getfield 26, 3) := by decide +kernel
theorem dX4_pop_49 : decode cX4_pop 49 = .ok (.iconst 1, 1) := by decide +kernel
theorem dX4_pop_50 : decode cX4_pop 50 = .ok (.isub, 1) := by decide +kernel
theorem dX4_pop_51 : decode cX4_pop 51 = .ok (.putfield 26, 3) := by decide +kernel
theorem dX4_pop_54 : decode cX4_pop 54 = .ok (.return_, 1) := by decide +kernel
theorem dX5_init_0 : decode cX5_init 0 = .ok (.aload_n 0, 1) := by decide +kernel
theorem dX5_init_1 : decode cX5_init 1 = .ok (.invokespecial 3, 3) := by decide +kernel
theorem dX5_init_4 : decode cX5_init 4 = .ok (.aload_n 0, 1) := by decide +kernel
theorem dX5_init_5 : decode cX5_init 5 = .ok (.bipush 12, 2) := by decide +kernel
theorem dX5_init_7 : decode cX5_init 7 = .ok (.newarray .int, 2) := by decide +kernel
theorem dX5_init_9 : decode cX5_init 9 = .ok (.putfield 9, 3) := by decide +kernel
theorem dX5_init_12 : decode cX5_init 12 = .ok (.aload_n 0, 1) := by decide +kernel
theorem dX5_init_13 : decode cX5_init 13 = .ok (.bipush 12, 2) := by decide +kernel
theorem dX5_init_15 : decode cX5_init 15 = .ok (.newarray .int, 2) := by decide +kernel
theorem dX5_init_17 : decode cX5_init 17 = .ok (.putfield 15, 3) := by decide +kernel
theorem dX5_init_20 : decode cX5_init 20 = .ok (.aload_n 0, 1) := by decide +kernel
theorem dX5_init_21 : decode cX5_init 21 = .ok (.bipush 8, 2) := by decide +kernel
theorem dX5_init_23 : decode cX5_init 23 = .ok (.newarray .int, 2) := by decide +kernel
theorem dX5_init_25 : decode cX5_init 25 = .ok (.putfield 18, 3) := by decide +kernel
theorem dX5_init_28 : decode cX5_init 28 = .ok (.aload_n 0, 1) := by decide +kernel
theorem dX5_init_29 : decode cX5_init 29 = .ok (.bipush 96, 2) := by decide +kernel
theorem dX5_init_31 : decode cX5_init 31 = .ok (.newarray .int, 2) := by decide +kernel
theorem dX5_init_33 : decode cX5_init 33 = .ok (.putfield 21, 3) := by decide +kernel
theorem dX5_init_36 : decode cX5_init 36 = .ok (.aload_n 0, 1) := by decide +kernel
theorem dX5_init_37 : decode cX5_init 37 = .ok (.bipush 108, 2) := by decide +kernel
theorem dX5_init_39 : decode cX5_init 39 = .ok (.newarray .int, 2) := by decide +kernel
theorem dX5_init_41 : decode cX5_init 41 = .ok (.putfield 24, 3) := by decide +kernel
theorem dX5_init_44 : decode cX5_init 44 = .ok (.return_, 1) := by decide +kernel
theorem dX5_hold_0 : decode cX5_hold 0 = .ok (.aload_n 0, 1) := by decide +kernel
theorem dX5_hold_1 : decode cX5_hold 1 = .ok (.aload_n 1, 1) := by decide +kernel
theorem dX5_hold_2 : decode cX5_hold 2 = .ok (.invokevirtual 27, 3) := by decide +kernel
theorem dX5_hold_5 : decode cX5_hold 5 = .ok (.aload_n 0, 1) := by decide +kernel
theorem dX5_hold_6 : decode cX5_hold 6 = .ok (.aload_n 1, 1) := by decide +kernel
theorem dX5_hold_7 : decode cX5_hold 7 = .ok (.invokevirtual 31, 3) := by decide +kernel
theorem dX5_hold_10 : decode cX5_hold 10 = .ok (.iconst 0, 1) := by decide +kernel
theorem dX5_hold_11 : decode cX5_hold 11 = .ok (.istore_n 2, 1) := by decide +kernel
theorem dX5_hold_12 : decode cX5_hold 12 = .ok (.iload_n 2, 1) := by decide +kernel
theorem dX5_hold_13 : decode cX5_hold 13 = .ok (.aload_n 0, 1) := by decide +kernel
theorem dX5_hold_14 : decode cX5_hold 14 = .ok (.getfield 34, 3) := by decide +kernel
theorem dX5_hold_17 : decode cX5_hold 17 = .ok (.if_icmp .ge 62, 3) := by decide +kernel
theorem dX5_hold_20 : decode cX5_hold 20 = .ok (.iload_n 2, 1) := by decide +kernel
theorem dX5_hold_21 : decode cX5_hold 21 = .ok (.aload_n 0, 1) := by decide +kernel
theorem dX5_hold_22 : decode cX5_hold 22 = .ok (.getfield 24, 3) := by decide +kernel
theorem dX5_hold_25 : decode cX5_hold 25 = .ok (.arraylength, 1) := by decide +kernel
theorem dX5_hold_26 : decode cX5_hold 26 = .ok (.if_icmp .ge 53, 3) := by decide +kernel
theorem dX5_hold_29 : decode cX5_hold 29 = .ok (.aload_n 0, 1) := by decide +kernel
theorem dX5_hold_30 : decode cX5_hold 30 = .ok (.getfield 24, 3) := by decide +kernel
theorem dX5_hold_33 : decode cX5_hold 33 = .ok (.iload_n 2, 1) := by decide +kernel
theorem dX5_hold_34 : decode cX5_hold 34 = .ok (.iaload, 1) := by decide +kernel
theorem dX5_hold_35 : decode cX5_hold 35 = .ok (.istore_n 3, 1) := by decide +kernel
theorem dX5_hold_36 : decode cX5_hold 36 = .ok (.aload_n 0, 1) := by decide +kernel
theorem dX5_hold_37 : decode cX5_hold 37 = .ok (.aload_n 1, 1) := by decide +kernel
theorem dX5_hold_38 : decode cX5_hold 38 = .ok (.iload_n 3, 1) := by decide +kernel
theorem dX5_hold_39 : decode cX5_hold 39 = .ok (.invokevirtual 38, 3) := by decide +kernel
theorem dX5_hold_42 : decode cX5_hold 42 = .ok (.istore 4, 2) := by decide +kernel
theorem dX5_hold_44 : decode cX5_hold 44 = .ok (.iload 4, 2) := by decide +kernel
theorem dX5_hold_46 : decode cX5_hold 46 = .ok (.iconst (-1), 1) := by decide +kernel
theorem dX5_hold_47 : decode cX5_hold 47 = .ok (.if_icmp .eq 26, 3) := by decide +kernel
theorem dX5_hold_50 : decode cX5_hold 50 = .ok (.aload_n 0, 1) := by decide +kernel
theorem dX5_hold_51 : decode cX5_hold 51 = .ok (.getfield 9, 3) := by decide +kernel
theorem dX5_hold_54 : decode cX5_hold 54 = .ok (.iload_n 3, 1) := by decide +kernel
theorem dX5_hold_55 : decode cX5_hold 55 = .ok (.dup2, 1) := by decide +kernel
theorem dX5_hold_56 : decode cX5_hold 56 = .ok (.iaload, 1) := by decide +kernel
theorem dX5_hold_57 : decode cX5_hold 57 = .ok (.iconst 1, 1) := by decide +kernel
theorem dX5_hold_58 : decode cX5_hold 58 = .ok (.iload 4, 2) := by decide +kernel
theorem dX5_hold_60 : decode cX5_hold 60 = .ok (.ishl, 1) := by decide +kernel
theorem dX5_hold_61 : decode cX5_hold 61 = .ok (.iconst (-1), 1) := by decide +kernel
theorem dX5_hold_62 : decode cX5_hold 62 = .ok (.ixor, 1) := by decide +kernel
theorem dX5_hold_63 : decode cX5_hold 63 = .ok (.iand, 1) := by decide +kernel
theorem dX5_hold_64 : decode cX5_hold 64 = .ok (.iastore, 1) := by decide +kernel
theorem dX5_hold_65 : decode cX5_hold 65 = .ok (.aload_n 0, 1) := by decide +kernel
theorem dX5_hold_66 : decode cX5_hold 66 = .ok (.aload_n 1, 1) := by decide +kernel
theorem dX5_hold_67 : decode cX5_hold 67 = .ok (.iload 4, 2) := by decide +kernel
theorem dX5_hold_69 : decode cX5_hold 69 = .ok (.iload_n 3, 1) := by decide +kernel
theorem dX5_hold_70 : decode cX5_hold 70 = .ok (.invokevirtual 42, 3) := by decide +kernel
theorem dX5_hold_73 : decode cX5_hold 73 = .ok (.iinc 2 1, 3) := by decide +kernel
theorem dX5_hold_76 : decode cX5_hold 76 = .ok (.goto (-64), 3) := by decide +kernel
theorem dX5_hold_79 : decode cX5_hold 79 = .ok (.aload_n 0, 1) := by decide +kernel
theorem dX5_hold_80 : decode cX5_hold 80 = .ok (.aload_n 1, 1) := by decide +kernel
theorem dX5_hold_81 : decode cX5_hold 81 = .ok (.invokevirtual 46, 3) := by decide +kernel
theorem dX5_hold_84 : decode cX5_hold 84 = .ok (.ireturn, 1) := by decide +kernel
theorem dX5_enrol_0 : decode cX5_enrol 0 = .ok (.aload_n 0, 1) := by decide +kernel
theorem dX5_enrol_1 : decode cX5_enrol 1 = .ok (.iconst 0, 1) := by decide +kernel
theorem dX5_enrol_2 : decode cX5_enrol 2 = .ok (.putfield 34, 3) := by decide +kernel
theorem dX5_enrol_5 : decode cX5_enrol 5 = .ok (.iconst 0, 1) := by decide +kernel
theorem dX5_enrol_6 : decode cX5_enrol 6 = .ok (.istore_n 2, 1) := by decide +kernel
theorem dX5_enrol_7 : decode cX5_enrol 7 = .ok (.iload_n 2, 1) := by decide +kernel
theorem dX5_enrol_8 : decode cX5_enrol 8 = .ok (.aload_n 1, 1) := by decide +kernel
theorem dX5_enrol_9 : decode cX5_enrol 9 = .ok (.getfield 50, 3) := by decide +kernel
theorem dX5_enrol_12 : decode cX5_enrol 12 = .ok (.if_icmp .ge 34, 3) := by decide +kernel
theorem dX5_enrol_15 : decode cX5_enrol 15 = .ok (.aload_n 0, 1) := by decide +kernel
theorem dX5_enrol_16 : decode cX5_enrol 16 = .ok (.getfield 18, 3) := by decide +kernel
theorem dX5_enrol_19 : decode cX5_enrol 19 = .ok (.iload_n 2, 1) := by decide +kernel
theorem dX5_enrol_20 : decode cX5_enrol 20 = .ok (.aload_n 1, 1) := by decide +kernel
theorem dX5_enrol_21 : decode cX5_enrol 21 = .ok (.getfield 55, 3) := by decide +kernel
theorem dX5_enrol_24 : decode cX5_enrol 24 = .ok (.iload_n 2, 1) := by decide +kernel
theorem dX5_enrol_25 : decode cX5_enrol 25 = .ok (.aaload, 1) := by decide +kernel
theorem dX5_enrol_26 : decode cX5_enrol 26 = .ok (.getfield 59, 3) := by decide +kernel
theorem dX5_enrol_29 : decode cX5_enrol 29 = .ok (.aload_n 1, 1) := by decide +kernel
theorem dX5_enrol_30 : decode cX5_enrol 30 = .ok (.getfield 55, 3) := by decide +kernel
theorem dX5_enrol_33 : decode cX5_enrol 33 = .ok (.iload_n 2, 1) := by decide +kernel
theorem dX5_enrol_34 : decode cX5_enrol 34 = .ok (.aaload, 1) := by decide +kernel
theorem dX5_enrol_35 : decode cX5_enrol 35 = .ok (.getfield 64, 3) := by decide +kernel
theorem dX5_enrol_38 : decode cX5_enrol 38 = .ok (.isub, 1) := by decide +kernel
theorem dX5_enrol_39 : decode cX5_enrol 39 = .ok (.iastore, 1) := by decide +kernel
theorem dX5_enrol_40 : decode cX5_enrol 40 = .ok (.iinc 2 1, 3) := by decide +kernel
theorem dX5_enrol_43 : decode cX5_enrol 43 = .ok (.goto (-36), 3) := by decide +kernel
theorem dX5_enrol_46 : decode cX5_enrol 46 = .ok (.iconst 0, 1) := by decide +kernel
theorem dX5_enrol_47 : decode cX5_enrol 47 = .ok (.istore_n 2, 1) := by decide +kernel
theorem dX5_enrol_48 : decode cX5_enrol 48 = .ok (.iload_n 2, 1) := by decide +kernel
theorem dX5_enrol_49 : decode cX5_enrol 49 = .ok (.aload_n 1, 1) := by decide +kernel
theorem dX5_enrol_50 : decode cX5_enrol 50 = .ok (.getfield 67, 3) := by decide +kernel
theorem dX5_enrol_53 : decode cX5_enrol 53 = .ok (.if_icmp .ge 41, 3) := by decide +kernel
theorem dX5_enrol_56 : decode cX5_enrol 56 = .ok (.aload_n 0, 1) := by decide +kernel
theorem dX5_enrol_57 : decode cX5_enrol 57 = .ok (.getfield 9, 3) := by decide +kernel
theorem dX5_enrol_60 : decode cX5_enrol 60 = .ok (.iload_n 2, 1) := by decide +kernel
theorem dX5_enrol_61 : decode cX5_enrol 61 = .ok (.iconst 0, 1) := by decide +kernel
theorem dX5_enrol_62 : decode cX5_enrol 62 = .ok (.iastore, 1) := by decide +kernel
theorem dX5_enrol_63 : decode cX5_enrol 63 = .ok (.aload_n 0, 1) := by decide +kernel
theorem dX5_enrol_64 : decode cX5_enrol 64 = .ok (.getfield 15, 3) := by decide +kernel
theorem dX5_enrol_67 : decode cX5_enrol 67 = .ok (.iload_n 2, 1) := by decide +kernel
theorem dX5_enrol_68 : decode cX5_enrol 68 = .ok (.iconst (-1), 1) := by decide +kernel
theorem dX5_enrol_69 : decode cX5_enrol 69 = .ok (.iastore, 1) := by decide +kernel
theorem dX5_enrol_70 : decode cX5_enrol 70 = .ok (.aload_n 1, 1) := by decide +kernel
theorem dX5_enrol_71 : decode cX5_enrol 71 = .ok (.getfield 70, 3) := by decide +kernel
theorem dX5_enrol_74 : decode cX5_enrol 74 = .ok (.iload_n 2, 1) := by decide +kernel
theorem dX5_enrol_75 : decode cX5_enrol 75 = .ok (.aaload, 1) := by decide +kernel
theorem dX5_enrol_76 : decode cX5_enrol 76 = .ok (.getfield 74, 3) := by decide +kernel
theorem dX5_enrol_79 : decode cX5_enrol 79 = .ok (.iconst (-1), 1) := by decide +kernel
theorem dX5_enrol_80 : decode cX5_enrol 80 = .ok (.if_icmp .ne 8, 3) := by decide +kernel
theorem dX5_enrol_83 : decode cX5_enrol 83 = .ok (.aload_n 0, 1) := by decide +kernel
theorem dX5_enrol_84 : decode cX5_enrol 84 = .ok (.iload_n 2, 1) := by decide +kernel
theorem dX5_enrol_85 : decode cX5_enrol 85 = .ok (.invokevirtual 79, 3) := by decide +kernel
theorem dX5_enrol_88 : decode cX5_enrol 88 = .ok (.iinc 2 1, 3) := by decide +kernel
theorem dX5_enrol_91 : decode cX5_enrol 91 = .ok (.goto (-43), 3) := by decide +kernel
theorem dX5_enrol_94 : decode cX5_enrol 94 = .ok (.return_, 1) := by decide +kernel
theorem dX5_weigh_0 : decode cX5_weigh 0 = .ok (.iconst 0, 1) := by decide +kernel
theorem dX5_weigh_1 : decode cX5_weigh 1 = .ok (.istore_n 2, 1) := by decide +kernel
theorem dX5_weigh_2 : decode cX5_weigh 2 = .ok (.iload_n 2, 1) := by decide +kernel
theorem dX5_weigh_3 : decode cX5_weigh 3 = .ok (.aload_n 1, 1) := by decide +kernel
theorem dX5_weigh_4 : decode cX5_weigh 4 = .ok (.getfield 50, 3) := by decide +kernel
theorem dX5_weigh_7 : decode cX5_weigh 7 = .ok (.if_icmp .ge 69, 3) := by decide +kernel
theorem dX5_weigh_10 : decode cX5_weigh 10 = .ok (.iconst 0, 1) := by decide +kernel
theorem dX5_weigh_11 : decode cX5_weigh 11 = .ok (.istore_n 3, 1) := by decide +kernel
theorem dX5_weigh_12 : decode cX5_weigh 12 = .ok (.iload_n 3, 1) := by decide +kernel
theorem dX5_weigh_13 : decode cX5_weigh 13 = .ok (.aload_n 1, 1) := by decide +kernel
theorem dX5_weigh_14 : decode cX5_weigh 14 = .ok (.getfield 67, 3) := by decide +kernel
theorem dX5_weigh_17 : decode cX5_weigh 17 = .ok (.if_icmp .ge 53, 3) := by decide +kernel
theorem dX5_weigh_20 : decode cX5_weigh 20 = .ok (.aload_n 1, 1) := by decide +kernel
theorem dX5_weigh_21 : decode cX5_weigh 21 = .ok (.iload_n 2, 1) := by decide +kernel
theorem dX5_weigh_22 : decode cX5_weigh 22 = .ok (.iload_n 3, 1) := by decide +kernel
theorem dX5_weigh_23 : decode cX5_weigh 23 = .ok (.invokevirtual 83, 3) := by decide +kernel
theorem dX5_weigh_26 : decode cX5_weigh 26 = .ok (.istore 4, 2) := by decide +kernel
theorem dX5_weigh_28 : decode cX5_weigh 28 = .ok (.aload_n 0, 1) := by decide +kernel
theorem dX5_weigh_29 : decode cX5_weigh 29 = .ok (.getfield 21, 3) := by decide +kernel
theorem dX5_weigh_32 : decode cX5_weigh 32 = .ok (.iload_n 2, 1) := by decide +kernel
theorem dX5_weigh_33 : decode cX5_weigh 33 = .ok (.bipush 12, 2) := by decide +kernel
theorem dX5_weigh_35 : decode cX5_weigh 35 = .ok (.imul, 1) := by decide +kernel
theorem dX5_weigh_36 : decode cX5_weigh 36 = .ok (.iload_n 3, 1) := by decide +kernel
theorem dX5_weigh_37 : decode cX5_weigh 37 = .ok (.iadd, 1) := by decide +kernel
theorem dX5_weigh_38 : decode cX5_weigh 38 = .ok (.iload 4, 2) := by decide +kernel
theorem dX5_weigh_40 : decode cX5_weigh 40 = .ok (.iastore, 1) := by decide +kernel
theorem dX5_weigh_41 : decode cX5_weigh 41 = .ok (.aload_n 1, 1) := by decide +kernel
theorem dX5_weigh_42 : decode cX5_weigh 42 = .ok (.iload_n 2, 1) := by decide +kernel
theorem dX5_weigh_43 : decode cX5_weigh 43 = .ok (.iload_n 3, 1) := by decide +kernel
theorem dX5_weigh_44 : decode cX5_weigh 44 = .ok (.iload 4, 2) := by decide +kernel
theorem dX5_weigh_46 : decode cX5_weigh 46 = .ok (.invokevirtual 87, 3) := by decide +kernel
theorem dX5_weigh_49 : decode cX5_weigh 49 = .ok (.ifCond .ne 15, 3) := by decide +kernel
theorem dX5_weigh_52 : decode cX5_weigh 52 = .ok (.aload_n 0, 1) := by decide +kernel
theorem dX5_weigh_53 : decode cX5_weigh 53 = .ok (.getfield 9, 3) := by decide +kernel
theorem dX5_weigh_56 : decode cX5_weigh 56 = .ok (.iload_n 3, 1) := by decide +kernel
theorem dX5_weigh_57 : decode cX5_weigh 57 = .ok (.dup2, 1) := by decide +kernel
theorem dX5_weigh_58 : decode cX5_weigh 58 = .ok (.iaload, 1) := by decide +kernel
theorem dX5_weigh_59 : decode cX5_weigh 59 = .ok (.iconst 1, 1) := by decide +kernel
theorem dX5_weigh_60 : decode cX5_weigh 60 = .ok (.iload_n 2, 1) := by decide +kernel
theorem dX5_weigh_61 : decode cX5_weigh 61 = .ok (.ishl, 1) := by decide +kernel
theorem dX5_weigh_62 : decode cX5_weigh 62 = .ok (.ior, 1) := by decide +kernel
theorem dX5_weigh_63 : decode cX5_weigh 63 = .ok (.iastore, 1) := by decide +kernel
theorem dX5_weigh_64 : decode cX5_weigh 64 = .ok (.iinc 3 1, 3) := by decide +kernel
theorem dX5_weigh_67 : decode cX5_weigh 67 = .ok (.goto (-55), 3) := by decide +kernel
theorem dX5_weigh_70 : decode cX5_weigh 70 = .ok (.iinc 2 1, 3) := by decide +kernel
theorem dX5_weigh_73 : decode cX5_weigh 73 = .ok (.goto (-71), 3) := by decide +kernel
theorem dX5_weigh_76 : decode cX5_weigh 76 = .ok (.return_, 1) := by decide +kernel
theorem dX5_enqueue_0 : decode cX5_enqueue 0 = .ok (.aload_n 0, 1) := by decide +kernel
theorem dX5_enqueue_1 : decode cX5_enqueue 1 = .ok (.getfield 34, 3) := by decide +kernel
theorem dX5_enqueue_4 : decode cX5_enqueue 4 = .ok (.aload_n 0, 1) := by decide +kernel
theorem dX5_enqueue_5 : decode cX5_enqueue 5 = .ok (.getfield 24, 3) := by decide +kernel
theorem dX5_enqueue_8 : decode cX5_enqueue 8 = .ok (.arraylength, 1) := by decide +kernel
theorem dX5_enqueue_9 : decode cX5_enqueue 9 = .ok (.if_icmp .ge 23, 3) := by decide +kernel
theorem dX5_enqueue_12 : decode cX5_enqueue 12 = .ok (.aload_n 0, 1) := by decide +kernel
theorem dX5_enqueue_13 : decode cX5_enqueue 13 = .ok (.getfield 24, 3) := by decide +kernel
theorem dX5_enqueue_16 : decode cX5_enqueue 16 = .ok (.aload_n 0, 1) := by decide +kernel
theorem dX5_enqueue_17 : decode cX5_enqueue 17 = .ok (.getfield 34, 3) := by decide +kernel
theorem dX5_enqueue_20 : decode cX5_enqueue 20 = .ok (.iload_n 1, 1) := by decide +kernel
theorem dX5_enqueue_21 : decode cX5_enqueue 21 = .ok (.iastore, 1) := by decide +kernel
theorem dX5_enqueue_22 : decode cX5_enqueue 22 = .ok (.aload_n 0, 1) := by decide +kernel
theorem dX5_enqueue_23 : decode cX5_enqueue 23 = .ok (.dup, 1) := by decide +kernel
theorem dX5_enqueue_24 : decode cX5_enqueue 24 = .ok (.getfield 34, 3) := by decide +kernel
theorem dX5_enqueue_27 : decode cX5_enqueue 27 = .ok (.iconst 1, 1) := by decide +kernel
theorem dX5_enqueue_28 : decode cX5_enqueue 28 = .ok (.iadd, 1) := by decide +kernel
theorem dX5_enqueue_29 : decode cX5_enqueue 29 = .ok (.putfield 34, 3) := by decide +kernel
theorem dX5_enqueue_32 : decode cX5_enqueue 32 = .ok (.return_, 1) := by decide +kernel
theorem dX5_favourite_0 : decode cX5_favourite 0 = .ok (.iconst (-1), 1) := by decide +kernel
theorem dX5_favourite_1 : decode cX5_favourite 1 = .ok (.istore_n 3, 1) := by decide +kernel
theorem dX5_favourite_2 : decode cX5_favourite 2 = .ok (.iconst 0, 1) := by decide +kernel
theorem dX5_favourite_3 : decode cX5_favourite 3 = .ok (.istore 4, 2) := by decide +kernel
theorem dX5_favourite_5 : decode cX5_favourite 5 = .ok (.iload 4, 2) := by decide +kernel
theorem dX5_favourite_7 : decode cX5_favourite 7 = .ok (.aload_n 1, 1) := by decide +kernel
theorem dX5_favourite_8 : decode cX5_favourite 8 = .ok (.getfield 50, 3) := by decide +kernel
theorem dX5_favourite_11 : decode cX5_favourite 11 = .ok (.if_icmp .ge 54, 3) := by decide +kernel
theorem dX5_favourite_14 : decode cX5_favourite 14 = .ok (.aload_n 0, 1) := by decide +kernel
theorem dX5_favourite_15 : decode cX5_favourite 15 = .ok (.getfield 9, 3) := by decide +kernel
theorem dX5_favourite_18 : decode cX5_favourite 18 = .ok (.iload_n 2, 1) := by decide +kernel
theorem dX5_favourite_19 : decode cX5_favourite 19 = .ok (.iaload, 1) := by decide +kernel
theorem dX5_favourite_20 : decode cX5_favourite 20 = .ok (.iload 4, 2) := by decide +kernel
theorem dX5_favourite_22 : decode cX5_favourite 22 = .ok (.ishr, 1) := by decide +kernel
theorem dX5_favourite_23 : decode cX5_favourite 23 = .ok (.iconst 1, 1) := by decide +kernel
theorem dX5_favourite_24 : decode cX5_favourite 24 = .ok (.iand, 1) := by decide +kernel
theorem dX5_favourite_25 : decode cX5_favourite 25 = .ok (.iconst 1, 1) := by decide +kernel
theorem dX5_favourite_26 : decode cX5_favourite 26 = .ok (.if_icmp .ne 7, 3) := by decide +kernel
theorem dX5_favourite_29 : decode cX5_favourite 29 = .ok (.iconst 1, 1) := by decide +kernel
theorem dX5_favourite_30 : decode cX5_favourite 30 = .ok (.goto 4, 3) := by decide +kernel
theorem dX5_favourite_33 : decode cX5_favourite 33 = .ok (.iconst 0, 1) := by decide +kernel
theorem dX5_favourite_34 : decode cX5_favourite 34 = .ok (.istore 5, 2) := by decide +kernel
theorem dX5_favourite_36 : decode cX5_favourite 36 = .ok (.iload 5, 2) := by decide +kernel
theorem dX5_favourite_38 : decode cX5_favourite 38 = .ok (.ifCond .eq 21, 3) := by decide +kernel
theorem dX5_favourite_41 : decode cX5_favourite 41 = .ok (.iload_n 3, 1) := by decide +kernel
theorem dX5_favourite_42 : decode cX5_favourite 42 = .ok (.iconst (-1), 1) := by decide +kernel
theorem dX5_favourite_43 : decode cX5_favourite 43 = .ok (.if_icmp .eq 13, 3) := by decide +kernel
theorem dX5_favourite_46 : decode cX5_favourite 46 = .ok (.aload_n 1, 1) := by decide +kernel
theorem dX5_favourite_47 : decode cX5_favourite 47 = .ok (.iload 4, 2) := by decide +kernel
theorem dX5_favourite_49 : decode cX5_favourite 49 = .ok (.iload_n 3, 1) := by decide +kernel
theorem dX5_favourite_50 : decode cX5_favourite 50 = .ok (.invokevirtual 91, 3) := by decide +kernel
theorem dX5_favourite_53 : decode cX5_favourite 53 = .ok (.ifCond .eq 6, 3) := by decide +kernel
theorem dX5_favourite_56 : decode cX5_favourite 56 = .ok (.iload 4, 2) := by decide +kernel
theorem dX5_favourite_58 : decode cX5_favourite 58 = .ok (.istore_n 3, 1) := by decide +kernel
theorem dX5_favourite_59 : decode cX5_favourite 59 = .ok (.iinc 4 1, 3) := by decide +kernel
theorem dX5_favourite_62 : decode cX5_favourite 62 = .ok (.goto (-57), 3) := by decide +kernel
theorem dX5_favourite_65 : decode cX5_favourite 65 = .ok (.iload_n 3, 1) := by decide +kernel
theorem dX5_favourite_66 : decode cX5_favourite 66 = .ok (.ireturn, 1) := by decide +kernel
theorem dX5_apply_0 : decode cX5_apply 0 = .ok (.aload_n 0, 1) := by decide +kernel
theorem dX5_apply_1 : decode cX5_apply 1 = .ok (.getfield 18, 3) := by decide +kernel
theorem dX5_apply_4 : decode cX5_apply 4 = .ok (.iload_n 2, 1) := by decide +kernel
theorem dX5_apply_5 : decode cX5_apply 5 = .ok (.iaload, 1) := by decide +kernel
theorem dX5_apply_6 : decode cX5_apply 6 = .ok (.ifCond .le 21, 3) := by decide +kernel
theorem dX5_apply_9 : decode cX5_apply 9 = .ok (.aload_n 0, 1) := by decide +kernel
theorem dX5_apply_10 : decode cX5_apply 10 = .ok (.getfield 18, 3) := by decide +kernel
theorem dX5_apply_13 : decode cX5_apply 13 = .ok (.iload_n 2, 1) := by decide +kernel
theorem dX5_apply_14 : decode cX5_apply 14 = .ok (.dup2, 1) := by decide +kernel
theorem dX5_apply_15 : decode cX5_apply 15 = .ok (.iaload, 1) := by decide +kernel
theorem dX5_apply_16 : decode cX5_apply 16 = .ok (.iconst 1, 1) := by decide +kernel
theorem dX5_apply_17 : decode cX5_apply 17 = .ok (.isub, 1) := by decide +kernel
theorem dX5_apply_18 : decode cX5_apply 18 = .ok (.iastore, 1) := by decide +kernel
theorem dX5_apply_19 : decode cX5_apply 19 = .ok (.aload_n 0, 1) := by decide +kernel
theorem dX5_apply_20 : decode cX5_apply 20 = .ok (.getfield 15, 3) := by decide +kernel
theorem dX5_apply_23 : decode cX5_apply 23 = .ok (.iload_n 3, 1) := by decide +kernel
theorem dX5_apply_24 : decode cX5_apply 24 = .ok (.iload_n 2, 1) := by decide +kernel
theorem dX5_apply_25 : decode cX5_apply 25 = .ok (.iastore, 1) := by decide +kernel
theorem dX5_apply_26 : decode cX5_apply 26 = .ok (.return_, 1) := by decide +kernel
theorem dX5_apply_27 : decode cX5_apply 27 = .ok (.aload_n 0, 1) := by decide +kernel
theorem dX5_apply_28 : decode cX5_apply 28 = .ok (.aload_n 1, 1) := by decide +kernel
theorem dX5_apply_29 : decode cX5_apply 29 = .ok (.iload_n 2, 1) := by decide +kernel
theorem dX5_apply_30 : decode cX5_apply 30 = .ok (.invokevirtual 95, 3) := by decide +kernel
theorem dX5_apply_33 : decode cX5_apply 33 = .ok (.istore 4, 2) := by decide +kernel
theorem dX5_apply_35 : decode cX5_apply 35 = .ok (.iload 4, 2) := by decide +kernel
theorem dX5_apply_37 : decode cX5_apply 37 = .ok (.iconst (-1), 1) := by decide +kernel
theorem dX5_apply_38 : decode cX5_apply 38 = .ok (.if_icmp .eq 14, 3) := by decide +kernel
theorem dX5_apply_41 : decode cX5_apply 41 = .ok (.aload_n 0, 1) := by decide +kernel
theorem dX5_apply_42 : decode cX5_apply 42 = .ok (.iload_n 2, 1) := by decide +kernel
theorem dX5_apply_43 : decode cX5_apply 43 = .ok (.iload_n 3, 1) := by decide +kernel
theorem dX5_apply_44 : decode cX5_apply 44 = .ok (.iload 4, 2) := by decide +kernel
theorem dX5_apply_46 : decode cX5_apply 46 = .ok (.invokevirtual 98, 3) := by decide +kernel
theorem dX5_apply_49 : decode cX5_apply 49 = .ok (.ifCond .ne 9, 3) := by decide +kernel
theorem dX5_apply_52 : decode cX5_apply 52 = .ok (.aload_n 0, 1) := by decide +kernel
theorem dX5_apply_53 : decode cX5_apply 53 = .ok (.iload_n 3, 1) := by decide +kernel
theorem dX5_apply_54 : decode cX5_apply 54 = .ok (.invokevirtual 79, 3) := by decide +kernel
theorem dX5_apply_57 : decode cX5_apply 57 = .ok (.return_, 1) := by decide +kernel
theorem dX5_apply_58 : decode cX5_apply 58 = .ok (.aload_n 0, 1) := by decide +kernel
theorem dX5_apply_59 : decode cX5_apply 59 = .ok (.getfield 15, 3) := by decide +kernel
theorem dX5_apply_62 : decode cX5_apply 62 = .ok (.iload 4, 2) := by decide +kernel
theorem dX5_apply_64 : decode cX5_apply 64 = .ok (.iconst (-1), 1) := by decide +kernel
theorem dX5_apply_65 : decode cX5_apply 65 = .ok (.iastore, 1) := by decide +kernel
theorem dX5_apply_66 : decode cX5_apply 66 = .ok (.aload_n 0, 1) := by decide +kernel
theorem dX5_apply_67 : decode cX5_apply 67 = .ok (.getfield 15, 3) := by decide +kernel
theorem dX5_apply_70 : decode cX5_apply 70 = .ok (.iload_n 3, 1) := by decide +kernel
theorem dX5_apply_71 : decode cX5_apply 71 = .ok (.iload_n 2, 1) := by decide +kernel
theorem dX5_apply_72 : decode cX5_apply 72 = .ok (.iastore, 1) := by decide +kernel
theorem dX5_apply_73 : decode cX5_apply 73 = .ok (.aload_n 0, 1) := by decide +kernel
theorem dX5_apply_74 : decode cX5_apply 74 = .ok (.iload 4, 2) := by decide +kernel
theorem dX5_apply_76 : decode cX5_apply 76 = .ok (.invokevirtual 79, 3) := by decide +kernel
theorem dX5_apply_79 : decode cX5_apply 79 = .ok (.return_, 1) := by decide +kernel
theorem dX5_leastKept_0 : decode cX5_leastKept 0 = .ok (.iconst (-1), 1) := by decide +kernel
theorem dX5_leastKept_1 : decode cX5_leastKept 1 = .ok (.istore_n 3, 1) := by decide +kernel
theorem dX5_leastKept_2 : decode cX5_leastKept 2 = .ok (.iconst 0, 1) := by decide +kernel
theorem dX5_leastKept_3 : decode cX5_leastKept 3 = .ok (.istore 4, 2) := by decide +kernel
theorem dX5_leastKept_5 : decode cX5_leastKept 5 = .ok (.iload 4, 2) := by decide +kernel
theorem dX5_leastKept_7 : decode cX5_leastKept 7 = .ok (.aload_n 1, 1) := by decide +kernel
theorem dX5_leastKept_8 : decode cX5_leastKept 8 = .ok (.getfield 67, 3) := by decide +kernel
theorem dX5_leastKept_11 : decode cX5_leastKept 11 = .ok (.if_icmp .ge 39, 3) := by decide +kernel
theorem dX5_leastKept_14 : decode cX5_leastKept 14 = .ok (.aload_n 0, 1) := by decide +kernel
theorem dX5_leastKept_15 : decode cX5_leastKept 15 = .ok (.getfield 15, 3) := by decide +kernel
theorem dX5_leastKept_18 : decode cX5_leastKept 18 = .ok (.iload 4, 2) := by decide +kernel
theorem dX5_leastKept_20 : decode cX5_leastKept 20 = .ok (.iaload, 1) := by decide +kernel
theorem dX5_leastKept_21 : decode cX5_leastKept 21 = .ok (.iload_n 2, 1) := by decide +kernel
theorem dX5_leastKept_22 : decode cX5_leastKept 22 = .ok (.if_icmp .ne 22, 3) := by decide +kernel
theorem dX5_leastKept_25 : decode cX5_leastKept 25 = .ok (.iload_n 3, 1) := by decide +kernel
theorem dX5_leastKept_26 : decode cX5_leastKept 26 = .ok (.iconst (-1), 1) := by decide +kernel
theorem dX5_leastKept_27 : decode cX5_leastKept 27 = .ok (.if_icmp .eq 14, 3) := by decide +kernel
theorem dX5_leastKept_30 : decode cX5_leastKept 30 = .ok (.aload_n 0, 1) := by decide +kernel
theorem dX5_leastKept_31 : decode cX5_leastKept 31 = .ok (.iload_n 2, 1) := by decide +kernel
theorem dX5_leastKept_32 : decode cX5_leastKept 32 = .ok (.iload_n 3, 1) := by decide +kernel
theorem dX5_leastKept_33 : decode cX5_leastKept 33 = .ok (.iload 4, 2) := by decide +kernel
theorem dX5_leastKept_35 : decode cX5_leastKept 35 = .ok (.invokevirtual 98, 3) := by decide +kernel
theorem dX5_leastKept_38 : decode cX5_leastKept 38 = .ok (.ifCond .eq 6, 3) := by decide +kernel
theorem dX5_leastKept_41 : decode cX5_leastKept 41 = .ok (.iload 4, 2) := by decide +kernel
theorem dX5_leastKept_43 : decode cX5_leastKept 43 = .ok (.istore_n 3, 1) := by decide +kernel
theorem dX5_leastKept_44 : decode cX5_leastKept 44 = .ok (.iinc 4 1, 3) := by decide +kernel
theorem dX5_leastKept_47 : decode cX5_leastKept 47 = .ok (.goto (-42), 3) := by decide +kernel
theorem dX5_leastKept_50 : decode cX5_leastKept 50 = .ok (.iload_n 3, 1) := by decide +kernel
theorem dX5_leastKept_51 : decode cX5_leastKept 51 = .ok (.ireturn, 1) := by decide +kernel
theorem dX5_prefers_0 : decode cX5_prefers 0 = .ok (.aload_n 0, 1) := by decide +kernel
theorem dX5_prefers_1 : decode cX5_prefers 1 = .ok (.getfield 21, 3) := by decide +kernel
theorem dX5_prefers_4 : decode cX5_prefers 4 = .ok (.iload_n 1, 1) := by decide +kernel
theorem dX5_prefers_5 : decode cX5_prefers 5 = .ok (.bipush 12, 2) := by decide +kernel
theorem dX5_prefers_7 : decode cX5_prefers 7 = .ok (.imul, 1) := by decide +kernel
theorem dX5_prefers_8 : decode cX5_prefers 8 = .ok (.iload_n 2, 1) := by decide +kernel
theorem dX5_prefers_9 : decode cX5_prefers 9 = .ok (.iadd, 1) := by decide +kernel
theorem dX5_prefers_10 : decode cX5_prefers 10 = .ok (.iaload, 1) := by decide +kernel
theorem dX5_prefers_11 : decode cX5_prefers 11 = .ok (.istore 4, 2) := by decide +kernel
theorem dX5_prefers_13 : decode cX5_prefers 13 = .ok (.aload_n 0, 1) := by decide +kernel
theorem dX5_prefers_14 : decode cX5_prefers 14 = .ok (.getfield 21, 3) := by decide +kernel
theorem dX5_prefers_17 : decode cX5_prefers 17 = .ok (.iload_n 1, 1) := by decide +kernel
theorem dX5_prefers_18 : decode cX5_prefers 18 = .ok (.bipush 12, 2) := by decide +kernel
theorem dX5_prefers_20 : decode cX5_prefers 20 = .ok (.imul, 1) := by decide +kernel
theorem dX5_prefers_21 : decode cX5_prefers 21 = .ok (.iload_n 3, 1) := by decide +kernel
theorem dX5_prefers_22 : decode cX5_prefers 22 = .ok (.iadd, 1) := by decide +kernel
theorem dX5_prefers_23 : decode cX5_prefers 23 = .ok (.iaload, 1) := by decide +kernel
theorem dX5_prefers_24 : decode cX5_prefers 24 = .ok (.istore 5, 2) := by decide +kernel
theorem dX5_prefers_26 : decode cX5_prefers 26 = .ok (.iload 4, 2) := by decide +kernel
theorem dX5_prefers_28 : decode cX5_prefers 28 = .ok (.iload 5, 2) := by decide +kernel
theorem dX5_prefers_30 : decode cX5_prefers 30 = .ok (.if_icmp .gt 15, 3) := by decide +kernel
theorem dX5_prefers_33 : decode cX5_prefers 33 = .ok (.iload 4, 2) := by decide +kernel
theorem dX5_prefers_35 : decode cX5_prefers 35 = .ok (.iload 5, 2) := by decide +kernel
theorem dX5_prefers_37 : decode cX5_prefers 37 = .ok (.if_icmp .ne 12, 3) := by decide +kernel
theorem dX5_prefers_40 : decode cX5_prefers 40 = .ok (.iload_n 2, 1) := by decide +kernel
theorem dX5_prefers_41 : decode cX5_prefers 41 = .ok (.iload_n 3, 1) := by decide +kernel
theorem dX5_prefers_42 : decode cX5_prefers 42 = .ok (.if_icmp .ge 7, 3) := by decide +kernel
theorem dX5_prefers_45 : decode cX5_prefers 45 = .ok (.iconst 1, 1) := by decide +kernel
theorem dX5_prefers_46 : decode cX5_prefers 46 = .ok (.goto 4, 3) := by decide +kernel
theorem dX5_prefers_49 : decode cX5_prefers 49 = .ok (.iconst 0, 1) := by decide +kernel
theorem dX5_prefers_50 : decode cX5_prefers 50 = .ok (.ireturn, 1) := by decide +kernel
theorem dX5_sign_0 : decode cX5_sign 0 = .ok (.iconst 0, 1) := by decide +kernel
theorem dX5_sign_1 : decode cX5_sign 1 = .ok (.istore_n 2, 1) := by decide +kernel
theorem dX5_sign_2 : decode cX5_sign 2 = .ok (.iconst 0, 1) := by decide +kernel
theorem dX5_sign_3 : decode cX5_sign 3 = .ok (.istore_n 3, 1) := by decide +kernel
theorem dX5_sign_4 : decode cX5_sign 4 = .ok (.iload_n 3, 1) := by decide +kernel
theorem dX5_sign_5 : decode cX5_sign 5 = .ok (.aload_n 1, 1) := by decide +kernel
theorem dX5_sign_6 : decode cX5_sign 6 = .ok (.getfield 50, 3) := by decide +kernel
theorem dX5_sign_9 : decode cX5_sign 9 = .ok (.if_icmp .ge 48, 3) := by decide +kernel
theorem dX5_sign_12 : decode cX5_sign 12 = .ok (.iconst 0, 1) := by decide +kernel
theorem dX5_sign_13 : decode cX5_sign 13 = .ok (.istore 4, 2) := by decide +kernel
theorem dX5_sign_15 : decode cX5_sign 15 = .ok (.iload 4, 2) := by decide +kernel
theorem dX5_sign_17 : decode cX5_sign 17 = .ok (.aload_n 1, 1) := by decide +kernel
theorem dX5_sign_18 : decode cX5_sign 18 = .ok (.getfield 67, 3) := by decide +kernel
theorem dX5_sign_21 : decode cX5_sign 21 = .ok (.if_icmp .ge 30, 3) := by decide +kernel
theorem dX5_sign_24 : decode cX5_sign 24 = .ok (.aload_n 0, 1) := by decide +kernel
theorem dX5_sign_25 : decode cX5_sign 25 = .ok (.getfield 15, 3) := by decide +kernel
theorem dX5_sign_28 : decode cX5_sign 28 = .ok (.iload 4, 2) := by decide +kernel
theorem dX5_sign_30 : decode cX5_sign 30 = .ok (.iaload, 1) := by decide +kernel
theorem dX5_sign_31 : decode cX5_sign 31 = .ok (.iload_n 3, 1) := by decide +kernel
theorem dX5_sign_32 : decode cX5_sign 32 = .ok (.if_icmp .ne 13, 3) := by decide +kernel
theorem dX5_sign_35 : decode cX5_sign 35 = .ok (.aload_n 1, 1) := by decide +kernel
theorem dX5_sign_36 : decode cX5_sign 36 = .ok (.iload_n 3, 1) := by decide +kernel
theorem dX5_sign_37 : decode cX5_sign 37 = .ok (.iload 4, 2) := by decide +kernel
theorem dX5_sign_39 : decode cX5_sign 39 = .ok (.invokevirtual 102, 3) := by decide +kernel
theorem dX5_sign_42 : decode cX5_sign 42 = .ok (.iinc 2 1, 3) := by decide +kernel
theorem dX5_sign_45 : decode cX5_sign 45 = .ok (.iinc 4 1, 3) := by decide +kernel
theorem dX5_sign_48 : decode cX5_sign 48 = .ok (.goto (-33), 3) := by decide +kernel
theorem dX5_sign_51 : decode cX5_sign 51 = .ok (.iinc 3 1, 3) := by decide +kernel
theorem dX5_sign_54 : decode cX5_sign 54 = .ok (.goto (-50), 3) := by decide +kernel
theorem dX5_sign_57 : decode cX5_sign 57 = .ok (.iload_n 2, 1) := by decide +kernel
theorem dX5_sign_58 : decode cX5_sign 58 = .ok (.ireturn, 1) := by decide +kernel
theorem dX6_init_0 : decode cX6_init 0 = .ok (.aload_n 0, 1) := by decide +kernel
theorem dX6_init_1 : decode cX6_init 1 = .ok (.invokespecial 3, 3) := by decide +kernel
theorem dX6_init_4 : decode cX6_init 4 = .ok (.aload_n 0, 1) := by decide +kernel
theorem dX6_init_5 : decode cX6_init 5 = .ok (.iconst 1, 1) := by decide +kernel
theorem dX6_init_6 : decode cX6_init 6 = .ok (.putfield 9, 3) := by decide +kernel
theorem dX6_init_9 : decode cX6_init 9 = .ok (.aload_n 0, 1) := by decide +kernel
theorem dX6_init_10 : decode cX6_init 10 = .ok (.bipush 12, 2) := by decide +kernel
theorem dX6_init_12 : decode cX6_init 12 = .ok (.newarray .int, 2) := by decide +kernel
theorem dX6_init_14 : decode cX6_init 14 = .ok (.putfield 15, 3) := by decide +kernel
theorem dX6_init_17 : decode cX6_init 17 = .ok (.return_, 1) := by decide +kernel
theorem dX6_copyFrom_0 : decode cX6_copyFrom 0 = .ok (.aload_n 0, 1) := by decide +kernel
theorem dX6_copyFrom_1 : decode cX6_copyFrom 1 = .ok (.aload_n 1, 1) := by decide +kernel
theorem dX6_copyFrom_2 : decode cX6_copyFrom 2 = .ok (.getfield 9, 3) := by decide +kernel
theorem dX6_copyFrom_5 : decode cX6_copyFrom 5 = .ok (.putfield 9, 3) := by decide +kernel
theorem dX6_copyFrom_8 : decode cX6_copyFrom 8 = .ok (.aload_n 1, 1) := by decide +kernel
theorem dX6_copyFrom_9 : decode cX6_copyFrom 9 = .ok (.getfield 15, 3) := by decide +kernel
theorem dX6_copyFrom_12 : decode cX6_copyFrom 12 = .ok (.iconst 0, 1) := by decide +kernel
theorem dX6_copyFrom_13 : decode cX6_copyFrom 13 = .ok (.aload_n 0, 1) := by decide +kernel
theorem dX6_copyFrom_14 : decode cX6_copyFrom 14 = .ok (.getfield 15, 3) := by decide +kernel
theorem dX6_copyFrom_17 : decode cX6_copyFrom 17 = .ok (.iconst 0, 1) := by decide +kernel
theorem dX6_copyFrom_18 : decode cX6_copyFrom 18 = .ok (.bipush 12, 2) := by decide +kernel
theorem dX6_copyFrom_20 : decode cX6_copyFrom 20 = .ok (.invokestatic 19, 3) := by decide +kernel
theorem dX6_copyFrom_23 : decode cX6_copyFrom 23 = .ok (.aload_n 0, 1) := by decide +kernel
theorem dX6_copyFrom_24 : decode cX6_copyFrom 24 = .ok (.aload_n 1, 1) := by decide +kernel
theorem dX6_copyFrom_25 : decode cX6_copyFrom 25 = .ok (.getfield 25, 3) := by decide +kernel
theorem dX6_copyFrom_28 : decode cX6_copyFrom 28 = .ok (.putfield 25, 3) := by decide +kernel
theorem dX6_copyFrom_31 : decode cX6_copyFrom 31 = .ok (.return_, 1) := by decide +kernel
theorem dX6_startsOn_0 : decode cX6_startsOn 0 = .ok (.aload_n 0, 1) := by decide +kernel
theorem dX6_startsOn_1 : decode cX6_startsOn 1 = .ok (.getfield 9, 3) := by decide +kernel
theorem dX6_startsOn_4 : decode cX6_startsOn 4 = .ok (.ifCond .le 16, 3) := by decide +kernel
theorem dX6_startsOn_7 : decode cX6_startsOn 7 = .ok (.iload_n 1, 1) := by decide +kernel
theorem dX6_startsOn_8 : decode cX6_startsOn 8 = .ok (.aload_n 0, 1) := by decide +kernel
theorem dX6_startsOn_9 : decode cX6_startsOn 9 = .ok (.getfield 9, 3) := by decide +kernel
theorem dX6_startsOn_12 : decode cX6_startsOn 12 = .ok (.irem, 1) := by decide +kernel
theorem dX6_startsOn_13 : decode cX6_startsOn 13 = .ok (.ifCond .ne 7, 3) := by decide +kernel
theorem dX6_startsOn_16 : decode cX6_startsOn 16 = .ok (.iconst 1, 1) := by decide +kernel
theorem dX6_startsOn_17 : decode cX6_startsOn 17 = .ok (.goto 4, 3) := by decide +kernel
theorem dX6_startsOn_20 : decode cX6_startsOn 20 = .ok (.iconst 0, 1) := by decide +kernel
theorem dX6_startsOn_21 : decode cX6_startsOn 21 = .ok (.ireturn, 1) := by decide +kernel
theorem dX6_fogOn_0 : decode cX6_fogOn 0 = .ok (.aload_n 0, 1) := by decide +kernel
theorem dX6_fogOn_1 : decode cX6_fogOn 1 = .ok (.getfield 25, 3) := by decide +kernel
theorem dX6_fogOn_4 : decode cX6_fogOn 4 = .ok (.iconst 1, 1) := by decide +kernel
theorem dX6_fogOn_5 : decode cX6_fogOn 5 = .ok (.if_icmp .lt 15, 3) := by decide +kernel
theorem dX6_fogOn_8 : decode cX6_fogOn 8 = .ok (.aload_n 0, 1) := by decide +kernel
theorem dX6_fogOn_9 : decode cX6_fogOn 9 = .ok (.getfield 25, 3) := by decide +kernel
theorem dX6_fogOn_12 : decode cX6_fogOn 12 = .ok (.aload_n 0, 1) := by decide +kernel
theorem dX6_fogOn_13 : decode cX6_fogOn 13 = .ok (.getfield 15, 3) := by decide +kernel
theorem dX6_fogOn_16 : decode cX6_fogOn 16 = .ok (.arraylength, 1) := by decide +kernel
theorem dX6_fogOn_17 : decode cX6_fogOn 17 = .ok (.if_icmp .le 5, 3) := by decide +kernel
theorem dX6_fogOn_20 : decode cX6_fogOn 20 = .ok (.iconst 0, 1) := by decide +kernel
theorem dX6_fogOn_21 : decode cX6_fogOn 21 = .ok (.ireturn, 1) := by decide +kernel
theorem dX6_fogOn_22 : decode cX6_fogOn 22 = .ok (.aload_n 0, 1) := by decide +kernel
theorem dX6_fogOn_23 : decode cX6_fogOn 23 = .ok (.getfield 15, 3) := by decide +kernel
theorem dX6_fogOn_26 : decode cX6_fogOn 26 = .ok (.iload_n 1, 1) := by decide +kernel
theorem dX6_fogOn_27 : decode cX6_fogOn 27 = .ok (.aload_n 0, 1) := by decide +kernel
theorem dX6_fogOn_28 : decode cX6_fogOn 28 = .ok (.getfield 25, 3) := by decide +kernel
theorem dX6_fogOn_31 : decode cX6_fogOn 31 = .ok (.invokestatic 28, 3) := by decide +kernel
theorem dX6_fogOn_34 : decode cX6_fogOn 34 = .ok (.iaload, 1) := by decide +kernel
theorem dX6_fogOn_35 : decode cX6_fogOn 35 = .ok (.ireturn, 1) := by decide +kernel
theorem dX6_addLevel_0 : decode cX6_addLevel 0 = .ok (.aload_n 0, 1) := by decide +kernel
theorem dX6_addLevel_1 : decode cX6_addLevel 1 = .ok (.getfield 25, 3) := by decide +kernel
theorem dX6_addLevel_4 : decode cX6_addLevel 4 = .ok (.aload_n 0, 1) := by decide +kernel
theorem dX6_addLevel_5 : decode cX6_addLevel 5 = .ok (.getfield 15, 3) := by decide +kernel
theorem dX6_addLevel_8 : decode cX6_addLevel 8 = .ok (.arraylength, 1) := by decide +kernel
theorem dX6_addLevel_9 : decode cX6_addLevel 9 = .ok (.if_icmp .ge 23, 3) := by decide +kernel
theorem dX6_addLevel_12 : decode cX6_addLevel 12 = .ok (.aload_n 0, 1) := by decide +kernel
theorem dX6_addLevel_13 : decode cX6_addLevel 13 = .ok (.getfield 15, 3) := by decide +kernel
theorem dX6_addLevel_16 : decode cX6_addLevel 16 = .ok (.aload_n 0, 1) := by decide +kernel
theorem dX6_addLevel_17 : decode cX6_addLevel 17 = .ok (.getfield 25, 3) := by decide +kernel
theorem dX6_addLevel_20 : decode cX6_addLevel 20 = .ok (.iload_n 1, 1) := by decide +kernel
theorem dX6_addLevel_21 : decode cX6_addLevel 21 = .ok (.iastore, 1) := by decide +kernel
theorem dX6_addLevel_22 : decode cX6_addLevel 22 = .ok (.aload_n 0, 1) := by decide +kernel
theorem dX6_addLevel_23 : decode cX6_addLevel 23 = .ok (.dup, 1) := by decide +kernel
theorem dX6_addLevel_24 : decode cX6_addLevel 24 = .ok (.getfield 25, 3) := by decide +kernel
theorem dX6_addLevel_27 : decode cX6_addLevel 27 = .ok (.iconst 1, 1) := by decide +kernel
theorem dX6_addLevel_28 : decode cX6_addLevel 28 = .ok (.iadd, 1) := by decide +kernel
theorem dX6_addLevel_29 : decode cX6_addLevel 29 = .ok (.putfield 25, 3) := by decide +kernel
theorem dX6_addLevel_32 : decode cX6_addLevel 32 = .ok (.return_, 1) := by decide +kernel
theorem dX7_init_0 : decode cX7_init 0 = .ok (.aload_n 0, 1) := by decide +kernel
theorem dX7_init_1 : decode cX7_init 1 = .ok (.invokespecial 3, 3) := by decide +kernel
theorem dX7_init_4 : decode cX7_init 4 = .ok (.aload_n 0, 1) := by decide +kernel
theorem dX7_init_5 : decode cX7_init 5 = .ok (.iconst (-1), 1) := by decide +kernel
theorem dX7_init_6 : decode cX7_init 6 = .ok (.putfield 9, 3) := by decide +kernel
theorem dX7_init_9 : decode cX7_init 9 = .ok (.aload_n 0, 1) := by decide +kernel
theorem dX7_init_10 : decode cX7_init 10 = .ok (.aload_n 1, 1) := by decide +kernel
theorem dX7_init_11 : decode cX7_init 11 = .ok (.putfield 15, 3) := by decide +kernel
theorem dX7_init_14 : decode cX7_init 14 = .ok (.return_, 1) := by decide +kernel
theorem dX7_begin_0 : decode cX7_begin 0 = .ok (.aload_n 0, 1) := by decide +kernel
theorem dX7_begin_1 : decode cX7_begin 1 = .ok (.iconst 0, 1) := by decide +kernel
theorem dX7_begin_2 : decode cX7_begin 2 = .ok (.putfield 19, 3) := by decide +kernel
theorem dX7_begin_5 : decode cX7_begin 5 = .ok (.aload_n 0, 1) := by decide +kernel
theorem dX7_begin_6 : decode cX7_begin 6 = .ok (.iconst 0, 1) := by decide +kernel
theorem dX7_begin_7 : decode cX7_begin 7 = .ok (.putfield 22, 3) := by decide +kernel
theorem dX7_begin_10 : decode cX7_begin 10 = .ok (.aload_n 0, 1) := by decide +kernel
theorem dX7_begin_11 : decode cX7_begin 11 = .ok (.iconst (-1), 1) := by decide +kernel
theorem dX7_begin_12 : decode cX7_begin 12 = .ok (.putfield 9, 3) := by decide +kernel
theorem dX7_begin_15 : decode cX7_begin 15 = .ok (.return_, 1) := by decide +kernel
theorem dX7_fail_0 : decode cX7_fail 0 = .ok (.aload_n 0, 1) := by decide +kernel
theorem dX7_fail_1 : decode cX7_fail 1 = .ok (.iload_n 1, 1) := by decide +kernel
theorem dX7_fail_2 : decode cX7_fail 2 = .ok (.putfield 22, 3) := by decide +kernel
theorem dX7_fail_5 : decode cX7_fail 5 = .ok (.aload_n 0, 1) := by decide +kernel
theorem dX7_fail_6 : decode cX7_fail 6 = .ok (.aload_n 0, 1) := by decide +kernel
theorem dX7_fail_7 : decode cX7_fail 7 = .ok (.getfield 25, 3) := by decide +kernel
theorem dX7_fail_10 : decode cX7_fail 10 = .ok (.putfield 9, 3) := by decide +kernel
theorem dX7_fail_13 : decode cX7_fail 13 = .ok (.iconst 0, 1) := by decide +kernel
theorem dX7_fail_14 : decode cX7_fail 14 = .ok (.ireturn, 1) := by decide +kernel
theorem dX7_kindOf_0 : decode cX7_kindOf 0 = .ok (.iload_n 0, 1) := by decide +kernel
theorem dX7_kindOf_1 : decode cX7_kindOf 1 = .ok (.bipush 97, 2) := by decide +kernel
theorem dX7_kindOf_3 : decode cX7_kindOf 3 = .ok (.if_icmp .lt 11, 3) := by decide +kernel
theorem dX7_kindOf_6 : decode cX7_kindOf 6 = .ok (.iload_n 0, 1) := by decide +kernel
theorem dX7_kindOf_7 : decode cX7_kindOf 7 = .ok (.bipush 122, 2) := by decide +kernel
theorem dX7_kindOf_9 : decode cX7_kindOf 9 = .ok (.if_icmp .gt 5, 3) := by decide +kernel
theorem dX7_kindOf_12 : decode cX7_kindOf 12 = .ok (.iconst 1, 1) := by decide +kernel
theorem dX7_kindOf_13 : decode cX7_kindOf 13 = .ok (.ireturn, 1) := by decide +kernel
theorem dX7_kindOf_14 : decode cX7_kindOf 14 = .ok (.iload_n 0, 1) := by decide +kernel
theorem dX7_kindOf_15 : decode cX7_kindOf 15 = .ok (.bipush 48, 2) := by decide +kernel
theorem dX7_kindOf_17 : decode cX7_kindOf 17 = .ok (.if_icmp .lt 11, 3) := by decide +kernel
theorem dX7_kindOf_20 : decode cX7_kindOf 20 = .ok (.iload_n 0, 1) := by decide +kernel
theorem dX7_kindOf_21 : decode cX7_kindOf 21 = .ok (.bipush 57, 2) := by decide +kernel
theorem dX7_kindOf_23 : decode cX7_kindOf 23 = .ok (.if_icmp .gt 5, 3) := by decide +kernel
theorem dX7_kindOf_26 : decode cX7_kindOf 26 = .ok (.iconst 2, 1) := by decide +kernel
theorem dX7_kindOf_27 : decode cX7_kindOf 27 = .ok (.ireturn, 1) := by decide +kernel
theorem dX7_kindOf_28 : decode cX7_kindOf 28 = .ok (.iload_n 0, 1) := by decide +kernel
theorem dX7_kindOf_29 : decode cX7_kindOf 29 = .ok (.bipush 59, 2) := by decide +kernel
theorem dX7_kindOf_31 : decode cX7_kindOf 31 = .ok (.if_icmp .ne 5, 3) := by decide +kernel
theorem dX7_kindOf_34 : decode cX7_kindOf 34 = .ok (.iconst 3, 1) := by decide +kernel
theorem dX7_kindOf_35 : decode cX7_kindOf 35 = .ok (.ireturn, 1) := by decide +kernel
theorem dX7_kindOf_36 : decode cX7_kindOf 36 = .ok (.iload_n 0, 1) := by decide +kernel
theorem dX7_kindOf_37 : decode cX7_kindOf 37 = .ok (.bipush 32, 2) := by decide +kernel
theorem dX7_kindOf_39 : decode cX7_kindOf 39 = .ok (.if_icmp .ne 5, 3) := by decide +kernel
theorem dX7_kindOf_42 : decode cX7_kindOf 42 = .ok (.iconst 4, 1) := by decide +kernel
theorem dX7_kindOf_43 : decode cX7_kindOf 43 = .ok (.ireturn, 1) := by decide +kernel
theorem dX7_kindOf_44 : decode cX7_kindOf 44 = .ok (.iload_n 0, 1) := by decide +kernel
theorem dX7_kindOf_45 : decode cX7_kindOf 45 = .ok (.iconst (-1), 1) := by decide +kernel
theorem dX7_kindOf_46 : decode cX7_kindOf 46 = .ok (.if_icmp .ne 7, 3) := by decide +kernel
theorem dX7_kindOf_49 : decode cX7_kindOf 49 = .ok (.iconst 0, 1) := by decide +kernel
theorem dX7_kindOf_50 : decode cX7_kindOf 50 = .ok (.goto 4, 3) := by decide +kernel
theorem dX7_kindOf_53 : decode cX7_kindOf 53 = .ok (.iconst 5, 1) := by decide +kernel
theorem dX7_kindOf_54 : decode cX7_kindOf 54 = .ok (.ireturn, 1) := by decide +kernel
theorem dX7_next_0 : decode cX7_next 0 = .ok (.aload_n 0, 1) := by decide +kernel
theorem dX7_next_1 : decode cX7_next 1 = .ok (.getfield 19, 3) := by decide +kernel
theorem dX7_next_4 : decode cX7_next 4 = .ok (.aload_n 0, 1) := by decide +kernel
theorem dX7_next_5 : decode cX7_next 5 = .ok (.getfield 15, 3) := by decide +kernel
theorem dX7_next_8 : decode cX7_next 8 = .ok (.getfield 28, 3) := by decide +kernel
theorem dX7_next_11 : decode cX7_next 11 = .ok (.if_icmp .ge 32, 3) := by decide +kernel
theorem dX7_next_14 : decode cX7_next 14 = .ok (.aload_n 0, 1) := by decide +kernel
theorem dX7_next_15 : decode cX7_next 15 = .ok (.getfield 15, 3) := by decide +kernel
theorem dX7_next_18 : decode cX7_next 18 = .ok (.aload_n 0, 1) := by decide +kernel
theorem dX7_next_19 : decode cX7_next 19 = .ok (.getfield 19, 3) := by decide +kernel
theorem dX7_next_22 : decode cX7_next 22 = .ok (.invokevirtual 33, 3) := by decide +kernel
theorem dX7_next_25 : decode cX7_next 25 = .ok (.bipush 32, 2) := by decide +kernel
theorem dX7_next_27 : decode cX7_next 27 = .ok (.if_icmp .ne 16, 3) := by decide +kernel
theorem dX7_next_30 : decode cX7_next 30 = .ok (.aload_n 0, 1) := by decide +kernel
theorem dX7_next_31 : decode cX7_next 31 = .ok (.dup, 1) := by decide +kernel
theorem dX7_next_32 : decode cX7_next 32 = .ok (.getfield 19, 3) := by decide +kernel
theorem dX7_next_35 : decode cX7_next 35 = .ok (.iconst 1, 1) := by decide +kernel
theorem dX7_next_36 : decode cX7_next 36 = .ok (.iadd, 1) := by decide +kernel
theorem dX7_next_37 : decode cX7_next 37 = .ok (.putfield 19, 3) := by decide +kernel
theorem dX7_next_40 : decode cX7_next 40 = .ok (.goto (-40), 3) := by decide +kernel
theorem dX7_next_43 : decode cX7_next 43 = .ok (.aload_n 0, 1) := by decide +kernel
theorem dX7_next_44 : decode cX7_next 44 = .ok (.aload_n 0, 1) := by decide +kernel
theorem dX7_next_45 : decode cX7_next 45 = .ok (.getfield 19, 3) := by decide +kernel
theorem dX7_next_48 : decode cX7_next 48 = .ok (.putfield 25, 3) := by decide +kernel
theorem dX7_next_51 : decode cX7_next 51 = .ok (.aload_n 0, 1) := by decide +kernel
theorem dX7_next_52 : decode cX7_next 52 = .ok (.aload_n 0, 1) := by decide +kernel
theorem dX7_next_53 : decode cX7_next 53 = .ok (.getfield 15, 3) := by decide +kernel
theorem dX7_next_56 : decode cX7_next 56 = .ok (.aload_n 0, 1) := by decide +kernel
theorem dX7_next_57 : decode cX7_next 57 = .ok (.getfield 19, 3) := by decide +kernel
theorem dX7_next_60 : decode cX7_next 60 = .ok (.invokevirtual 33, 3) := by decide +kernel
theorem dX7_next_63 : decode cX7_next 63 = .ok (.invokestatic 37, 3) := by decide +kernel
theorem dX7_next_66 : decode cX7_next 66 = .ok (.putfield 40, 3) := by decide +kernel
theorem dX7_next_69 : decode cX7_next 69 = .ok (.aload_n 0, 1) := by decide +kernel
theorem dX7_next_70 : decode cX7_next 70 = .ok (.getfield 40, 3) := by decide +kernel
theorem dX7_next_73 : decode cX7_next 73 = .ok (.ifCond .eq 7, 3) := by decide +kernel
theorem dX7_next_76 : decode cX7_next 76 = .ok (.iconst 1, 1) := by decide +kernel
theorem dX7_next_77 : decode cX7_next 77 = .ok (.goto 4, 3) := by decide +kernel
theorem dX7_next_80 : decode cX7_next 80 = .ok (.iconst 0, 1) := by decide +kernel
theorem dX7_next_81 : decode cX7_next 81 = .ok (.istore_n 1, 1) := by decide +kernel
theorem dX7_next_82 : decode cX7_next 82 = .ok (.aload_n 0, 1) := by decide +kernel
theorem dX7_next_83 : decode cX7_next 83 = .ok (.iconst 0, 1) := by decide +kernel
theorem dX7_next_84 : decode cX7_next 84 = .ok (.putfield 43, 3) := by decide +kernel
theorem dX7_next_87 : decode cX7_next 87 = .ok (.aload_n 0, 1) := by decide +kernel
theorem dX7_next_88 : decode cX7_next 88 = .ok (.getfield 19, 3) := by decide +kernel
theorem dX7_next_91 : decode cX7_next 91 = .ok (.aload_n 0, 1) := by decide +kernel
theorem dX7_next_92 : decode cX7_next 92 = .ok (.getfield 15, 3) := by decide +kernel
theorem dX7_next_95 : decode cX7_next 95 = .ok (.getfield 28, 3) := by decide +kernel
theorem dX7_next_98 : decode cX7_next 98 = .ok (.if_icmp .ge 89, 3) := by decide +kernel
theorem dX7_next_101 : decode cX7_next 101 = .ok (.iload_n 1, 1) := by decide +kernel
theorem dX7_next_102 : decode cX7_next 102 = .ok (.ifCond .eq 85, 3) := by decide +kernel
theorem dX7_next_105 : decode cX7_next 105 = .ok (.aload_n 0, 1) := by decide +kernel
theorem dX7_next_106 : decode cX7_next 106 = .ok (.aload_n 0, 1) := by decide +kernel
theorem dX7_next_107 : decode cX7_next 107 = .ok (.getfield 43, 3) := by decide +kernel
theorem dX7_next_110 : decode cX7_next 110 = .ok (.bipush 10, 2) := by decide +kernel
theorem dX7_next_112 : decode cX7_next 112 = .ok (.imul, 1) := by decide +kernel
theorem dX7_next_113 : decode cX7_next 113 = .ok (.aload_n 0, 1) := by decide +kernel
theorem dX7_next_114 : decode cX7_next 114 = .ok (.getfield 15, 3) := by decide +kernel
theorem dX7_next_117 : decode cX7_next 117 = .ok (.aload_n 0, 1) := by decide +kernel
theorem dX7_next_118 : decode cX7_next 118 = .ok (.getfield 19, 3) := by decide +kernel
theorem dX7_next_121 : decode cX7_next 121 = .ok (.invokevirtual 33, 3) := by decide +kernel
theorem dX7_next_124 : decode cX7_next 124 = .ok (.iadd, 1) := by decide +kernel
theorem dX7_next_125 : decode cX7_next 125 = .ok (.bipush 48, 2) := by decide +kernel
theorem dX7_next_127 : decode cX7_next 127 = .ok (.isub, 1) := by decide +kernel
theorem dX7_next_128 : decode cX7_next 128 = .ok (.putfield 43, 3) := by decide +kernel
theorem dX7_next_131 : decode cX7_next 131 = .ok (.aload_n 0, 1) := by decide +kernel
theorem dX7_next_132 : decode cX7_next 132 = .ok (.dup, 1) := by decide +kernel
theorem dX7_next_133 : decode cX7_next 133 = .ok (.getfield 19, 3) := by decide +kernel
theorem dX7_next_136 : decode cX7_next 136 = .ok (.iconst 1, 1) := by decide +kernel
theorem dX7_next_137 : decode cX7_next 137 = .ok (.iadd, 1) := by decide +kernel
theorem dX7_next_138 : decode cX7_next 138 = .ok (.putfield 19, 3) := by decide +kernel
theorem dX7_next_141 : decode cX7_next 141 = .ok (.aload_n 0, 1) := by decide +kernel
theorem dX7_next_142 : decode cX7_next 142 = .ok (.getfield 40, 3) := by decide +kernel
theorem dX7_next_145 : decode cX7_next 145 = .ok (.iconst 1, 1) := by decide +kernel
theorem dX7_next_146 : decode cX7_next 146 = .ok (.if_icmp .eq 11, 3) := by decide +kernel
theorem dX7_next_149 : decode cX7_next 149 = .ok (.aload_n 0, 1) := by decide +kernel
theorem dX7_next_150 : decode cX7_next 150 = .ok (.getfield 40, 3) := by decide +kernel
theorem dX7_next_153 : decode cX7_next 153 = .ok (.iconst 2, 1) := by decide +kernel
theorem dX7_next_154 : decode cX7_next 154 = .ok (.if_icmp .ne 28, 3) := by decide +kernel
theorem dX7_next_157 : decode cX7_next 157 = .ok (.aload_n 0, 1) := by decide +kernel
theorem dX7_next_158 : decode cX7_next 158 = .ok (.getfield 15, 3) := by decide +kernel
theorem dX7_next_161 : decode cX7_next 161 = .ok (.aload_n 0, 1) := by decide +kernel
theorem dX7_next_162 : decode cX7_next 162 = .ok (.getfield 19, 3) := by decide +kernel
theorem dX7_next_165 : decode cX7_next 165 = .ok (.invokevirtual 33, 3) := by decide +kernel
theorem dX7_next_168 : decode cX7_next 168 = .ok (.invokestatic 37, 3) := by decide +kernel
theorem dX7_next_171 : decode cX7_next 171 = .ok (.aload_n 0, 1) := by decide +kernel
theorem dX7_next_172 : decode cX7_next 172 = .ok (.getfield 40, 3) := by decide +kernel
theorem dX7_next_175 : decode cX7_next 175 = .ok (.if_icmp .ne 7, 3) := by decide +kernel
theorem dX7_next_178 : decode cX7_next 178 = .ok (.iconst 1, 1) := by decide +kernel
theorem dX7_next_179 : decode cX7_next 179 = .ok (.goto 4, 3) := by decide +kernel
theorem dX7_next_182 : decode cX7_next 182 = .ok (.iconst 0, 1) := by decide +kernel
theorem dX7_next_183 : decode cX7_next 183 = .ok (.istore_n 1, 1) := by decide +kernel
theorem dX7_next_184 : decode cX7_next 184 = .ok (.goto (-97), 3) := by decide +kernel
theorem dX7_next_187 : decode cX7_next 187 = .ok (.aload_n 0, 1) := by decide +kernel
theorem dX7_next_188 : decode cX7_next 188 = .ok (.aload_n 0, 1) := by decide +kernel
theorem dX7_next_189 : decode cX7_next 189 = .ok (.getfield 19, 3) := by decide +kernel
theorem dX7_next_192 : decode cX7_next 192 = .ok (.aload_n 0, 1) := by decide +kernel
theorem dX7_next_193 : decode cX7_next 193 = .ok (.getfield 25, 3) := by decide +kernel
theorem dX7_next_196 : decode cX7_next 196 = .ok (.isub, 1) := by decide +kernel
theorem dX7_next_197 : decode cX7_next 197 = .ok (.putfield 46, 3) := by decide +kernel
theorem dX7_next_200 : decode cX7_next 200 = .ok (.return_, 1) := by decide +kernel
theorem dX7_wordIs_0 : decode cX7_wordIs 0 = .ok (.aload_n 0, 1) := by decide +kernel
theorem dX7_wordIs_1 : decode cX7_wordIs 1 = .ok (.getfield 40, 3) := by decide +kernel
theorem dX7_wordIs_4 : decode cX7_wordIs 4 = .ok (.iconst 1, 1) := by decide +kernel
theorem dX7_wordIs_5 : decode cX7_wordIs 5 = .ok (.if_icmp .ne 14, 3) := by decide +kernel
theorem dX7_wordIs_8 : decode cX7_wordIs 8 = .ok (.aload_n 0, 1) := by decide +kernel
theorem dX7_wordIs_9 : decode cX7_wordIs 9 = .ok (.getfield 46, 3) := by decide +kernel
theorem dX7_wordIs_12 : decode cX7_wordIs 12 = .ok (.aload_n 1, 1) := by decide +kernel
theorem dX7_wordIs_13 : decode cX7_wordIs 13 = .ok (.invokevirtual 49, 3) := by decide +kernel
theorem dX7_wordIs_16 : decode cX7_wordIs 16 = .ok (.if_icmp .eq 5, 3) := by decide +kernel
theorem dX7_wordIs_19 : decode cX7_wordIs 19 = .ok (.iconst 0, 1) := by decide +kernel
theorem dX7_wordIs_20 : decode cX7_wordIs 20 = .ok (.ireturn, 1) := by decide +kernel
theorem dX7_wordIs_21 : decode cX7_wordIs 21 = .ok (.iconst 0, 1) := by decide +kernel
theorem dX7_wordIs_22 : decode cX7_wordIs 22 = .ok (.istore_n 2, 1) := by decide +kernel
theorem dX7_wordIs_23 : decode cX7_wordIs 23 = .ok (.iload_n 2, 1) := by decide +kernel
theorem dX7_wordIs_24 : decode cX7_wordIs 24 = .ok (.aload_n 1, 1) := by decide +kernel
theorem dX7_wordIs_25 : decode cX7_wordIs 25 = .ok (.invokevirtual 49, 3) := by decide +kernel
theorem dX7_wordIs_28 : decode cX7_wordIs 28 = .ok (.if_icmp .ge 32, 3) := by decide +kernel
theorem dX7_wordIs_31 : decode cX7_wordIs 31 = .ok (.aload_n 0, 1) := by decide +kernel
theorem dX7_wordIs_32 : decode cX7_wordIs 32 = .ok (.getfield 15, 3) := by decide +kernel
theorem dX7_wordIs_35 : decode cX7_wordIs 35 = .ok (.aload_n 0, 1) := by decide +kernel
theorem dX7_wordIs_36 : decode cX7_wordIs 36 = .ok (.getfield 25, 3) := by decide +kernel
theorem dX7_wordIs_39 : decode cX7_wordIs 39 = .ok (.iload_n 2, 1) := by decide +kernel
theorem dX7_wordIs_40 : decode cX7_wordIs 40 = .ok (.iadd, 1) := by decide +kernel
theorem dX7_wordIs_41 : decode cX7_wordIs 41 = .ok (.invokevirtual 33, 3) := by decide +kernel
theorem dX7_wordIs_44 : decode cX7_wordIs 44 = .ok (.aload_n 1, 1) := by decide +kernel
theorem dX7_wordIs_45 : decode cX7_wordIs 45 = .ok (.iload_n 2, 1) := by decide +kernel
theorem dX7_wordIs_46 : decode cX7_wordIs 46 = .ok (.invokevirtual 54, 3) := by decide +kernel
theorem dX7_wordIs_49 : decode cX7_wordIs 49 = .ok (.if_icmp .eq 5, 3) := by decide +kernel
theorem dX7_wordIs_52 : decode cX7_wordIs 52 = .ok (.iconst 0, 1) := by decide +kernel
theorem dX7_wordIs_53 : decode cX7_wordIs 53 = .ok (.ireturn, 1) := by decide +kernel
theorem dX7_wordIs_54 : decode cX7_wordIs 54 = .ok (.iinc 2 1, 3) := by decide +kernel
theorem dX7_wordIs_57 : decode cX7_wordIs 57 = .ok (.goto (-34), 3) := by decide +kernel
theorem dX7_wordIs_60 : decode cX7_wordIs 60 = .ok (.iconst 1, 1) := by decide +kernel
theorem dX7_wordIs_61 : decode cX7_wordIs 61 = .ok (.ireturn, 1) := by decide +kernel
theorem dX7_name_0 : decode cX7_name 0 = .ok (.aload_n 0, 1) := by decide +kernel
theorem dX7_name_1 : decode cX7_name 1 = .ok (.getfield 15, 3) := by decide +kernel
theorem dX7_name_4 : decode cX7_name 4 = .ok (.aload_n 0, 1) := by decide +kernel
theorem dX7_name_5 : decode cX7_name 5 = .ok (.getfield 25, 3) := by decide +kernel
theorem dX7_name_8 : decode cX7_name 8 = .ok (.aload_n 0, 1) := by decide +kernel
theorem dX7_name_9 : decode cX7_name 9 = .ok (.getfield 46, 3) := by decide +kernel
theorem dX7_name_12 : decode cX7_name 12 = .ok (.invokevirtual 58, 3) := by decide +kernel
theorem dX7_name_15 : decode cX7_name 15 = .ok (.lreturn, 1) := by decide +kernel
theorem dX7_takeWord_0 : decode cX7_takeWord 0 = .ok (.aload_n 0, 1) := by decide +kernel
theorem dX7_takeWord_1 : decode cX7_takeWord 1 = .ok (.invokevirtual 62, 3) := by decide +kernel
theorem dX7_takeWord_4 : decode cX7_takeWord 4 = .ok (.aload_n 0, 1) := by decide +kernel
theorem dX7_takeWord_5 : decode cX7_takeWord 5 = .ok (.aload_n 1, 1) := by decide +kernel
theorem dX7_takeWord_6 : decode cX7_takeWord 6 = .ok (.invokevirtual 65, 3) := by decide +kernel
theorem dX7_takeWord_9 : decode cX7_takeWord 9 = .ok (.ifCond .ne 11, 3) := by decide +kernel
theorem dX7_takeWord_12 : decode cX7_takeWord 12 = .ok (.aload_n 0, 1) := by decide +kernel
theorem dX7_takeWord_13 : decode cX7_takeWord 13 = .ok (.iconst 1, 1) := by decide +kernel
theorem dX7_takeWord_14 : decode cX7_takeWord 14 = .ok (.invokevirtual 69, 3) := by decide +kernel
theorem dX7_takeWord_17 : decode cX7_takeWord 17 = .ok (.ifCond .eq 7, 3) := by decide +kernel
theorem dX7_takeWord_20 : decode cX7_takeWord 20 = .ok (.iconst 1, 1) := by decide +kernel
theorem dX7_takeWord_21 : decode cX7_takeWord 21 = .ok (.goto 4, 3) := by decide +kernel
theorem dX7_takeWord_24 : decode cX7_takeWord 24 = .ok (.iconst 0, 1) := by decide +kernel
theorem dX7_takeWord_25 : decode cX7_takeWord 25 = .ok (.ireturn, 1) := by decide +kernel
theorem dX7_takeSemicolon_0 : decode cX7_takeSemicolon 0 = .ok (.aload_n 0, 1) := by decide +kernel
theorem dX7_takeSemicolon_1 : decode cX7_takeSemicolon 1 = .ok (.invokevirtual 62, 3) := by decide +kernel
theorem dX7_takeSemicolon_4 : decode cX7_takeSemicolon 4 = .ok (.aload_n 0, 1) := by decide +kernel
theorem dX7_takeSemicolon_5 : decode cX7_takeSemicolon 5 = .ok (.getfield 40, 3) := by decide +kernel
theorem dX7_takeSemicolon_8 : decode cX7_takeSemicolon 8 = .ok (.iconst 3, 1) := by decide +kernel
theorem dX7_takeSemicolon_9 : decode cX7_takeSemicolon 9 = .ok (.if_icmp .eq 11, 3) := by decide +kernel
theorem dX7_takeSemicolon_12 : decode cX7_takeSemicolon 12 = .ok (.aload_n 0, 1) := by decide +kernel
theorem dX7_takeSemicolon_13 : decode cX7_takeSemicolon 13 = .ok (.iconst 1, 1) := by decide +kernel
theorem dX7_takeSemicolon_14 : decode cX7_takeSemicolon 14 = .ok (.invokevirtual 69, 3) := by decide +kernel
theorem dX7_takeSemicolon_17 : decode cX7_takeSemicolon 17 = .ok (.ifCond .eq 7, 3) := by decide +kernel
theorem dX7_takeSemicolon_20 : decode cX7_takeSemicolon 20 = .ok (.iconst 1, 1) := by decide +kernel
theorem dX7_takeSemicolon_21 : decode cX7_takeSemicolon 21 = .ok (.goto 4, 3) := by decide +kernel
theorem dX7_takeSemicolon_24 : decode cX7_takeSemicolon 24 = .ok (.iconst 0, 1) := by decide +kernel
theorem dX7_takeSemicolon_25 : decode cX7_takeSemicolon 25 = .ok (.ireturn, 1) := by decide +kernel
theorem dX7_isName_0 : decode cX7_isName 0 = .ok (.aload_n 0, 1) := by decide +kernel
theorem dX7_isName_1 : decode cX7_isName 1 = .ok (.getfield 40, 3) := by decide +kernel
theorem dX7_isName_4 : decode cX7_isName 4 = .ok (.iconst 1, 1) := by decide +kernel
theorem dX7_isName_5 : decode cX7_isName 5 = .ok (.if_icmp .ne 16, 3) := by decide +kernel
theorem dX7_isName_8 : decode cX7_isName 8 = .ok (.aload_n 0, 1) := by decide +kernel
theorem dX7_isName_9 : decode cX7_isName 9 = .ok (.getfield 46, 3) := by decide +kernel
theorem dX7_isName_12 : decode cX7_isName 12 = .ok (.bipush 6, 2) := by decide +kernel
theorem dX7_isName_14 : decode cX7_isName 14 = .ok (.if_icmp .gt 7, 3) := by decide +kernel
theorem dX7_isName_17 : decode cX7_isName 17 = .ok (.iconst 1, 1) := by decide +kernel
theorem dX7_isName_18 : decode cX7_isName 18 = .ok (.goto 4, 3) := by decide +kernel
theorem dX7_isName_21 : decode cX7_isName 21 = .ok (.iconst 0, 1) := by decide +kernel
theorem dX7_isName_22 : decode cX7_isName 22 = .ok (.ireturn, 1) := by decide +kernel
theorem dX7_takeName_0 : decode cX7_takeName 0 = .ok (.aload_n 0, 1) := by decide +kernel
theorem dX7_takeName_1 : decode cX7_takeName 1 = .ok (.invokevirtual 62, 3) := by decide +kernel
theorem dX7_takeName_4 : decode cX7_takeName 4 = .ok (.aload_n 0, 1) := by decide +kernel
theorem dX7_takeName_5 : decode cX7_takeName 5 = .ok (.invokevirtual 73, 3) := by decide +kernel
theorem dX7_takeName_8 : decode cX7_takeName 8 = .ok (.ifCond .ne 11, 3) := by decide +kernel
theorem dX7_takeName_11 : decode cX7_takeName 11 = .ok (.aload_n 0, 1) := by decide +kernel
theorem dX7_takeName_12 : decode cX7_takeName 12 = .ok (.iconst 1, 1) := by decide +kernel
theorem dX7_takeName_13 : decode cX7_takeName 13 = .ok (.invokevirtual 69, 3) := by decide +kernel
theorem dX7_takeName_16 : decode cX7_takeName 16 = .ok (.ifCond .eq 7, 3) := by decide +kernel
theorem dX7_takeName_19 : decode cX7_takeName 19 = .ok (.iconst 1, 1) := by decide +kernel
theorem dX7_takeName_20 : decode cX7_takeName 20 = .ok (.goto 4, 3) := by decide +kernel
theorem dX7_takeName_23 : decode cX7_takeName 23 = .ok (.iconst 0, 1) := by decide +kernel
theorem dX7_takeName_24 : decode cX7_takeName 24 = .ok (.ireturn, 1) := by decide +kernel
theorem dX7_takeNumber_0 : decode cX7_takeNumber 0 = .ok (.aload_n 0, 1) := by decide +kernel
theorem dX7_takeNumber_1 : decode cX7_takeNumber 1 = .ok (.invokevirtual 62, 3) := by decide +kernel
theorem dX7_takeNumber_4 : decode cX7_takeNumber 4 = .ok (.aload_n 0, 1) := by decide +kernel
theorem dX7_takeNumber_5 : decode cX7_takeNumber 5 = .ok (.iload_n 1, 1) := by decide +kernel
theorem dX7_takeNumber_6 : decode cX7_takeNumber 6 = .ok (.iload_n 2, 1) := by decide +kernel
theorem dX7_takeNumber_7 : decode cX7_takeNumber 7 = .ok (.invokevirtual 77, 3) := by decide +kernel
theorem dX7_takeNumber_10 : decode cX7_takeNumber 10 = .ok (.ireturn, 1) := by decide +kernel
theorem dX7_checkNumber_0 : decode cX7_checkNumber 0 = .ok (.aload_n 0, 1) := by decide +kernel
theorem dX7_checkNumber_1 : decode cX7_checkNumber 1 = .ok (.getfield 40, 3) := by decide +kernel
theorem dX7_checkNumber_4 : decode cX7_checkNumber 4 = .ok (.iconst 2, 1) := by decide +kernel
theorem dX7_checkNumber_5 : decode cX7_checkNumber 5 = .ok (.if_icmp .ne 11, 3) := by decide +kernel
theorem dX7_checkNumber_8 : decode cX7_checkNumber 8 = .ok (.aload_n 0, 1) := by decide +kernel
theorem dX7_checkNumber_9 : decode cX7_checkNumber 9 = .ok (.getfield 46, 3) := by decide +kernel
theorem dX7_checkNumber_12 : decode cX7_checkNumber 12 = .ok (.iconst 4, 1) := by decide +kernel
theorem dX7_checkNumber_13 : decode cX7_checkNumber 13 = .ok (.if_icmp .le 9, 3) := by decide +kernel
theorem dX7_checkNumber_16 : decode cX7_checkNumber 16 = .ok (.aload_n 0, 1) := by decide +kernel
theorem dX7_checkNumber_17 : decode cX7_checkNumber 17 = .ok (.iconst 1, 1) := by decide +kernel
theorem dX7_checkNumber_18 : decode cX7_checkNumber 18 = .ok (.invokevirtual 69, 3) := by decide +kernel
theorem dX7_checkNumber_21 : decode cX7_checkNumber 21 = .ok (.ireturn, 1) := by decide +kernel
theorem dX7_checkNumber_22 : decode cX7_checkNumber 22 = .ok (.aload_n 0, 1) := by decide +kernel
theorem dX7_checkNumber_23 : decode cX7_checkNumber 23 = .ok (.getfield 43, 3) := by decide +kernel
theorem dX7_checkNumber_26 : decode cX7_checkNumber 26 = .ok (.iload_n 1, 1) := by decide +kernel
theorem dX7_checkNumber_27 : decode cX7_checkNumber 27 = .ok (.if_icmp .lt 11, 3) := by decide +kernel
theorem dX7_checkNumber_30 : decode cX7_checkNumber 30 = .ok (.aload_n 0, 1) := by decide +kernel
theorem dX7_checkNumber_31 : decode cX7_checkNumber 31 = .ok (.getfield 43, 3) := by decide +kernel
theorem dX7_checkNumber_34 : decode cX7_checkNumber 34 = .ok (.iload_n 2, 1) := by decide +kernel
theorem dX7_checkNumber_35 : decode cX7_checkNumber 35 = .ok (.if_icmp .le 11, 3) := by decide +kernel
theorem dX7_checkNumber_38 : decode cX7_checkNumber 38 = .ok (.aload_n 0, 1) := by decide +kernel
theorem dX7_checkNumber_39 : decode cX7_checkNumber 39 = .ok (.iconst 2, 1) := by decide +kernel
theorem dX7_checkNumber_40 : decode cX7_checkNumber 40 = .ok (.invokevirtual 69, 3) := by decide +kernel
theorem dX7_checkNumber_43 : decode cX7_checkNumber 43 = .ok (.ifCond .eq 7, 3) := by decide +kernel
theorem dX7_checkNumber_46 : decode cX7_checkNumber 46 = .ok (.iconst 1, 1) := by decide +kernel
theorem dX7_checkNumber_47 : decode cX7_checkNumber 47 = .ok (.goto 4, 3) := by decide +kernel
theorem dX7_checkNumber_50 : decode cX7_checkNumber 50 = .ok (.iconst 0, 1) := by decide +kernel
theorem dX7_checkNumber_51 : decode cX7_checkNumber 51 = .ok (.ireturn, 1) := by decide +kernel
theorem dX7_takeEcho_0 : decode cX7_takeEcho 0 = .ok (.aload_n 0, 1) := by decide +kernel
theorem dX7_takeEcho_1 : decode cX7_takeEcho 1 = .ok (.invokevirtual 62, 3) := by decide +kernel
theorem dX7_takeEcho_4 : decode cX7_takeEcho 4 = .ok (.aload_n 0, 1) := by decide +kernel
theorem dX7_takeEcho_5 : decode cX7_takeEcho 5 = .ok (.invokevirtual 73, 3) := by decide +kernel
theorem dX7_takeEcho_8 : decode cX7_takeEcho 8 = .ok (.ifCond .ne 9, 3) := by decide +kernel
theorem dX7_takeEcho_11 : decode cX7_takeEcho 11 = .ok (.aload_n 0, 1) := by decide +kernel
theorem dX7_takeEcho_12 : decode cX7_takeEcho 12 = .ok (.iconst 1, 1) := by decide +kernel
theorem dX7_takeEcho_13 : decode cX7_takeEcho 13 = .ok (.invokevirtual 69, 3) := by decide +kernel
theorem dX7_takeEcho_16 : decode cX7_takeEcho 16 = .ok (.ireturn, 1) := by decide +kernel
theorem dX7_takeEcho_17 : decode cX7_takeEcho 17 = .ok (.aload_n 0, 1) := by decide +kernel
theorem dX7_takeEcho_18 : decode cX7_takeEcho 18 = .ok (.aload_n 1, 1) := by decide +kernel
theorem dX7_takeEcho_19 : decode cX7_takeEcho 19 = .ok (.aload_n 0, 1) := by decide +kernel
theorem dX7_takeEcho_20 : decode cX7_takeEcho 20 = .ok (.getfield 15, 3) := by decide +kernel
theorem dX7_takeEcho_23 : decode cX7_takeEcho 23 = .ok (.aload_n 0, 1) := by decide +kernel
theorem dX7_takeEcho_24 : decode cX7_takeEcho 24 = .ok (.getfield 25, 3) := by decide +kernel
theorem dX7_takeEcho_27 : decode cX7_takeEcho 27 = .ok (.aload_n 0, 1) := by decide +kernel
theorem dX7_takeEcho_28 : decode cX7_takeEcho 28 = .ok (.getfield 46, 3) := by decide +kernel
theorem dX7_takeEcho_31 : decode cX7_takeEcho 31 = .ok (.invokevirtual 58, 3) := by decide +kernel
theorem dX7_takeEcho_34 : decode cX7_takeEcho 34 = .ok (.invokevirtual 81, 3) := by decide +kernel
theorem dX7_takeEcho_37 : decode cX7_takeEcho 37 = .ok (.putfield 43, 3) := by decide +kernel
theorem dX7_takeEcho_40 : decode cX7_takeEcho 40 = .ok (.aload_n 0, 1) := by decide +kernel
theorem dX7_takeEcho_41 : decode cX7_takeEcho 41 = .ok (.getfield 43, 3) := by decide +kernel
theorem dX7_takeEcho_44 : decode cX7_takeEcho 44 = .ok (.iconst (-1), 1) := by decide +kernel
theorem dX7_takeEcho_45 : decode cX7_takeEcho 45 = .ok (.if_icmp .ne 11, 3) := by decide +kernel
theorem dX7_takeEcho_48 : decode cX7_takeEcho 48 = .ok (.aload_n 0, 1) := by decide +kernel
theorem dX7_takeEcho_49 : decode cX7_takeEcho 49 = .ok (.iconst 3, 1) := by decide +kernel
theorem dX7_takeEcho_50 : decode cX7_takeEcho 50 = .ok (.invokevirtual 69, 3) := by decide +kernel
theorem dX7_takeEcho_53 : decode cX7_takeEcho 53 = .ok (.ifCond .eq 7, 3) := by decide +kernel
theorem dX7_takeEcho_56 : decode cX7_takeEcho 56 = .ok (.iconst 1, 1) := by decide +kernel
theorem dX7_takeEcho_57 : decode cX7_takeEcho 57 = .ok (.goto 4, 3) := by decide +kernel
theorem dX7_takeEcho_60 : decode cX7_takeEcho 60 = .ok (.iconst 0, 1) := by decide +kernel
theorem dX7_takeEcho_61 : decode cX7_takeEcho 61 = .ok (.ireturn, 1) := by decide +kernel
theorem dX7_takeValley_0 : decode cX7_takeValley 0 = .ok (.aload_n 0, 1) := by decide +kernel
theorem dX7_takeValley_1 : decode cX7_takeValley 1 = .ok (.invokevirtual 62, 3) := by decide +kernel
theorem dX7_takeValley_4 : decode cX7_takeValley 4 = .ok (.aload_n 0, 1) := by decide +kernel
theorem dX7_takeValley_5 : decode cX7_takeValley 5 = .ok (.invokevirtual 73, 3) := by decide +kernel
theorem dX7_takeValley_8 : decode cX7_takeValley 8 = .ok (.ifCond .ne 9, 3) := by decide +kernel
theorem dX7_takeValley_11 : decode cX7_takeValley 11 = .ok (.aload_n 0, 1) := by decide +kernel
theorem dX7_takeValley_12 : decode cX7_takeValley 12 = .ok (.iconst 1, 1) := by decide +kernel
theorem dX7_takeValley_13 : decode cX7_takeValley 13 = .ok (.invokevirtual 69, 3) := by decide +kernel
theorem dX7_takeValley_16 : decode cX7_takeValley 16 = .ok (.ireturn, 1) := by decide +kernel
theorem dX7_takeValley_17 : decode cX7_takeValley 17 = .ok (.aload_n 0, 1) := by decide +kernel
theorem dX7_takeValley_18 : decode cX7_takeValley 18 = .ok (.aload_n 1, 1) := by decide +kernel
theorem dX7_takeValley_19 : decode cX7_takeValley 19 = .ok (.aload_n 0, 1) := by decide +kernel
theorem dX7_takeValley_20 : decode cX7_takeValley 20 = .ok (.getfield 15, 3) := by decide +kernel
theorem dX7_takeValley_23 : decode cX7_takeValley 23 = .ok (.aload_n 0, 1) := by decide +kernel
theorem dX7_takeValley_24 : decode cX7_takeValley 24 = .ok (.getfield 25, 3) := by decide +kernel
theorem dX7_takeValley_27 : decode cX7_takeValley 27 = .ok (.aload_n 0, 1) := by decide +kernel
theorem dX7_takeValley_28 : decode cX7_takeValley 28 = .ok (.getfield 46, 3) := by decide +kernel
theorem dX7_takeValley_31 : decode cX7_takeValley 31 = .ok (.invokevirtual 58, 3) := by decide +kernel
theorem dX7_takeValley_34 : decode cX7_takeValley 34 = .ok (.invokevirtual 87, 3) := by decide +kernel
theorem dX7_takeValley_37 : decode cX7_takeValley 37 = .ok (.putfield 43, 3) := by decide +kernel
theorem dX7_takeValley_40 : decode cX7_takeValley 40 = .ok (.aload_n 0, 1) := by decide +kernel
theorem dX7_takeValley_41 : decode cX7_takeValley 41 = .ok (.getfield 43, 3) := by decide +kernel
theorem dX7_takeValley_44 : decode cX7_takeValley 44 = .ok (.iconst (-1), 1) := by decide +kernel
theorem dX7_takeValley_45 : decode cX7_takeValley 45 = .ok (.if_icmp .ne 11, 3) := by decide +kernel
theorem dX7_takeValley_48 : decode cX7_takeValley 48 = .ok (.aload_n 0, 1) := by decide +kernel
theorem dX7_takeValley_49 : decode cX7_takeValley 49 = .ok (.iconst 3, 1) := by decide +kernel
theorem dX7_takeValley_50 : decode cX7_takeValley 50 = .ok (.invokevirtual 69, 3) := by decide +kernel
theorem dX7_takeValley_53 : decode cX7_takeValley 53 = .ok (.ifCond .eq 7, 3) := by decide +kernel
theorem dX7_takeValley_56 : decode cX7_takeValley 56 = .ok (.iconst 1, 1) := by decide +kernel
theorem dX7_takeValley_57 : decode cX7_takeValley 57 = .ok (.goto 4, 3) := by decide +kernel
theorem dX7_takeValley_60 : decode cX7_takeValley 60 = .ok (.iconst 0, 1) := by decide +kernel
theorem dX7_takeValley_61 : decode cX7_takeValley 61 = .ok (.ireturn, 1) := by decide +kernel
theorem dX8_init_0 : decode cX8_init 0 = .ok (.aload_n 0, 1) := by decide +kernel
theorem dX8_init_1 : decode cX8_init 1 = .ok (.invokespecial 3, 3) := by decide +kernel
theorem dX8_init_4 : decode cX8_init 4 = .ok (.aload_n 0, 1) := by decide +kernel
theorem dX8_init_5 : decode cX8_init 5 = .ok (.iconst 3, 1) := by decide +kernel
theorem dX8_init_6 : decode cX8_init 6 = .ok (.newarray .int, 2) := by decide +kernel
theorem dX8_init_8 : decode cX8_init 8 = .ok (.putfield 9, 3) := by decide +kernel
theorem dX8_init_11 : decode cX8_init 11 = .ok (.aload_n 0, 1) := by decide +kernel
theorem dX8_init_12 : decode cX8_init 12 = .ok (.bipush 12, 2) := by decide +kernel
theorem dX8_init_14 : decode cX8_init 14 = .ok (.newarray .int, 2) := by decide +kernel
theorem dX8_init_16 : decode cX8_init 16 = .ok (.putfield 15, 3) := by decide +kernel
theorem dX8_init_19 : decode cX8_init 19 = .ok (.return_, 1) := by decide +kernel
theorem dX8_start_0 : decode cX8_start 0 = .ok (.aload_n 0, 1) := by decide +kernel
theorem dX8_start_1 : decode cX8_start 1 = .ok (.lload_n 1, 1) := by decide +kernel
theorem dX8_start_2 : decode cX8_start 2 = .ok (.putfield 18, 3) := by decide +kernel
theorem dX8_start_5 : decode cX8_start 5 = .ok (.aload_n 0, 1) := by decide +kernel
theorem dX8_start_6 : decode cX8_start 6 = .ok (.iconst 0, 1) := by decide +kernel
theorem dX8_start_7 : decode cX8_start 7 = .ok (.putfield 22, 3) := by decide +kernel
theorem dX8_start_10 : decode cX8_start 10 = .ok (.aload_n 0, 1) := by decide +kernel
theorem dX8_start_11 : decode cX8_start 11 = .ok (.iconst 0, 1) := by decide +kernel
theorem dX8_start_12 : decode cX8_start 12 = .ok (.putfield 26, 3) := by decide +kernel
theorem dX8_start_15 : decode cX8_start 15 = .ok (.aload_n 0, 1) := by decide +kernel
theorem dX8_start_16 : decode cX8_start 16 = .ok (.iconst 0, 1) := by decide +kernel
theorem dX8_start_17 : decode cX8_start 17 = .ok (.putfield 29, 3) := by decide +kernel
theorem dX8_start_20 : decode cX8_start 20 = .ok (.iconst 0, 1) := by decide +kernel
theorem dX8_start_21 : decode cX8_start 21 = .ok (.istore_n 3, 1) := by decide +kernel
theorem dX8_start_22 : decode cX8_start 22 = .ok (.iload_n 3, 1) := by decide +kernel
theorem dX8_start_23 : decode cX8_start 23 = .ok (.aload_n 0, 1) := by decide +kernel
theorem dX8_start_24 : decode cX8_start 24 = .ok (.getfield 15, 3) := by decide +kernel
theorem dX8_start_27 : decode cX8_start 27 = .ok (.arraylength, 1) := by decide +kernel
theorem dX8_start_28 : decode cX8_start 28 = .ok (.if_icmp .ge 16, 3) := by decide +kernel
theorem dX8_start_31 : decode cX8_start 31 = .ok (.aload_n 0, 1) := by decide +kernel
theorem dX8_start_32 : decode cX8_start 32 = .ok (.getfield 15, 3) := by decide +kernel
theorem dX8_start_35 : decode cX8_start 35 = .ok (.iload_n 3, 1) := by decide +kernel
theorem dX8_start_36 : decode cX8_start 36 = .ok (.iconst 0, 1) := by decide +kernel
theorem dX8_start_37 : decode cX8_start 37 = .ok (.iastore, 1) := by decide +kernel
theorem dX8_start_38 : decode cX8_start 38 = .ok (.iinc 3 1, 3) := by decide +kernel
theorem dX8_start_41 : decode cX8_start 41 = .ok (.goto (-19), 3) := by decide +kernel
theorem dX8_start_44 : decode cX8_start 44 = .ok (.aload_n 0, 1) := by decide +kernel
theorem dX8_start_45 : decode cX8_start 45 = .ok (.iconst 0, 1) := by decide +kernel
theorem dX8_start_46 : decode cX8_start 46 = .ok (.putfield 32, 3) := by decide +kernel
theorem dX8_start_49 : decode cX8_start 49 = .ok (.aload_n 0, 1) := by decide +kernel
theorem dX8_start_50 : decode cX8_start 50 = .ok (.iconst 0, 1) := by decide +kernel
theorem dX8_start_51 : decode cX8_start 51 = .ok (.putfield 35, 3) := by decide +kernel
theorem dX8_start_54 : decode cX8_start 54 = .ok (.return_, 1) := by decide +kernel
theorem dX8_copyFrom_0 : decode cX8_copyFrom 0 = .ok (.aload_n 0, 1) := by decide +kernel
theorem dX8_copyFrom_1 : decode cX8_copyFrom 1 = .ok (.aload_n 1, 1) := by decide +kernel
theorem dX8_copyFrom_2 : decode cX8_copyFrom 2 = .ok (.getfield 18, 3) := by decide +kernel
theorem dX8_copyFrom_5 : decode cX8_copyFrom 5 = .ok (.putfield 18, 3) := by decide +kernel
theorem dX8_copyFrom_8 : decode cX8_copyFrom 8 = .ok (.aload_n 0, 1) := by decide +kernel
theorem dX8_copyFrom_9 : decode cX8_copyFrom 9 = .ok (.aload_n 1, 1) := by decide +kernel
theorem dX8_copyFrom_10 : decode cX8_copyFrom 10 = .ok (.getfield 38, 3) := by decide +kernel
theorem dX8_copyFrom_13 : decode cX8_copyFrom 13 = .ok (.putfield 38, 3) := by decide +kernel
theorem dX8_copyFrom_16 : decode cX8_copyFrom 16 = .ok (.aload_n 0, 1) := by decide +kernel
theorem dX8_copyFrom_17 : decode cX8_copyFrom 17 = .ok (.aload_n 1, 1) := by decide +kernel
theorem dX8_copyFrom_18 : decode cX8_copyFrom 18 = .ok (.getfield 41, 3) := by decide +kernel
theorem dX8_copyFrom_21 : decode cX8_copyFrom 21 = .ok (.putfield 41, 3) := by decide +kernel
theorem dX8_copyFrom_24 : decode cX8_copyFrom 24 = .ok (.aload_n 0, 1) := by decide +kernel
theorem dX8_copyFrom_25 : decode cX8_copyFrom 25 = .ok (.aload_n 1, 1) := by decide +kernel
theorem dX8_copyFrom_26 : decode cX8_copyFrom 26 = .ok (.getfield 44, 3) := by decide +kernel
theorem dX8_copyFrom_29 : decode cX8_copyFrom 29 = .ok (.putfield 44, 3) := by decide +kernel
theorem dX8_copyFrom_32 : decode cX8_copyFrom 32 = .ok (.aload_n 0, 1) := by decide +kernel
theorem dX8_copyFrom_33 : decode cX8_copyFrom 33 = .ok (.aload_n 1, 1) := by decide +kernel
theorem dX8_copyFrom_34 : decode cX8_copyFrom 34 = .ok (.getfield 47, 3) := by decide +kernel
theorem dX8_copyFrom_37 : decode cX8_copyFrom 37 = .ok (.putfield 47, 3) := by decide +kernel
theorem dX8_copyFrom_40 : decode cX8_copyFrom 40 = .ok (.aload_n 1, 1) := by decide +kernel
theorem dX8_copyFrom_41 : decode cX8_copyFrom 41 = .ok (.getfield 9, 3) := by decide +kernel
theorem dX8_copyFrom_44 : decode cX8_copyFrom 44 = .ok (.iconst 0, 1) := by decide +kernel
theorem dX8_copyFrom_45 : decode cX8_copyFrom 45 = .ok (.aload_n 0, 1) := by decide +kernel
theorem dX8_copyFrom_46 : decode cX8_copyFrom 46 = .ok (.getfield 9, 3) := by decide +kernel
theorem dX8_copyFrom_49 : decode cX8_copyFrom 49 = .ok (.iconst 0, 1) := by decide +kernel
theorem dX8_copyFrom_50 : decode cX8_copyFrom 50 = .ok (.iconst 3, 1) := by decide +kernel
theorem dX8_copyFrom_51 : decode cX8_copyFrom 51 = .ok (.invokestatic 50, 3) := by decide +kernel
theorem dX8_copyFrom_54 : decode cX8_copyFrom 54 = .ok (.aload_n 0, 1) := by decide +kernel
theorem dX8_copyFrom_55 : decode cX8_copyFrom 55 = .ok (.aload_n 1, 1) := by decide +kernel
theorem dX8_copyFrom_56 : decode cX8_copyFrom 56 = .ok (.getfield 22, 3) := by decide +kernel
theorem dX8_copyFrom_59 : decode cX8_copyFrom 59 = .ok (.putfield 22, 3) := by decide +kernel
theorem dX8_copyFrom_62 : decode cX8_copyFrom 62 = .ok (.aload_n 0, 1) := by decide +kernel
theorem dX8_copyFrom_63 : decode cX8_copyFrom 63 = .ok (.aload_n 1, 1) := by decide +kernel
theorem dX8_copyFrom_64 : decode cX8_copyFrom 64 = .ok (.getfield 26, 3) := by decide +kernel
theorem dX8_copyFrom_67 : decode cX8_copyFrom 67 = .ok (.putfield 26, 3) := by decide +kernel
theorem dX8_copyFrom_70 : decode cX8_copyFrom 70 = .ok (.aload_n 0, 1) := by decide +kernel
theorem dX8_copyFrom_71 : decode cX8_copyFrom 71 = .ok (.aload_n 1, 1) := by decide +kernel
theorem dX8_copyFrom_72 : decode cX8_copyFrom 72 = .ok (.getfield 29, 3) := by decide +kernel
theorem dX8_copyFrom_75 : decode cX8_copyFrom 75 = .ok (.putfield 29, 3) := by decide +kernel
theorem dX8_copyFrom_78 : decode cX8_copyFrom 78 = .ok (.aload_n 1, 1) := by decide +kernel
theorem dX8_copyFrom_79 : decode cX8_copyFrom 79 = .ok (.getfield 15, 3) := by decide +kernel
theorem dX8_copyFrom_82 : decode cX8_copyFrom 82 = .ok (.iconst 0, 1) := by decide +kernel
theorem dX8_copyFrom_83 : decode cX8_copyFrom 83 = .ok (.aload_n 0, 1) := by decide +kernel
theorem dX8_copyFrom_84 : decode cX8_copyFrom 84 = .ok (.getfield 15, 3) := by decide +kernel
theorem dX8_copyFrom_87 : decode cX8_copyFrom 87 = .ok (.iconst 0, 1) := by decide +kernel
theorem dX8_copyFrom_88 : decode cX8_copyFrom 88 = .ok (.bipush 12, 2) := by decide +kernel
theorem dX8_copyFrom_90 : decode cX8_copyFrom 90 = .ok (.invokestatic 50, 3) := by decide +kernel
theorem dX8_copyFrom_93 : decode cX8_copyFrom 93 = .ok (.aload_n 0, 1) := by decide +kernel
theorem dX8_copyFrom_94 : decode cX8_copyFrom 94 = .ok (.aload_n 1, 1) := by decide +kernel
theorem dX8_copyFrom_95 : decode cX8_copyFrom 95 = .ok (.getfield 32, 3) := by decide +kernel
theorem dX8_copyFrom_98 : decode cX8_copyFrom 98 = .ok (.putfield 32, 3) := by decide +kernel
theorem dX8_copyFrom_101 : decode cX8_copyFrom 101 = .ok (.aload_n 0, 1) := by decide +kernel
theorem dX8_copyFrom_102 : decode cX8_copyFrom 102 = .ok (.aload_n 1, 1) := by decide +kernel
theorem dX8_copyFrom_103 : decode cX8_copyFrom 103 = .ok (.getfield 35, 3) := by decide +kernel
theorem dX8_copyFrom_106 : decode cX8_copyFrom 106 = .ok (.putfield 35, 3) := by decide +kernel
theorem dX8_copyFrom_109 : decode cX8_copyFrom 109 = .ok (.return_, 1) := by decide +kernel
theorem dX8_hasTested_0 : decode cX8_hasTested 0 = .ok (.aload_n 0, 1) := by decide +kernel
theorem dX8_hasTested_1 : decode cX8_hasTested 1 = .ok (.getfield 26, 3) := by decide +kernel
theorem dX8_hasTested_4 : decode cX8_hasTested 4 = .ok (.iload_n 1, 1) := by decide +kernel
theorem dX8_hasTested_5 : decode cX8_hasTested 5 = .ok (.ishr, 1) := by decide +kernel
theorem dX8_hasTested_6 : decode cX8_hasTested 6 = .ok (.iconst 1, 1) := by decide +kernel
theorem dX8_hasTested_7 : decode cX8_hasTested 7 = .ok (.iand, 1) := by decide +kernel
theorem dX8_hasTested_8 : decode cX8_hasTested 8 = .ok (.iconst 1, 1) := by decide +kernel
theorem dX8_hasTested_9 : decode cX8_hasTested 9 = .ok (.if_icmp .ne 7, 3) := by decide +kernel
theorem dX8_hasTested_12 : decode cX8_hasTested 12 = .ok (.iconst 1, 1) := by decide +kernel
theorem dX8_hasTested_13 : decode cX8_hasTested 13 = .ok (.goto 4, 3) := by decide +kernel
theorem dX8_hasTested_16 : decode cX8_hasTested 16 = .ok (.iconst 0, 1) := by decide +kernel
theorem dX8_hasTested_17 : decode cX8_hasTested 17 = .ok (.ireturn, 1) := by decide +kernel
theorem dX8_noteTest_0 : decode cX8_noteTest 0 = .ok (.aload_n 0, 1) := by decide +kernel
theorem dX8_noteTest_1 : decode cX8_noteTest 1 = .ok (.dup, 1) := by decide +kernel
theorem dX8_noteTest_2 : decode cX8_noteTest 2 = .ok (.getfield 26, 3) := by decide +kernel
theorem dX8_noteTest_5 : decode cX8_noteTest 5 = .ok (.iconst 1, 1) := by decide +kernel
theorem dX8_noteTest_6 : decode cX8_noteTest 6 = .ok (.iload_n 1, 1) := by decide +kernel
theorem dX8_noteTest_7 : decode cX8_noteTest 7 = .ok (.ishl, 1) := by decide +kernel
theorem dX8_noteTest_8 : decode cX8_noteTest 8 = .ok (.ior, 1) := by decide +kernel
theorem dX8_noteTest_9 : decode cX8_noteTest 9 = .ok (.putfield 26, 3) := by decide +kernel
theorem dX8_noteTest_12 : decode cX8_noteTest 12 = .ok (.return_, 1) := by decide +kernel
theorem dX8_hasLost_0 : decode cX8_hasLost 0 = .ok (.aload_n 0, 1) := by decide +kernel
theorem dX8_hasLost_1 : decode cX8_hasLost 1 = .ok (.getfield 29, 3) := by decide +kernel
theorem dX8_hasLost_4 : decode cX8_hasLost 4 = .ok (.iload_n 1, 1) := by decide +kernel
theorem dX8_hasLost_5 : decode cX8_hasLost 5 = .ok (.ishr, 1) := by decide +kernel
theorem dX8_hasLost_6 : decode cX8_hasLost 6 = .ok (.iconst 1, 1) := by decide +kernel
theorem dX8_hasLost_7 : decode cX8_hasLost 7 = .ok (.iand, 1) := by decide +kernel
theorem dX8_hasLost_8 : decode cX8_hasLost 8 = .ok (.iconst 1, 1) := by decide +kernel
theorem dX8_hasLost_9 : decode cX8_hasLost 9 = .ok (.if_icmp .ne 7, 3) := by decide +kernel
theorem dX8_hasLost_12 : decode cX8_hasLost 12 = .ok (.iconst 1, 1) := by decide +kernel
theorem dX8_hasLost_13 : decode cX8_hasLost 13 = .ok (.goto 4, 3) := by decide +kernel
theorem dX8_hasLost_16 : decode cX8_hasLost 16 = .ok (.iconst 0, 1) := by decide +kernel
theorem dX8_hasLost_17 : decode cX8_hasLost 17 = .ok (.ireturn, 1) := by decide +kernel
theorem dX8_hasFreePost_0 : decode cX8_hasFreePost 0 = .ok (.aload_n 0, 1) := by decide +kernel
theorem dX8_hasFreePost_1 : decode cX8_hasFreePost 1 = .ok (.getfield 22, 3) := by decide +kernel
theorem dX8_hasFreePost_4 : decode cX8_hasFreePost 4 = .ok (.aload_n 0, 1) := by decide +kernel
theorem dX8_hasFreePost_5 : decode cX8_hasFreePost 5 = .ok (.getfield 41, 3) := by decide +kernel
theorem dX8_hasFreePost_8 : decode cX8_hasFreePost 8 = .ok (.if_icmp .ge 7, 3) := by decide +kernel
theorem dX8_hasFreePost_11 : decode cX8_hasFreePost 11 = .ok (.iconst 1, 1) := by decide +kernel
theorem dX8_hasFreePost_12 : decode cX8_hasFreePost 12 = .ok (.goto 4, 3) := by decide +kernel
theorem dX8_hasFreePost_15 : decode cX8_hasFreePost 15 = .ok (.iconst 0, 1) := by decide +kernel
theorem dX8_hasFreePost_16 : decode cX8_hasFreePost 16 = .ok (.ireturn, 1) := by decide +kernel
theorem dX8_hire_0 : decode cX8_hire 0 = .ok (.aload_n 0, 1) := by decide +kernel
theorem dX8_hire_1 : decode cX8_hire 1 = .ok (.getfield 22, 3) := by decide +kernel
theorem dX8_hire_4 : decode cX8_hire 4 = .ok (.aload_n 0, 1) := by decide +kernel
theorem dX8_hire_5 : decode cX8_hire 5 = .ok (.getfield 9, 3) := by decide +kernel
theorem dX8_hire_8 : decode cX8_hire 8 = .ok (.arraylength, 1) := by decide +kernel
theorem dX8_hire_9 : decode cX8_hire 9 = .ok (.if_icmp .ge 23, 3) := by decide +kernel
theorem dX8_hire_12 : decode cX8_hire 12 = .ok (.aload_n 0, 1) := by decide +kernel
theorem dX8_hire_13 : decode cX8_hire 13 = .ok (.getfield 9, 3) := by decide +kernel
theorem dX8_hire_16 : decode cX8_hire 16 = .ok (.aload_n 0, 1) := by decide +kernel
theorem dX8_hire_17 : decode cX8_hire 17 = .ok (.getfield 22, 3) := by decide +kernel
theorem dX8_hire_20 : decode cX8_hire 20 = .ok (.iload_n 1, 1) := by decide +kernel
theorem dX8_hire_21 : decode cX8_hire 21 = .ok (.iastore, 1) := by decide +kernel
theorem dX8_hire_22 : decode cX8_hire 22 = .ok (.aload_n 0, 1) := by decide +kernel
theorem dX8_hire_23 : decode cX8_hire 23 = .ok (.dup, 1) := by decide +kernel
theorem dX8_hire_24 : decode cX8_hire 24 = .ok (.getfield 22, 3) := by decide +kernel
theorem dX8_hire_27 : decode cX8_hire 27 = .ok (.iconst 1, 1) := by decide +kernel
theorem dX8_hire_28 : decode cX8_hire 28 = .ok (.iadd, 1) := by decide +kernel
theorem dX8_hire_29 : decode cX8_hire 29 = .ok (.putfield 22, 3) := by decide +kernel
theorem dX8_hire_32 : decode cX8_hire 32 = .ok (.return_, 1) := by decide +kernel
theorem dX8_release_0 : decode cX8_release 0 = .ok (.iconst 0, 1) := by decide +kernel
theorem dX8_release_1 : decode cX8_release 1 = .ok (.istore_n 2, 1) := by decide +kernel
theorem dX8_release_2 : decode cX8_release 2 = .ok (.iconst 0, 1) := by decide +kernel
theorem dX8_release_3 : decode cX8_release 3 = .ok (.istore_n 3, 1) := by decide +kernel
theorem dX8_release_4 : decode cX8_release 4 = .ok (.iload_n 3, 1) := by decide +kernel
theorem dX8_release_5 : decode cX8_release 5 = .ok (.aload_n 0, 1) := by decide +kernel
theorem dX8_release_6 : decode cX8_release 6 = .ok (.getfield 22, 3) := by decide +kernel
theorem dX8_release_9 : decode cX8_release 9 = .ok (.if_icmp .ge 34, 3) := by decide +kernel
theorem dX8_release_12 : decode cX8_release 12 = .ok (.aload_n 0, 1) := by decide +kernel
theorem dX8_release_13 : decode cX8_release 13 = .ok (.getfield 9, 3) := by decide +kernel
theorem dX8_release_16 : decode cX8_release 16 = .ok (.iload_n 3, 1) := by decide +kernel
theorem dX8_release_17 : decode cX8_release 17 = .ok (.iaload, 1) := by decide +kernel
theorem dX8_release_18 : decode cX8_release 18 = .ok (.iload_n 1, 1) := by decide +kernel
theorem dX8_release_19 : decode cX8_release 19 = .ok (.if_icmp .eq 18, 3) := by decide +kernel
theorem dX8_release_22 : decode cX8_release 22 = .ok (.aload_n 0, 1) := by decide +kernel
theorem dX8_release_23 : decode cX8_release 23 = .ok (.getfield 9, 3) := by decide +kernel
theorem dX8_release_26 : decode cX8_release 26 = .ok (.iload_n 2, 1) := by decide +kernel
theorem dX8_release_27 : decode cX8_release 27 = .ok (.aload_n 0, 1) := by decide +kernel
theorem dX8_release_28 : decode cX8_release 28 = .ok (.getfield 9, 3) := by decide +kernel
theorem dX8_release_31 : decode cX8_release 31 = .ok (.iload_n 3, 1) := by decide +kernel
theorem dX8_release_32 : decode cX8_release 32 = .ok (.iaload, 1) := by decide +kernel
theorem dX8_release_33 : decode cX8_release 33 = .ok (.iastore, 1) := by decide +kernel
theorem dX8_release_34 : decode cX8_release 34 = .ok (.iinc 2 1, 3) := by decide +kernel
theorem dX8_release_37 : decode cX8_release 37 = .ok (.iinc 3 1, 3) := by decide +kernel
theorem dX8_release_40 : decode cX8_release 40 = .ok (.goto (-36), 3) := by decide +kernel
theorem dX8_release_43 : decode cX8_release 43 = .ok (.aload_n 0, 1) := by decide +kernel
theorem dX8_release_44 : decode cX8_release 44 = .ok (.iload_n 2, 1) := by decide +kernel
theorem dX8_release_45 : decode cX8_release 45 = .ok (.putfield 22, 3) := by decide +kernel
theorem dX8_release_48 : decode cX8_release 48 = .ok (.return_, 1) := by decide +kernel
theorem dX9_init_0 : decode cX9_init 0 = .ok (.aload_n 0, 1) := by decide +kernel
theorem dX9_init_1 : decode cX9_init 1 = .ok (.invokespecial 3, 3) := by decide +kernel
theorem dX9_init_4 : decode cX9_init 4 = .ok (.aload_n 0, 1) := by decide +kernel
theorem dX9_init_5 : decode cX9_init 5 = .ok (.bipush 12, 2) := by decide +kernel
theorem dX9_init_7 : decode cX9_init 7 = .ok (.anewarray 9, 3) := by decide +kernel
theorem dX9_init_10 : decode cX9_init 10 = .ok (.putfield 11, 3) := by decide +kernel
theorem dX9_init_13 : decode cX9_init 13 = .ok (.aload_n 0, 1) := by decide +kernel
theorem dX9_init_14 : decode cX9_init 14 = .ok (.bipush 8, 2) := by decide +kernel
theorem dX9_init_16 : decode cX9_init 16 = .ok (.anewarray 17, 3) := by decide +kernel
theorem dX9_init_19 : decode cX9_init 19 = .ok (.putfield 19, 3) := by decide +kernel
theorem dX9_init_22 : decode cX9_init 22 = .ok (.iconst 0, 1) := by decide +kernel
theorem dX9_init_23 : decode cX9_init 23 = .ok (.istore_n 1, 1) := by decide +kernel
theorem dX9_init_24 : decode cX9_init 24 = .ok (.iload_n 1, 1) := by decide +kernel
theorem dX9_init_25 : decode cX9_init 25 = .ok (.bipush 12, 2) := by decide +kernel
theorem dX9_init_27 : decode cX9_init 27 = .ok (.if_icmp .ge 22, 3) := by decide +kernel
theorem dX9_init_30 : decode cX9_init 30 = .ok (.aload_n 0, 1) := by decide +kernel
theorem dX9_init_31 : decode cX9_init 31 = .ok (.getfield 11, 3) := by decide +kernel
theorem dX9_init_34 : decode cX9_init 34 = .ok (.iload_n 1, 1) := by decide +kernel
theorem dX9_init_35 : decode cX9_init 35 = .ok (.new 9, 3) := by decide +kernel
theorem dX9_init_38 : decode cX9_init 38 = .ok (.dup, 1) := by decide +kernel
theorem dX9_init_39 : decode cX9_init 39 = .ok (.invokespecial 23, 3) := by decide +kernel
theorem dX9_init_42 : decode cX9_init 42 = .ok (.aastore, 1) := by decide +kernel
theorem dX9_init_43 : decode cX9_init 43 = .ok (.iinc 1 1, 3) := by decide +kernel
theorem dX9_init_46 : decode cX9_init 46 = .ok (.goto (-22), 3) := by decide +kernel
theorem dX9_init_49 : decode cX9_init 49 = .ok (.iconst 0, 1) := by decide +kernel
theorem dX9_init_50 : decode cX9_init 50 = .ok (.istore_n 1, 1) := by decide +kernel
theorem dX9_init_51 : decode cX9_init 51 = .ok (.iload_n 1, 1) := by decide +kernel
theorem dX9_init_52 : decode cX9_init 52 = .ok (.bipush 8, 2) := by decide +kernel
theorem dX9_init_54 : decode cX9_init 54 = .ok (.if_icmp .ge 22, 3) := by decide +kernel
theorem dX9_init_57 : decode cX9_init 57 = .ok (.aload_n 0, 1) := by decide +kernel
theorem dX9_init_58 : decode cX9_init 58 = .ok (.getfield 19, 3) := by decide +kernel
theorem dX9_init_61 : decode cX9_init 61 = .ok (.iload_n 1, 1) := by decide +kernel
theorem dX9_init_62 : decode cX9_init 62 = .ok (.new 17, 3) := by decide +kernel
theorem dX9_init_65 : decode cX9_init 65 = .ok (.dup, 1) := by decide +kernel
theorem dX9_init_66 : decode cX9_init 66 = .ok (.invokespecial 24, 3) := by decide +kernel
theorem dX9_init_69 : decode cX9_init 69 = .ok (.aastore, 1) := by decide +kernel
theorem dX9_init_70 : decode cX9_init 70 = .ok (.iinc 1 1, 3) := by decide +kernel
theorem dX9_init_73 : decode cX9_init 73 = .ok (.goto (-22), 3) := by decide +kernel
theorem dX9_init_76 : decode cX9_init 76 = .ok (.return_, 1) := by decide +kernel
theorem dX9_clear_0 : decode cX9_clear 0 = .ok (.aload_n 0, 1) := by decide +kernel
theorem dX9_clear_1 : decode cX9_clear 1 = .ok (.iconst 0, 1) := by decide +kernel
theorem dX9_clear_2 : decode cX9_clear 2 = .ok (.putfield 25, 3) := by decide +kernel
theorem dX9_clear_5 : decode cX9_clear 5 = .ok (.aload_n 0, 1) := by decide +kernel
theorem dX9_clear_6 : decode cX9_clear 6 = .ok (.iconst 0, 1) := by decide +kernel
theorem dX9_clear_7 : decode cX9_clear 7 = .ok (.putfield 29, 3) := by decide +kernel
theorem dX9_clear_10 : decode cX9_clear 10 = .ok (.aload_n 0, 1) := by decide +kernel
theorem dX9_clear_11 : decode cX9_clear 11 = .ok (.iconst 0, 1) := by decide +kernel
theorem dX9_clear_12 : decode cX9_clear 12 = .ok (.putfield 32, 3) := by decide +kernel
theorem dX9_clear_15 : decode cX9_clear 15 = .ok (.aload_n 0, 1) := by decide +kernel
theorem dX9_clear_16 : decode cX9_clear 16 = .ok (.iconst 0, 1) := by decide +kernel
theorem dX9_clear_17 : decode cX9_clear 17 = .ok (.putfield 35, 3) := by decide +kernel
theorem dX9_clear_20 : decode cX9_clear 20 = .ok (.aload_n 0, 1) := by decide +kernel
theorem dX9_clear_21 : decode cX9_clear 21 = .ok (.iconst 0, 1) := by decide +kernel
theorem dX9_clear_22 : decode cX9_clear 22 = .ok (.putfield 38, 3) := by decide +kernel
theorem dX9_clear_25 : decode cX9_clear 25 = .ok (.aload_n 0, 1) := by decide +kernel
theorem dX9_clear_26 : decode cX9_clear 26 = .ok (.iconst 0, 1) := by decide +kernel
theorem dX9_clear_27 : decode cX9_clear 27 = .ok (.putfield 41, 3) := by decide +kernel
theorem dX9_clear_30 : decode cX9_clear 30 = .ok (.aload_n 0, 1) := by decide +kernel
theorem dX9_clear_31 : decode cX9_clear 31 = .ok (.iconst 0, 1) := by decide +kernel
theorem dX9_clear_32 : decode cX9_clear 32 = .ok (.putfield 44, 3) := by decide +kernel
theorem dX9_clear_35 : decode cX9_clear 35 = .ok (.aload_n 0, 1) := by decide +kernel
theorem dX9_clear_36 : decode cX9_clear 36 = .ok (.iconst 0, 1) := by decide +kernel
theorem dX9_clear_37 : decode cX9_clear 37 = .ok (.putfield 47, 3) := by decide +kernel
theorem dX9_clear_40 : decode cX9_clear 40 = .ok (.aload_n 0, 1) := by decide +kernel
theorem dX9_clear_41 : decode cX9_clear 41 = .ok (.iconst 0, 1) := by decide +kernel
theorem dX9_clear_42 : decode cX9_clear 42 = .ok (.putfield 50, 3) := by decide +kernel
theorem dX9_clear_45 : decode cX9_clear 45 = .ok (.return_, 1) := by decide +kernel
theorem dX9_copyFrom_0 : decode cX9_copyFrom 0 = .ok (.aload_n 0, 1) := by decide +kernel
theorem dX9_copyFrom_1 : decode cX9_copyFrom 1 = .ok (.aload_n 1, 1) := by decide +kernel
theorem dX9_copyFrom_2 : decode cX9_copyFrom 2 = .ok (.getfield 25, 3) := by decide +kernel
theorem dX9_copyFrom_5 : decode cX9_copyFrom 5 = .ok (.putfield 25, 3) := by decide +kernel
theorem dX9_copyFrom_8 : decode cX9_copyFrom 8 = .ok (.aload_n 0, 1) := by decide +kernel
theorem dX9_copyFrom_9 : decode cX9_copyFrom 9 = .ok (.aload_n 1, 1) := by decide +kernel
theorem dX9_copyFrom_10 : decode cX9_copyFrom 10 = .ok (.getfield 29, 3) := by decide +kernel
theorem dX9_copyFrom_13 : decode cX9_copyFrom 13 = .ok (.putfield 29, 3) := by decide +kernel
theorem dX9_copyFrom_16 : decode cX9_copyFrom 16 = .ok (.aload_n 0, 1) := by decide +kernel
theorem dX9_copyFrom_17 : decode cX9_copyFrom 17 = .ok (.aload_n 1, 1) := by decide +kernel
theorem dX9_copyFrom_18 : decode cX9_copyFrom 18 = .ok (.getfield 32, 3) := by decide +kernel
theorem dX9_copyFrom_21 : decode cX9_copyFrom 21 = .ok (.putfield 32, 3) := by decide +kernel
theorem dX9_copyFrom_24 : decode cX9_copyFrom 24 = .ok (.aload_n 0, 1) := by decide +kernel
theorem dX9_copyFrom_25 : decode cX9_copyFrom 25 = .ok (.aload_n 1, 1) := by decide +kernel
theorem dX9_copyFrom_26 : decode cX9_copyFrom 26 = .ok (.getfield 35, 3) := by decide +kernel
theorem dX9_copyFrom_29 : decode cX9_copyFrom 29 = .ok (.putfield 35, 3) := by decide +kernel
theorem dX9_copyFrom_32 : decode cX9_copyFrom 32 = .ok (.aload_n 0, 1) := by decide +kernel
theorem dX9_copyFrom_33 : decode cX9_copyFrom 33 = .ok (.aload_n 1, 1) := by decide +kernel
theorem dX9_copyFrom_34 : decode cX9_copyFrom 34 = .ok (.getfield 38, 3) := by decide +kernel
theorem dX9_copyFrom_37 : decode cX9_copyFrom 37 = .ok (.putfield 38, 3) := by decide +kernel
theorem dX9_copyFrom_40 : decode cX9_copyFrom 40 = .ok (.aload_n 0, 1) := by decide +kernel
theorem dX9_copyFrom_41 : decode cX9_copyFrom 41 = .ok (.aload_n 1, 1) := by decide +kernel
theorem dX9_copyFrom_42 : decode cX9_copyFrom 42 = .ok (.getfield 41, 3) := by decide +kernel
theorem dX9_copyFrom_45 : decode cX9_copyFrom 45 = .ok (.putfield 41, 3) := by decide +kernel
theorem dX9_copyFrom_48 : decode cX9_copyFrom 48 = .ok (.aload_n 0, 1) := by decide +kernel
theorem dX9_copyFrom_49 : decode cX9_copyFrom 49 = .ok (.aload_n 1, 1) := by decide +kernel
theorem dX9_copyFrom_50 : decode cX9_copyFrom 50 = .ok (.getfield 44, 3) := by decide +kernel
theorem dX9_copyFrom_53 : decode cX9_copyFrom 53 = .ok (.putfield 44, 3) := by decide +kernel
theorem dX9_copyFrom_56 : decode cX9_copyFrom 56 = .ok (.aload_n 0, 1) := by decide +kernel
theorem dX9_copyFrom_57 : decode cX9_copyFrom 57 = .ok (.aload_n 1, 1) := by decide +kernel
theorem dX9_copyFrom_58 : decode cX9_copyFrom 58 = .ok (.getfield 47, 3) := by decide +kernel
theorem dX9_copyFrom_61 : decode cX9_copyFrom 61 = .ok (.putfield 47, 3) := by decide +kernel
theorem dX9_copyFrom_64 : decode cX9_copyFrom 64 = .ok (.aload_n 0, 1) := by decide +kernel
theorem dX9_copyFrom_65 : decode cX9_copyFrom 65 = .ok (.aload_n 1, 1) := by decide +kernel
theorem dX9_copyFrom_66 : decode cX9_copyFrom 66 = .ok (.getfield 50, 3) := by decide +kernel
theorem dX9_copyFrom_69 : decode cX9_copyFrom 69 = .ok (.putfield 50, 3) := by decide +kernel
theorem dX9_copyFrom_72 : decode cX9_copyFrom 72 = .ok (.iconst 0, 1) := by decide +kernel
theorem dX9_copyFrom_73 : decode cX9_copyFrom 73 = .ok (.istore_n 2, 1) := by decide +kernel
theorem dX9_copyFrom_74 : decode cX9_copyFrom 74 = .ok (.iload_n 2, 1) := by decide +kernel
theorem dX9_copyFrom_75 : decode cX9_copyFrom 75 = .ok (.aload_n 0, 1) := by decide +kernel
theorem dX9_copyFrom_76 : decode cX9_copyFrom 76 = .ok (.getfield 25, 3) := by decide +kernel
theorem dX9_copyFrom_79 : decode cX9_copyFrom 79 = .ok (.if_icmp .ge 24, 3) := by decide +kernel
theorem dX9_copyFrom_82 : decode cX9_copyFrom 82 = .ok (.aload_n 0, 1) := by decide +kernel
theorem dX9_copyFrom_83 : decode cX9_copyFrom 83 = .ok (.getfield 11, 3) := by decide +kernel
theorem dX9_copyFrom_86 : decode cX9_copyFrom 86 = .ok (.iload_n 2, 1) := by decide +kernel
theorem dX9_copyFrom_87 : decode cX9_copyFrom 87 = .ok (.aaload, 1) := by decide +kernel
theorem dX9_copyFrom_88 : decode cX9_copyFrom 88 = .ok (.aload_n 1, 1) := by decide +kernel
theorem dX9_copyFrom_89 : decode cX9_copyFrom 89 = .ok (.getfield 11, 3) := by decide +kernel
theorem dX9_copyFrom_92 : decode cX9_copyFrom 92 = .ok (.iload_n 2, 1) := by decide +kernel
theorem dX9_copyFrom_93 : decode cX9_copyFrom 93 = .ok (.aaload, 1) := by decide +kernel
theorem dX9_copyFrom_94 : decode cX9_copyFrom 94 = .ok (.invokevirtual 53, 3) := by decide +kernel
theorem dX9_copyFrom_97 : decode cX9_copyFrom 97 = .ok (.iinc 2 1, 3) := by decide +kernel
theorem dX9_copyFrom_100 : decode cX9_copyFrom 100 = .ok (.goto (-26), 3) := by decide +kernel
theorem dX9_copyFrom_103 : decode cX9_copyFrom 103 = .ok (.iconst 0, 1) := by decide +kernel
theorem dX9_copyFrom_104 : decode cX9_copyFrom 104 = .ok (.istore_n 2, 1) := by decide +kernel
theorem dX9_copyFrom_105 : decode cX9_copyFrom 105 = .ok (.iload_n 2, 1) := by decide +kernel
theorem dX9_copyFrom_106 : decode cX9_copyFrom 106 = .ok (.aload_n 0, 1) := by decide +kernel
theorem dX9_copyFrom_107 : decode cX9_copyFrom 107 = .ok (.getfield 29, 3) := by decide +kernel
theorem dX9_copyFrom_110 : decode cX9_copyFrom 110 = .ok (.if_icmp .ge 24, 3) := by decide +kernel
theorem dX9_copyFrom_113 : decode cX9_copyFrom 113 = .ok (.aload_n 0, 1) := by decide +kernel
theorem dX9_copyFrom_114 : decode cX9_copyFrom 114 = .ok (.getfield 19, 3) := by decide +kernel
theorem dX9_copyFrom_117 : decode cX9_copyFrom 117 = .ok (.iload_n 2, 1) := by decide +kernel
theorem dX9_copyFrom_118 : decode cX9_copyFrom 118 = .ok (.aaload, 1) := by decide +kernel
theorem dX9_copyFrom_119 : decode cX9_copyFrom 119 = .ok (.aload_n 1, 1) := by decide +kernel
theorem dX9_copyFrom_120 : decode cX9_copyFrom 120 = .ok (.getfield 19, 3) := by decide +kernel
theorem dX9_copyFrom_123 : decode cX9_copyFrom 123 = .ok (.iload_n 2, 1) := by decide +kernel
theorem dX9_copyFrom_124 : decode cX9_copyFrom 124 = .ok (.aaload, 1) := by decide +kernel
theorem dX9_copyFrom_125 : decode cX9_copyFrom 125 = .ok (.invokevirtual 57, 3) := by decide +kernel
theorem dX9_copyFrom_128 : decode cX9_copyFrom 128 = .ok (.iinc 2 1, 3) := by decide +kernel
theorem dX9_copyFrom_131 : decode cX9_copyFrom 131 = .ok (.goto (-26), 3) := by decide +kernel
theorem dX9_copyFrom_134 : decode cX9_copyFrom 134 = .ok (.return_, 1) := by decide +kernel
theorem dX9_echoNamed_0 : decode cX9_echoNamed 0 = .ok (.iconst 0, 1) := by decide +kernel
theorem dX9_echoNamed_1 : decode cX9_echoNamed 1 = .ok (.istore_n 3, 1) := by decide +kernel
theorem dX9_echoNamed_2 : decode cX9_echoNamed 2 = .ok (.iload_n 3, 1) := by decide +kernel
theorem dX9_echoNamed_3 : decode cX9_echoNamed 3 = .ok (.aload_n 0, 1) := by decide +kernel
theorem dX9_echoNamed_4 : decode cX9_echoNamed 4 = .ok (.getfield 25, 3) := by decide +kernel
theorem dX9_echoNamed_7 : decode cX9_echoNamed 7 = .ok (.if_icmp .ge 25, 3) := by decide +kernel
theorem dX9_echoNamed_10 : decode cX9_echoNamed 10 = .ok (.aload_n 0, 1) := by decide +kernel
theorem dX9_echoNamed_11 : decode cX9_echoNamed 11 = .ok (.getfield 11, 3) := by decide +kernel
theorem dX9_echoNamed_14 : decode cX9_echoNamed 14 = .ok (.iload_n 3, 1) := by decide +kernel
theorem dX9_echoNamed_15 : decode cX9_echoNamed 15 = .ok (.aaload, 1) := by decide +kernel
theorem dX9_echoNamed_16 : decode cX9_echoNamed 16 = .ok (.getfield 60, 3) := by decide +kernel
theorem dX9_echoNamed_19 : decode cX9_echoNamed 19 = .ok (.lload_n 1, 1) := by decide +kernel
theorem dX9_echoNamed_20 : decode cX9_echoNamed 20 = .ok (.lcmp, 1) := by decide +kernel
theorem dX9_echoNamed_21 : decode cX9_echoNamed 21 = .ok (.ifCond .ne 5, 3) := by decide +kernel
theorem dX9_echoNamed_24 : decode cX9_echoNamed 24 = .ok (.iload_n 3, 1) := by decide +kernel
theorem dX9_echoNamed_25 : decode cX9_echoNamed 25 = .ok (.ireturn, 1) := by decide +kernel
theorem dX9_echoNamed_26 : decode cX9_echoNamed 26 = .ok (.iinc 3 1, 3) := by decide +kernel
theorem dX9_echoNamed_29 : decode cX9_echoNamed 29 = .ok (.goto (-27), 3) := by decide +kernel
theorem dX9_echoNamed_32 : decode cX9_echoNamed 32 = .ok (.iconst (-1), 1) := by decide +kernel
theorem dX9_echoNamed_33 : decode cX9_echoNamed 33 = .ok (.ireturn, 1) := by decide +kernel
theorem dX9_valleyNamed_0 : decode cX9_valleyNamed 0 = .ok (.iconst 0, 1) := by decide +kernel
theorem dX9_valleyNamed_1 : decode cX9_valleyNamed 1 = .ok (.istore_n 3, 1) := by decide +kernel
theorem dX9_valleyNamed_2 : decode cX9_valleyNamed 2 = .ok (.iload_n 3, 1) := by decide +kernel
theorem dX9_valleyNamed_3 : decode cX9_valleyNamed 3 = .ok (.aload_n 0, 1) := by decide +kernel
theorem dX9_valleyNamed_4 : decode cX9_valleyNamed 4 = .ok (.getfield 29, 3) := by decide +kernel
theorem dX9_valleyNamed_7 : decode cX9_valleyNamed 7 = .ok (.if_icmp .ge 25, 3) := by decide +kernel
theorem dX9_valleyNamed_10 : decode cX9_valleyNamed 10 = .ok (.aload_n 0, 1) := by decide +kernel
theorem dX9_valleyNamed_11 : decode cX9_valleyNamed 11 = .ok (.getfield 19, 3) := by decide +kernel
theorem dX9_valleyNamed_14 : decode cX9_valleyNamed 14 = .ok (.iload_n 3, 1) := by decide +kernel
theorem dX9_valleyNamed_15 : decode cX9_valleyNamed 15 = .ok (.aaload, 1) := by decide +kernel
theorem dX9_valleyNamed_16 : decode cX9_valleyNamed 16 = .ok (.getfield 64, 3) := by decide +kernel
theorem dX9_valleyNamed_19 : decode cX9_valleyNamed 19 = .ok (.lload_n 1, 1) := by decide +kernel
theorem dX9_valleyNamed_20 : decode cX9_valleyNamed 20 = .ok (.lcmp, 1) := by decide +kernel
theorem dX9_valleyNamed_21 : decode cX9_valleyNamed 21 = .ok (.ifCond .ne 5, 3) := by decide +kernel
theorem dX9_valleyNamed_24 : decode cX9_valleyNamed 24 = .ok (.iload_n 3, 1) := by decide +kernel
theorem dX9_valleyNamed_25 : decode cX9_valleyNamed 25 = .ok (.ireturn, 1) := by decide +kernel
theorem dX9_valleyNamed_26 : decode cX9_valleyNamed 26 = .ok (.iinc 3 1, 3) := by decide +kernel
theorem dX9_valleyNamed_29 : decode cX9_valleyNamed 29 = .ok (.goto (-27), 3) := by decide +kernel
theorem dX9_valleyNamed_32 : decode cX9_valleyNamed 32 = .ok (.iconst (-1), 1) := by decide +kernel
theorem dX9_valleyNamed_33 : decode cX9_valleyNamed 33 = .ok (.ireturn, 1) := by decide +kernel
theorem dX9_trueScore_0 : decode cX9_trueScore 0 = .ok (.aload_n 0, 1) := by decide +kernel
theorem dX9_trueScore_1 : decode cX9_trueScore 1 = .ok (.getfield 11, 3) := by decide +kernel
theorem dX9_trueScore_4 : decode cX9_trueScore 4 = .ok (.iload_n 2, 1) := by decide +kernel
theorem dX9_trueScore_5 : decode cX9_trueScore 5 = .ok (.aaload, 1) := by decide +kernel
theorem dX9_trueScore_6 : decode cX9_trueScore 6 = .ok (.getfield 65, 3) := by decide +kernel
theorem dX9_trueScore_9 : decode cX9_trueScore 9 = .ok (.aload_n 0, 1) := by decide +kernel
theorem dX9_trueScore_10 : decode cX9_trueScore 10 = .ok (.getfield 19, 3) := by decide +kernel
theorem dX9_trueScore_13 : decode cX9_trueScore 13 = .ok (.iload_n 1, 1) := by decide +kernel
theorem dX9_trueScore_14 : decode cX9_trueScore 14 = .ok (.aaload, 1) := by decide +kernel
theorem dX9_trueScore_15 : decode cX9_trueScore 15 = .ok (.getfield 68, 3) := by decide +kernel
theorem dX9_trueScore_18 : decode cX9_trueScore 18 = .ok (.isub, 1) := by decide +kernel
theorem dX9_trueScore_19 : decode cX9_trueScore 19 = .ok (.istore_n 3, 1) := by decide +kernel
theorem dX9_trueScore_20 : decode cX9_trueScore 20 = .ok (.bipush 10, 2) := by decide +kernel
theorem dX9_trueScore_22 : decode cX9_trueScore 22 = .ok (.aload_n 0, 1) := by decide +kernel
theorem dX9_trueScore_23 : decode cX9_trueScore 23 = .ok (.getfield 11, 3) := by decide +kernel
theorem dX9_trueScore_26 : decode cX9_trueScore 26 = .ok (.iload_n 2, 1) := by decide +kernel
theorem dX9_trueScore_27 : decode cX9_trueScore 27 = .ok (.aaload, 1) := by decide +kernel
theorem dX9_trueScore_28 : decode cX9_trueScore 28 = .ok (.getfield 71, 3) := by decide +kernel
theorem dX9_trueScore_31 : decode cX9_trueScore 31 = .ok (.imul, 1) := by decide +kernel
theorem dX9_trueScore_32 : decode cX9_trueScore 32 = .ok (.iconst 4, 1) := by decide +kernel
theorem dX9_trueScore_33 : decode cX9_trueScore 33 = .ok (.iload_n 3, 1) := by decide +kernel
theorem dX9_trueScore_34 : decode cX9_trueScore 34 = .ok (.ifCond .ge 8, 3) := by decide +kernel
theorem dX9_trueScore_37 : decode cX9_trueScore 37 = .ok (.iload_n 3, 1) := by decide +kernel
theorem dX9_trueScore_38 : decode cX9_trueScore 38 = .ok (.ineg, 1) := by decide +kernel
theorem dX9_trueScore_39 : decode cX9_trueScore 39 = .ok (.goto 4, 3) := by decide +kernel
theorem dX9_trueScore_42 : decode cX9_trueScore 42 = .ok (.iload_n 3, 1) := by decide +kernel
theorem dX9_trueScore_43 : decode cX9_trueScore 43 = .ok (.imul, 1) := by decide +kernel
theorem dX9_trueScore_44 : decode cX9_trueScore 44 = .ok (.isub, 1) := by decide +kernel
theorem dX9_trueScore_45 : decode cX9_trueScore 45 = .ok (.ireturn, 1) := by decide +kernel
theorem dX9_scoreSeen_0 : decode cX9_scoreSeen 0 = .ok (.aload_n 0, 1) := by decide +kernel
theorem dX9_scoreSeen_1 : decode cX9_scoreSeen 1 = .ok (.getfield 19, 3) := by decide +kernel
theorem dX9_scoreSeen_4 : decode cX9_scoreSeen 4 = .ok (.iload_n 1, 1) := by decide +kernel
theorem dX9_scoreSeen_5 : decode cX9_scoreSeen 5 = .ok (.aaload, 1) := by decide +kernel
theorem dX9_scoreSeen_6 : decode cX9_scoreSeen 6 = .ok (.iload_n 2, 1) := by decide +kernel
theorem dX9_scoreSeen_7 : decode cX9_scoreSeen 7 = .ok (.invokevirtual 74, 3) := by decide +kernel
theorem dX9_scoreSeen_10 : decode cX9_scoreSeen 10 = .ok (.ifCond .eq 12, 3) := by decide +kernel
theorem dX9_scoreSeen_13 : decode cX9_scoreSeen 13 = .ok (.aload_n 0, 1) := by decide +kernel
theorem dX9_scoreSeen_14 : decode cX9_scoreSeen 14 = .ok (.iload_n 1, 1) := by decide +kernel
theorem dX9_scoreSeen_15 : decode cX9_scoreSeen 15 = .ok (.iload_n 2, 1) := by decide +kernel
theorem dX9_scoreSeen_16 : decode cX9_scoreSeen 16 = .ok (.invokevirtual 78, 3) := by decide +kernel
theorem dX9_scoreSeen_19 : decode cX9_scoreSeen 19 = .ok (.goto 5, 3) := by decide +kernel
theorem dX9_scoreSeen_22 : decode cX9_scoreSeen 22 = .ok (.bipush 30, 2) := by decide +kernel
theorem dX9_scoreSeen_24 : decode cX9_scoreSeen 24 = .ok (.ireturn, 1) := by decide +kernel
theorem dX9_reasonAt_0 : decode cX9_reasonAt 0 = .ok (.aload_n 0, 1) := by decide +kernel
theorem dX9_reasonAt_1 : decode cX9_reasonAt 1 = .ok (.getfield 19, 3) := by decide +kernel
theorem dX9_reasonAt_4 : decode cX9_reasonAt 4 = .ok (.iload_n 1, 1) := by decide +kernel
theorem dX9_reasonAt_5 : decode cX9_reasonAt 5 = .ok (.aaload, 1) := by decide +kernel
theorem dX9_reasonAt_6 : decode cX9_reasonAt 6 = .ok (.getfield 82, 3) := by decide +kernel
theorem dX9_reasonAt_9 : decode cX9_reasonAt 9 = .ok (.aload_n 0, 1) := by decide +kernel
theorem dX9_reasonAt_10 : decode cX9_reasonAt 10 = .ok (.getfield 11, 3) := by decide +kernel
theorem dX9_reasonAt_13 : decode cX9_reasonAt 13 = .ok (.iload_n 2, 1) := by decide +kernel
theorem dX9_reasonAt_14 : decode cX9_reasonAt 14 = .ok (.aaload, 1) := by decide +kernel
theorem dX9_reasonAt_15 : decode cX9_reasonAt 15 = .ok (.getfield 85, 3) := by decide +kernel
theorem dX9_reasonAt_18 : decode cX9_reasonAt 18 = .ok (.if_icmp .ge 5, 3) := by decide +kernel
theorem dX9_reasonAt_21 : decode cX9_reasonAt 21 = .ok (.iconst 1, 1) := by decide +kernel
theorem dX9_reasonAt_22 : decode cX9_reasonAt 22 = .ok (.ireturn, 1) := by decide +kernel
theorem dX9_reasonAt_23 : decode cX9_reasonAt 23 = .ok (.iload_n 3, 1) := by decide +kernel
theorem dX9_reasonAt_24 : decode cX9_reasonAt 24 = .ok (.iconst 1, 1) := by decide +kernel
theorem dX9_reasonAt_25 : decode cX9_reasonAt 25 = .ok (.if_icmp .ge 5, 3) := by decide +kernel
theorem dX9_reasonAt_28 : decode cX9_reasonAt 28 = .ok (.iconst 2, 1) := by decide +kernel
theorem dX9_reasonAt_29 : decode cX9_reasonAt 29 = .ok (.ireturn, 1) := by decide +kernel
theorem dX9_reasonAt_30 : decode cX9_reasonAt 30 = .ok (.aload_n 0, 1) := by decide +kernel
theorem dX9_reasonAt_31 : decode cX9_reasonAt 31 = .ok (.getfield 19, 3) := by decide +kernel
theorem dX9_reasonAt_34 : decode cX9_reasonAt 34 = .ok (.iload_n 1, 1) := by decide +kernel
theorem dX9_reasonAt_35 : decode cX9_reasonAt 35 = .ok (.aaload, 1) := by decide +kernel
theorem dX9_reasonAt_36 : decode cX9_reasonAt 36 = .ok (.iload_n 2, 1) := by decide +kernel
theorem dX9_reasonAt_37 : decode cX9_reasonAt 37 = .ok (.invokevirtual 88, 3) := by decide +kernel
theorem dX9_reasonAt_40 : decode cX9_reasonAt 40 = .ok (.ifCond .eq 7, 3) := by decide +kernel
theorem dX9_reasonAt_43 : decode cX9_reasonAt 43 = .ok (.iconst 3, 1) := by decide +kernel
theorem dX9_reasonAt_44 : decode cX9_reasonAt 44 = .ok (.goto 4, 3) := by decide +kernel
theorem dX9_reasonAt_47 : decode cX9_reasonAt 47 = .ok (.iconst 0, 1) := by decide +kernel
theorem dX9_reasonAt_48 : decode cX9_reasonAt 48 = .ok (.ireturn, 1) := by decide +kernel
theorem dX9_isAcceptable_0 : decode cX9_isAcceptable 0 = .ok (.aload_n 0, 1) := by decide +kernel
theorem dX9_isAcceptable_1 : decode cX9_isAcceptable 1 = .ok (.iload_n 1, 1) := by decide +kernel
theorem dX9_isAcceptable_2 : decode cX9_isAcceptable 2 = .ok (.iload_n 2, 1) := by decide +kernel
theorem dX9_isAcceptable_3 : decode cX9_isAcceptable 3 = .ok (.aload_n 0, 1) := by decide +kernel
theorem dX9_isAcceptable_4 : decode cX9_isAcceptable 4 = .ok (.iload_n 1, 1) := by decide +kernel
theorem dX9_isAcceptable_5 : decode cX9_isAcceptable 5 = .ok (.iload_n 2, 1) := by decide +kernel
theorem dX9_isAcceptable_6 : decode cX9_isAcceptable 6 = .ok (.invokevirtual 91, 3) := by decide +kernel
theorem dX9_isAcceptable_9 : decode cX9_isAcceptable 9 = .ok (.invokevirtual 94, 3) := by decide +kernel
theorem dX9_isAcceptable_12 : decode cX9_isAcceptable 12 = .ok (.ifCond .ne 7, 3) := by decide +kernel
theorem dX9_isAcceptable_15 : decode cX9_isAcceptable 15 = .ok (.iconst 1, 1) := by decide +kernel
theorem dX9_isAcceptable_16 : decode cX9_isAcceptable 16 = .ok (.goto 4, 3) := by decide +kernel
theorem dX9_isAcceptable_19 : decode cX9_isAcceptable 19 = .ok (.iconst 0, 1) := by decide +kernel
theorem dX9_isAcceptable_20 : decode cX9_isAcceptable 20 = .ok (.ireturn, 1) := by decide +kernel
theorem dX9_paysBetter_0 : decode cX9_paysBetter 0 = .ok (.aload_n 0, 1) := by decide +kernel
theorem dX9_paysBetter_1 : decode cX9_paysBetter 1 = .ok (.getfield 19, 3) := by decide +kernel
theorem dX9_paysBetter_4 : decode cX9_paysBetter 4 = .ok (.iload_n 1, 1) := by decide +kernel
theorem dX9_paysBetter_5 : decode cX9_paysBetter 5 = .ok (.aaload, 1) := by decide +kernel
theorem dX9_paysBetter_6 : decode cX9_paysBetter 6 = .ok (.getfield 82, 3) := by decide +kernel
theorem dX9_paysBetter_9 : decode cX9_paysBetter 9 = .ok (.istore_n 3, 1) := by decide +kernel
theorem dX9_paysBetter_10 : decode cX9_paysBetter 10 = .ok (.aload_n 0, 1) := by decide +kernel
theorem dX9_paysBetter_11 : decode cX9_paysBetter 11 = .ok (.getfield 19, 3) := by decide +kernel
theorem dX9_paysBetter_14 : decode cX9_paysBetter 14 = .ok (.iload_n 2, 1) := by decide +kernel
theorem dX9_paysBetter_15 : decode cX9_paysBetter 15 = .ok (.aaload, 1) := by decide +kernel
theorem dX9_paysBetter_16 : decode cX9_paysBetter 16 = .ok (.getfield 82, 3) := by decide +kernel
theorem dX9_paysBetter_19 : decode cX9_paysBetter 19 = .ok (.istore 4, 2) := by decide +kernel
theorem dX9_paysBetter_21 : decode cX9_paysBetter 21 = .ok (.iload_n 3, 1) := by decide +kernel
theorem dX9_paysBetter_22 : decode cX9_paysBetter 22 = .ok (.iload 4, 2) := by decide +kernel
theorem dX9_paysBetter_24 : decode cX9_paysBetter 24 = .ok (.if_icmp .gt 14, 3) := by decide +kernel
theorem dX9_paysBetter_27 : decode cX9_paysBetter 27 = .ok (.iload_n 3, 1) := by decide +kernel
theorem dX9_paysBetter_28 : decode cX9_paysBetter 28 = .ok (.iload 4, 2) := by decide +kernel
theorem dX9_paysBetter_30 : decode cX9_paysBetter 30 = .ok (.if_icmp .ne 12, 3) := by decide +kernel
theorem dX9_paysBetter_33 : decode cX9_paysBetter 33 = .ok (.iload_n 1, 1) := by decide +kernel
theorem dX9_paysBetter_34 : decode cX9_paysBetter 34 = .ok (.iload_n 2, 1) := by decide +kernel
theorem dX9_paysBetter_35 : decode cX9_paysBetter 35 = .ok (.if_icmp .ge 7, 3) := by decide +kernel
theorem dX9_paysBetter_38 : decode cX9_paysBetter 38 = .ok (.iconst 1, 1) := by decide +kernel
theorem dX9_paysBetter_39 : decode cX9_paysBetter 39 = .ok (.goto 4, 3) := by decide +kernel
theorem dX9_paysBetter_42 : decode cX9_paysBetter 42 = .ok (.iconst 0, 1) := by decide +kernel
theorem dX9_paysBetter_43 : decode cX9_paysBetter 43 = .ok (.ireturn, 1) := by decide +kernel
theorem dX9_prefersEcho_0 : decode cX9_prefersEcho 0 = .ok (.aload_n 0, 1) := by decide +kernel
theorem dX9_prefersEcho_1 : decode cX9_prefersEcho 1 = .ok (.iload_n 1, 1) := by decide +kernel
theorem dX9_prefersEcho_2 : decode cX9_prefersEcho 2 = .ok (.iload_n 2, 1) := by decide +kernel
theorem dX9_prefersEcho_3 : decode cX9_prefersEcho 3 = .ok (.invokevirtual 91, 3) := by decide +kernel
theorem dX9_prefersEcho_6 : decode cX9_prefersEcho 6 = .ok (.istore 4, 2) := by decide +kernel
theorem dX9_prefersEcho_8 : decode cX9_prefersEcho 8 = .ok (.aload_n 0, 1) := by decide +kernel
theorem dX9_prefersEcho_9 : decode cX9_prefersEcho 9 = .ok (.iload_n 1, 1) := by decide +kernel
theorem dX9_prefersEcho_10 : decode cX9_prefersEcho 10 = .ok (.iload_n 3, 1) := by decide +kernel
theorem dX9_prefersEcho_11 : decode cX9_prefersEcho 11 = .ok (.invokevirtual 91, 3) := by decide +kernel
theorem dX9_prefersEcho_14 : decode cX9_prefersEcho 14 = .ok (.istore 5, 2) := by decide +kernel
theorem dX9_prefersEcho_16 : decode cX9_prefersEcho 16 = .ok (.iload 4, 2) := by decide +kernel
theorem dX9_prefersEcho_18 : decode cX9_prefersEcho 18 = .ok (.iload 5, 2) := by decide +kernel
theorem dX9_prefersEcho_20 : decode cX9_prefersEcho 20 = .ok (.if_icmp .gt 15, 3) := by decide +kernel
theorem dX9_prefersEcho_23 : decode cX9_prefersEcho 23 = .ok (.iload 4, 2) := by decide +kernel
theorem dX9_prefersEcho_25 : decode cX9_prefersEcho 25 = .ok (.iload 5, 2) := by decide +kernel
theorem dX9_prefersEcho_27 : decode cX9_prefersEcho 27 = .ok (.if_icmp .ne 12, 3) := by decide +kernel
theorem dX9_prefersEcho_30 : decode cX9_prefersEcho 30 = .ok (.iload_n 2, 1) := by decide +kernel
theorem dX9_prefersEcho_31 : decode cX9_prefersEcho 31 = .ok (.iload_n 3, 1) := by decide +kernel
theorem dX9_prefersEcho_32 : decode cX9_prefersEcho 32 = .ok (.if_icmp .ge 7, 3) := by decide +kernel
theorem dX9_prefersEcho_35 : decode cX9_prefersEcho 35 = .ok (.iconst 1, 1) := by decide +kernel
theorem dX9_prefersEcho_36 : decode cX9_prefersEcho 36 = .ok (.goto 4, 3) := by decide +kernel
theorem dX9_prefersEcho_39 : decode cX9_prefersEcho 39 = .ok (.iconst 0, 1) := by decide +kernel
theorem dX9_prefersEcho_40 : decode cX9_prefersEcho 40 = .ok (.ireturn, 1) := by decide +kernel
theorem dX9_rankOfValley_0 : decode cX9_rankOfValley 0 = .ok (.iconst 0, 1) := by decide +kernel
theorem dX9_rankOfValley_1 : decode cX9_rankOfValley 1 = .ok (.istore_n 3, 1) := by decide +kernel
theorem dX9_rankOfValley_2 : decode cX9_rankOfValley 2 = .ok (.iconst 0, 1) := by decide +kernel
theorem dX9_rankOfValley_3 : decode cX9_rankOfValley 3 = .ok (.istore 4, 2) := by decide +kernel
theorem dX9_rankOfValley_5 : decode cX9_rankOfValley 5 = .ok (.iload 4, 2) := by decide +kernel
theorem dX9_rankOfValley_7 : decode cX9_rankOfValley 7 = .ok (.aload_n 0, 1) := by decide +kernel
theorem dX9_rankOfValley_8 : decode cX9_rankOfValley 8 = .ok (.getfield 29, 3) := by decide +kernel
theorem dX9_rankOfValley_11 : decode cX9_rankOfValley 11 = .ok (.if_icmp .ge 32, 3) := by decide +kernel
theorem dX9_rankOfValley_14 : decode cX9_rankOfValley 14 = .ok (.aload_n 0, 1) := by decide +kernel
theorem dX9_rankOfValley_15 : decode cX9_rankOfValley 15 = .ok (.iload 4, 2) := by decide +kernel
theorem dX9_rankOfValley_17 : decode cX9_rankOfValley 17 = .ok (.iload_n 2, 1) := by decide +kernel
theorem dX9_rankOfValley_18 : decode cX9_rankOfValley 18 = .ok (.invokevirtual 98, 3) := by decide +kernel
theorem dX9_rankOfValley_21 : decode cX9_rankOfValley 21 = .ok (.ifCond .eq 16, 3) := by decide +kernel
theorem dX9_rankOfValley_24 : decode cX9_rankOfValley 24 = .ok (.aload_n 0, 1) := by decide +kernel
theorem dX9_rankOfValley_25 : decode cX9_rankOfValley 25 = .ok (.iload 4, 2) := by decide +kernel
theorem dX9_rankOfValley_27 : decode cX9_rankOfValley 27 = .ok (.iload_n 1, 1) := by decide +kernel
theorem dX9_rankOfValley_28 : decode cX9_rankOfValley 28 = .ok (.invokevirtual 102, 3) := by decide +kernel
theorem dX9_rankOfValley_31 : decode cX9_rankOfValley 31 = .ok (.ifCond .eq 6, 3) := by decide +kernel
theorem dX9_rankOfValley_34 : decode cX9_rankOfValley 34 = .ok (.iinc 3 1, 3) := by decide +kernel
theorem dX9_rankOfValley_37 : decode cX9_rankOfValley 37 = .ok (.iinc 4 1, 3) := by decide +kernel
theorem dX9_rankOfValley_40 : decode cX9_rankOfValley 40 = .ok (.goto (-35), 3) := by decide +kernel
theorem dX9_rankOfValley_43 : decode cX9_rankOfValley 43 = .ok (.iload_n 3, 1) := by decide +kernel
theorem dX9_rankOfValley_44 : decode cX9_rankOfValley 44 = .ok (.ireturn, 1) := by decide +kernel
theorem dX9_rankOfEcho_0 : decode cX9_rankOfEcho 0 = .ok (.iconst 0, 1) := by decide +kernel
theorem dX9_rankOfEcho_1 : decode cX9_rankOfEcho 1 = .ok (.istore_n 3, 1) := by decide +kernel
theorem dX9_rankOfEcho_2 : decode cX9_rankOfEcho 2 = .ok (.iconst 0, 1) := by decide +kernel
theorem dX9_rankOfEcho_3 : decode cX9_rankOfEcho 3 = .ok (.istore 4, 2) := by decide +kernel
theorem dX9_rankOfEcho_5 : decode cX9_rankOfEcho 5 = .ok (.iload 4, 2) := by decide +kernel
theorem dX9_rankOfEcho_7 : decode cX9_rankOfEcho 7 = .ok (.aload_n 0, 1) := by decide +kernel
theorem dX9_rankOfEcho_8 : decode cX9_rankOfEcho 8 = .ok (.getfield 25, 3) := by decide +kernel
theorem dX9_rankOfEcho_11 : decode cX9_rankOfEcho 11 = .ok (.if_icmp .ge 33, 3) := by decide +kernel
theorem dX9_rankOfEcho_14 : decode cX9_rankOfEcho 14 = .ok (.aload_n 0, 1) := by decide +kernel
theorem dX9_rankOfEcho_15 : decode cX9_rankOfEcho 15 = .ok (.iload_n 1, 1) := by decide +kernel
theorem dX9_rankOfEcho_16 : decode cX9_rankOfEcho 16 = .ok (.iload 4, 2) := by decide +kernel
theorem dX9_rankOfEcho_18 : decode cX9_rankOfEcho 18 = .ok (.invokevirtual 98, 3) := by decide +kernel
theorem dX9_rankOfEcho_21 : decode cX9_rankOfEcho 21 = .ok (.ifCond .eq 17, 3) := by decide +kernel
theorem dX9_rankOfEcho_24 : decode cX9_rankOfEcho 24 = .ok (.aload_n 0, 1) := by decide +kernel
theorem dX9_rankOfEcho_25 : decode cX9_rankOfEcho 25 = .ok (.iload_n 1, 1) := by decide +kernel
theorem dX9_rankOfEcho_26 : decode cX9_rankOfEcho 26 = .ok (.iload 4, 2) := by decide +kernel
theorem dX9_rankOfEcho_28 : decode cX9_rankOfEcho 28 = .ok (.iload_n 2, 1) := by decide +kernel
theorem dX9_rankOfEcho_29 : decode cX9_rankOfEcho 29 = .ok (.invokevirtual 105, 3) := by decide +kernel
theorem dX9_rankOfEcho_32 : decode cX9_rankOfEcho 32 = .ok (.ifCond .eq 6, 3) := by decide +kernel
theorem dX9_rankOfEcho_35 : decode cX9_rankOfEcho 35 = .ok (.iinc 3 1, 3) := by decide +kernel
theorem dX9_rankOfEcho_38 : decode cX9_rankOfEcho 38 = .ok (.iinc 4 1, 3) := by decide +kernel
theorem dX9_rankOfEcho_41 : decode cX9_rankOfEcho 41 = .ok (.goto (-36), 3) := by decide +kernel
theorem dX9_rankOfEcho_44 : decode cX9_rankOfEcho 44 = .ok (.iload_n 3, 1) := by decide +kernel
theorem dX9_rankOfEcho_45 : decode cX9_rankOfEcho 45 = .ok (.ireturn, 1) := by decide +kernel
theorem dX9_isBlocking_0 : decode cX9_isBlocking 0 = .ok (.aload_n 0, 1) := by decide +kernel
theorem dX9_isBlocking_1 : decode cX9_isBlocking 1 = .ok (.getfield 11, 3) := by decide +kernel
theorem dX9_isBlocking_4 : decode cX9_isBlocking 4 = .ok (.iload_n 2, 1) := by decide +kernel
theorem dX9_isBlocking_5 : decode cX9_isBlocking 5 = .ok (.aaload, 1) := by decide +kernel
theorem dX9_isBlocking_6 : decode cX9_isBlocking 6 = .ok (.getfield 109, 3) := by decide +kernel
theorem dX9_isBlocking_9 : decode cX9_isBlocking 9 = .ok (.iload_n 1, 1) := by decide +kernel
theorem dX9_isBlocking_10 : decode cX9_isBlocking 10 = .ok (.if_icmp .eq 34, 3) := by decide +kernel
theorem dX9_isBlocking_13 : decode cX9_isBlocking 13 = .ok (.aload_n 0, 1) := by decide +kernel
theorem dX9_isBlocking_14 : decode cX9_isBlocking 14 = .ok (.iload_n 1, 1) := by decide +kernel
theorem dX9_isBlocking_15 : decode cX9_isBlocking 15 = .ok (.iload_n 2, 1) := by decide +kernel
theorem dX9_isBlocking_16 : decode cX9_isBlocking 16 = .ok (.invokevirtual 98, 3) := by decide +kernel
theorem dX9_isBlocking_19 : decode cX9_isBlocking 19 = .ok (.ifCond .eq 25, 3) := by decide +kernel
theorem dX9_isBlocking_22 : decode cX9_isBlocking 22 = .ok (.aload_n 0, 1) := by decide +kernel
theorem dX9_isBlocking_23 : decode cX9_isBlocking 23 = .ok (.iload_n 1, 1) := by decide +kernel
theorem dX9_isBlocking_24 : decode cX9_isBlocking 24 = .ok (.iload_n 2, 1) := by decide +kernel
theorem dX9_isBlocking_25 : decode cX9_isBlocking 25 = .ok (.invokevirtual 112, 3) := by decide +kernel
theorem dX9_isBlocking_28 : decode cX9_isBlocking 28 = .ok (.ifCond .eq 16, 3) := by decide +kernel
theorem dX9_isBlocking_31 : decode cX9_isBlocking 31 = .ok (.aload_n 0, 1) := by decide +kernel
theorem dX9_isBlocking_32 : decode cX9_isBlocking 32 = .ok (.iload_n 1, 1) := by decide +kernel
theorem dX9_isBlocking_33 : decode cX9_isBlocking 33 = .ok (.iload_n 2, 1) := by decide +kernel
theorem dX9_isBlocking_34 : decode cX9_isBlocking 34 = .ok (.invokevirtual 115, 3) := by decide +kernel
theorem dX9_isBlocking_37 : decode cX9_isBlocking 37 = .ok (.ifCond .eq 7, 3) := by decide +kernel
theorem dX9_isBlocking_40 : decode cX9_isBlocking 40 = .ok (.iconst 1, 1) := by decide +kernel
theorem dX9_isBlocking_41 : decode cX9_isBlocking 41 = .ok (.goto 4, 3) := by decide +kernel
theorem dX9_isBlocking_44 : decode cX9_isBlocking 44 = .ok (.iconst 0, 1) := by decide +kernel
theorem dX9_isBlocking_45 : decode cX9_isBlocking 45 = .ok (.ireturn, 1) := by decide +kernel
theorem dX9_wouldMove_0 : decode cX9_wouldMove 0 = .ok (.aload_n 0, 1) := by decide +kernel
theorem dX9_wouldMove_1 : decode cX9_wouldMove 1 = .ok (.getfield 11, 3) := by decide +kernel
theorem dX9_wouldMove_4 : decode cX9_wouldMove 4 = .ok (.iload_n 2, 1) := by decide +kernel
theorem dX9_wouldMove_5 : decode cX9_wouldMove 5 = .ok (.aaload, 1) := by decide +kernel
theorem dX9_wouldMove_6 : decode cX9_wouldMove 6 = .ok (.getfield 109, 3) := by decide +kernel
theorem dX9_wouldMove_9 : decode cX9_wouldMove 9 = .ok (.istore_n 3, 1) := by decide +kernel
theorem dX9_wouldMove_10 : decode cX9_wouldMove 10 = .ok (.iload_n 3, 1) := by decide +kernel
theorem dX9_wouldMove_11 : decode cX9_wouldMove 11 = .ok (.iconst (-1), 1) := by decide +kernel
theorem dX9_wouldMove_12 : decode cX9_wouldMove 12 = .ok (.if_icmp .eq 21, 3) := by decide +kernel
theorem dX9_wouldMove_15 : decode cX9_wouldMove 15 = .ok (.aload_n 0, 1) := by decide +kernel
theorem dX9_wouldMove_16 : decode cX9_wouldMove 16 = .ok (.iload_n 3, 1) := by decide +kernel
theorem dX9_wouldMove_17 : decode cX9_wouldMove 17 = .ok (.iload_n 2, 1) := by decide +kernel
theorem dX9_wouldMove_18 : decode cX9_wouldMove 18 = .ok (.invokevirtual 98, 3) := by decide +kernel
theorem dX9_wouldMove_21 : decode cX9_wouldMove 21 = .ok (.ifCond .eq 12, 3) := by decide +kernel
theorem dX9_wouldMove_24 : decode cX9_wouldMove 24 = .ok (.aload_n 0, 1) := by decide +kernel
theorem dX9_wouldMove_25 : decode cX9_wouldMove 25 = .ok (.iload_n 1, 1) := by decide +kernel
theorem dX9_wouldMove_26 : decode cX9_wouldMove 26 = .ok (.iload_n 3, 1) := by decide +kernel
theorem dX9_wouldMove_27 : decode cX9_wouldMove 27 = .ok (.invokevirtual 102, 3) := by decide +kernel
theorem dX9_wouldMove_30 : decode cX9_wouldMove 30 = .ok (.ifCond .eq 7, 3) := by decide +kernel
theorem dX9_wouldMove_33 : decode cX9_wouldMove 33 = .ok (.iconst 1, 1) := by decide +kernel
theorem dX9_wouldMove_34 : decode cX9_wouldMove 34 = .ok (.goto 4, 3) := by decide +kernel
theorem dX9_wouldMove_37 : decode cX9_wouldMove 37 = .ok (.iconst 0, 1) := by decide +kernel
theorem dX9_wouldMove_38 : decode cX9_wouldMove 38 = .ok (.ireturn, 1) := by decide +kernel
theorem dX9_wouldTake_0 : decode cX9_wouldTake 0 = .ok (.aload_n 0, 1) := by decide +kernel
theorem dX9_wouldTake_1 : decode cX9_wouldTake 1 = .ok (.getfield 19, 3) := by decide +kernel
theorem dX9_wouldTake_4 : decode cX9_wouldTake 4 = .ok (.iload_n 1, 1) := by decide +kernel
theorem dX9_wouldTake_5 : decode cX9_wouldTake 5 = .ok (.aaload, 1) := by decide +kernel
theorem dX9_wouldTake_6 : decode cX9_wouldTake 6 = .ok (.astore_n 3, 1) := by decide +kernel
theorem dX9_wouldTake_7 : decode cX9_wouldTake 7 = .ok (.aload_n 3, 1) := by decide +kernel
theorem dX9_wouldTake_8 : decode cX9_wouldTake 8 = .ok (.invokevirtual 118, 3) := by decide +kernel
theorem dX9_wouldTake_11 : decode cX9_wouldTake 11 = .ok (.ifCond .eq 5, 3) := by decide +kernel
theorem dX9_wouldTake_14 : decode cX9_wouldTake 14 = .ok (.iconst 1, 1) := by decide +kernel
theorem dX9_wouldTake_15 : decode cX9_wouldTake 15 = .ok (.ireturn, 1) := by decide +kernel
theorem dX9_wouldTake_16 : decode cX9_wouldTake 16 = .ok (.iconst 0, 1) := by decide +kernel
theorem dX9_wouldTake_17 : decode cX9_wouldTake 17 = .ok (.istore 4, 2) := by decide +kernel
theorem dX9_wouldTake_19 : decode cX9_wouldTake 19 = .ok (.iload 4, 2) := by decide +kernel
theorem dX9_wouldTake_21 : decode cX9_wouldTake 21 = .ok (.aload_n 3, 1) := by decide +kernel
theorem dX9_wouldTake_22 : decode cX9_wouldTake 22 = .ok (.getfield 122, 3) := by decide +kernel
theorem dX9_wouldTake_25 : decode cX9_wouldTake 25 = .ok (.if_icmp .ge 27, 3) := by decide +kernel
theorem dX9_wouldTake_28 : decode cX9_wouldTake 28 = .ok (.aload_n 0, 1) := by decide +kernel
theorem dX9_wouldTake_29 : decode cX9_wouldTake 29 = .ok (.iload_n 1, 1) := by decide +kernel
theorem dX9_wouldTake_30 : decode cX9_wouldTake 30 = .ok (.iload_n 2, 1) := by decide +kernel
theorem dX9_wouldTake_31 : decode cX9_wouldTake 31 = .ok (.aload_n 3, 1) := by decide +kernel
theorem dX9_wouldTake_32 : decode cX9_wouldTake 32 = .ok (.getfield 125, 3) := by decide +kernel
theorem dX9_wouldTake_35 : decode cX9_wouldTake 35 = .ok (.iload 4, 2) := by decide +kernel
theorem dX9_wouldTake_37 : decode cX9_wouldTake 37 = .ok (.iaload, 1) := by decide +kernel
theorem dX9_wouldTake_38 : decode cX9_wouldTake 38 = .ok (.invokevirtual 105, 3) := by decide +kernel
theorem dX9_wouldTake_41 : decode cX9_wouldTake 41 = .ok (.ifCond .eq 5, 3) := by decide +kernel
theorem dX9_wouldTake_44 : decode cX9_wouldTake 44 = .ok (.iconst 1, 1) := by decide +kernel
theorem dX9_wouldTake_45 : decode cX9_wouldTake 45 = .ok (.ireturn, 1) := by decide +kernel
theorem dX9_wouldTake_46 : decode cX9_wouldTake 46 = .ok (.iinc 4 1, 3) := by decide +kernel
theorem dX9_wouldTake_49 : decode cX9_wouldTake 49 = .ok (.goto (-30), 3) := by decide +kernel
theorem dX9_wouldTake_52 : decode cX9_wouldTake 52 = .ok (.iconst 0, 1) := by decide +kernel
theorem dX9_wouldTake_53 : decode cX9_wouldTake 53 = .ok (.ireturn, 1) := by decide +kernel
theorem dX9_canTest_0 : decode cX9_canTest 0 = .ok (.aload_n 0, 1) := by decide +kernel
theorem dX9_canTest_1 : decode cX9_canTest 1 = .ok (.getfield 19, 3) := by decide +kernel
theorem dX9_canTest_4 : decode cX9_canTest 4 = .ok (.iload_n 1, 1) := by decide +kernel
theorem dX9_canTest_5 : decode cX9_canTest 5 = .ok (.aaload, 1) := by decide +kernel
theorem dX9_canTest_6 : decode cX9_canTest 6 = .ok (.iload_n 2, 1) := by decide +kernel
theorem dX9_canTest_7 : decode cX9_canTest 7 = .ok (.invokevirtual 74, 3) := by decide +kernel
theorem dX9_canTest_10 : decode cX9_canTest 10 = .ok (.ifCond .ne 20, 3) := by decide +kernel
theorem dX9_canTest_13 : decode cX9_canTest 13 = .ok (.aload_n 0, 1) := by decide +kernel
theorem dX9_canTest_14 : decode cX9_canTest 14 = .ok (.getfield 11, 3) := by decide +kernel
theorem dX9_canTest_17 : decode cX9_canTest 17 = .ok (.iload_n 2, 1) := by decide +kernel
theorem dX9_canTest_18 : decode cX9_canTest 18 = .ok (.aaload, 1) := by decide +kernel
theorem dX9_canTest_19 : decode cX9_canTest 19 = .ok (.getfield 109, 3) := by decide +kernel
theorem dX9_canTest_22 : decode cX9_canTest 22 = .ok (.iconst (-1), 1) := by decide +kernel
theorem dX9_canTest_23 : decode cX9_canTest 23 = .ok (.if_icmp .ne 7, 3) := by decide +kernel
theorem dX9_canTest_26 : decode cX9_canTest 26 = .ok (.iconst 1, 1) := by decide +kernel
theorem dX9_canTest_27 : decode cX9_canTest 27 = .ok (.goto 4, 3) := by decide +kernel
theorem dX9_canTest_30 : decode cX9_canTest 30 = .ok (.iconst 0, 1) := by decide +kernel
theorem dX9_canTest_31 : decode cX9_canTest 31 = .ok (.ireturn, 1) := by decide +kernel
theorem dX9_employ_0 : decode cX9_employ 0 = .ok (.aload_n 0, 1) := by decide +kernel
theorem dX9_employ_1 : decode cX9_employ 1 = .ok (.getfield 19, 3) := by decide +kernel
theorem dX9_employ_4 : decode cX9_employ 4 = .ok (.iload_n 1, 1) := by decide +kernel
theorem dX9_employ_5 : decode cX9_employ 5 = .ok (.aaload, 1) := by decide +kernel
theorem dX9_employ_6 : decode cX9_employ 6 = .ok (.iload_n 2, 1) := by decide +kernel
theorem dX9_employ_7 : decode cX9_employ 7 = .ok (.invokevirtual 129, 3) := by decide +kernel
theorem dX9_employ_10 : decode cX9_employ 10 = .ok (.aload_n 0, 1) := by decide +kernel
theorem dX9_employ_11 : decode cX9_employ 11 = .ok (.getfield 11, 3) := by decide +kernel
theorem dX9_employ_14 : decode cX9_employ 14 = .ok (.iload_n 2, 1) := by decide +kernel
theorem dX9_employ_15 : decode cX9_employ 15 = .ok (.aaload, 1) := by decide +kernel
theorem dX9_employ_16 : decode cX9_employ 16 = .ok (.iload_n 1, 1) := by decide +kernel
theorem dX9_employ_17 : decode cX9_employ 17 = .ok (.putfield 109, 3) := by decide +kernel
theorem dX9_employ_20 : decode cX9_employ 20 = .ok (.aload_n 0, 1) := by decide +kernel
theorem dX9_employ_21 : decode cX9_employ 21 = .ok (.dup, 1) := by decide +kernel
theorem dX9_employ_22 : decode cX9_employ 22 = .ok (.getfield 35, 3) := by decide +kernel
theorem dX9_employ_25 : decode cX9_employ 25 = .ok (.iconst 1, 1) := by decide +kernel
theorem dX9_employ_26 : decode cX9_employ 26 = .ok (.iadd, 1) := by decide +kernel
theorem dX9_employ_27 : decode cX9_employ 27 = .ok (.putfield 35, 3) := by decide +kernel
theorem dX9_employ_30 : decode cX9_employ 30 = .ok (.return_, 1) := by decide +kernel
theorem dX9_endContract_0 : decode cX9_endContract 0 = .ok (.aload_n 0, 1) := by decide +kernel
theorem dX9_endContract_1 : decode cX9_endContract 1 = .ok (.getfield 11, 3) := by decide +kernel
theorem dX9_endContract_4 : decode cX9_endContract 4 = .ok (.iload_n 1, 1) := by decide +kernel
theorem dX9_endContract_5 : decode cX9_endContract 5 = .ok (.aaload, 1) := by decide +kernel
theorem dX9_endContract_6 : decode cX9_endContract 6 = .ok (.getfield 109, 3) := by decide +kernel
theorem dX9_endContract_9 : decode cX9_endContract 9 = .ok (.istore_n 2, 1) := by decide +kernel
theorem dX9_endContract_10 : decode cX9_endContract 10 = .ok (.iload_n 2, 1) := by decide +kernel
theorem dX9_endContract_11 : decode cX9_endContract 11 = .ok (.iconst (-1), 1) := by decide +kernel
theorem dX9_endContract_12 : decode cX9_endContract 12 = .ok (.if_icmp .ne 4, 3) := by decide +kernel
theorem dX9_endContract_15 : decode cX9_endContract 15 = .ok (.return_, 1) := by decide +kernel
theorem dX9_endContract_16 : decode cX9_endContract 16 = .ok (.aload_n 0, 1) := by decide +kernel
theorem dX9_endContract_17 : decode cX9_endContract 17 = .ok (.getfield 19, 3) := by decide +kernel
theorem dX9_endContract_20 : decode cX9_endContract 20 = .ok (.iload_n 2, 1) := by decide +kernel
theorem dX9_endContract_21 : decode cX9_endContract 21 = .ok (.aaload, 1) := by decide +kernel
theorem dX9_endContract_22 : decode cX9_endContract 22 = .ok (.iload_n 1, 1) := by decide +kernel
theorem dX9_endContract_23 : decode cX9_endContract 23 = .ok (.invokevirtual 133, 3) := by decide +kernel
theorem dX9_endContract_26 : decode cX9_endContract 26 = .ok (.aload_n 0, 1) := by decide +kernel
theorem dX9_endContract_27 : decode cX9_endContract 27 = .ok (.getfield 11, 3) := by decide +kernel
theorem dX9_endContract_30 : decode cX9_endContract 30 = .ok (.iload_n 1, 1) := by decide +kernel
theorem dX9_endContract_31 : decode cX9_endContract 31 = .ok (.aaload, 1) := by decide +kernel
theorem dX9_endContract_32 : decode cX9_endContract 32 = .ok (.iconst (-1), 1) := by decide +kernel
theorem dX9_endContract_33 : decode cX9_endContract 33 = .ok (.putfield 109, 3) := by decide +kernel
theorem dX9_endContract_36 : decode cX9_endContract 36 = .ok (.aload_n 0, 1) := by decide +kernel
theorem dX9_endContract_37 : decode cX9_endContract 37 = .ok (.getfield 11, 3) := by decide +kernel
theorem dX9_endContract_40 : decode cX9_endContract 40 = .ok (.iload_n 1, 1) := by decide +kernel
theorem dX9_endContract_41 : decode cX9_endContract 41 = .ok (.aaload, 1) := by decide +kernel
theorem dX9_endContract_42 : decode cX9_endContract 42 = .ok (.iconst 0, 1) := by decide +kernel
theorem dX9_endContract_43 : decode cX9_endContract 43 = .ok (.putfield 136, 3) := by decide +kernel
theorem dX9_endContract_46 : decode cX9_endContract 46 = .ok (.aload_n 0, 1) := by decide +kernel
theorem dX9_endContract_47 : decode cX9_endContract 47 = .ok (.dup, 1) := by decide +kernel
theorem dX9_endContract_48 : decode cX9_endContract 48 = .ok (.getfield 38, 3) := by decide +kernel
theorem dX9_endContract_51 : decode cX9_endContract 51 = .ok (.iconst 1, 1) := by decide +kernel
theorem dX9_endContract_52 : decode cX9_endContract 52 = .ok (.iadd, 1) := by decide +kernel
theorem dX9_endContract_53 : decode cX9_endContract 53 = .ok (.putfield 38, 3) := by decide +kernel
theorem dX9_endContract_56 : decode cX9_endContract 56 = .ok (.return_, 1) := by decide +kernel
theorem dX9_endSeason_0 : decode cX9_endSeason 0 = .ok (.iconst 0, 1) := by decide +kernel
theorem dX9_endSeason_1 : decode cX9_endSeason 1 = .ok (.istore_n 1, 1) := by decide +kernel
theorem dX9_endSeason_2 : decode cX9_endSeason 2 = .ok (.iload_n 1, 1) := by decide +kernel
theorem dX9_endSeason_3 : decode cX9_endSeason 3 = .ok (.aload_n 0, 1) := by decide +kernel
theorem dX9_endSeason_4 : decode cX9_endSeason 4 = .ok (.getfield 25, 3) := by decide +kernel
theorem dX9_endSeason_7 : decode cX9_endSeason 7 = .ok (.if_icmp .ge 14, 3) := by decide +kernel
theorem dX9_endSeason_10 : decode cX9_endSeason 10 = .ok (.aload_n 0, 1) := by decide +kernel
theorem dX9_endSeason_11 : decode cX9_endSeason 11 = .ok (.iload_n 1, 1) := by decide +kernel
theorem dX9_endSeason_12 : decode cX9_endSeason 12 = .ok (.invokevirtual 139, 3) := by decide +kernel
theorem dX9_endSeason_15 : decode cX9_endSeason 15 = .ok (.iinc 1 1, 3) := by decide +kernel
theorem dX9_endSeason_18 : decode cX9_endSeason 18 = .ok (.goto (-16), 3) := by decide +kernel
theorem dX9_endSeason_21 : decode cX9_endSeason 21 = .ok (.iconst 0, 1) := by decide +kernel
theorem dX9_endSeason_22 : decode cX9_endSeason 22 = .ok (.istore_n 1, 1) := by decide +kernel
theorem dX9_endSeason_23 : decode cX9_endSeason 23 = .ok (.iload_n 1, 1) := by decide +kernel
theorem dX9_endSeason_24 : decode cX9_endSeason 24 = .ok (.aload_n 0, 1) := by decide +kernel
theorem dX9_endSeason_25 : decode cX9_endSeason 25 = .ok (.getfield 29, 3) := by decide +kernel
theorem dX9_endSeason_28 : decode cX9_endSeason 28 = .ok (.if_icmp .ge 19, 3) := by decide +kernel
theorem dX9_endSeason_31 : decode cX9_endSeason 31 = .ok (.aload_n 0, 1) := by decide +kernel
theorem dX9_endSeason_32 : decode cX9_endSeason 32 = .ok (.getfield 19, 3) := by decide +kernel
theorem dX9_endSeason_35 : decode cX9_endSeason 35 = .ok (.iload_n 1, 1) := by decide +kernel
theorem dX9_endSeason_36 : decode cX9_endSeason 36 = .ok (.aaload, 1) := by decide +kernel
theorem dX9_endSeason_37 : decode cX9_endSeason 37 = .ok (.iconst 0, 1) := by decide +kernel
theorem dX9_endSeason_38 : decode cX9_endSeason 38 = .ok (.putfield 142, 3) := by decide +kernel
theorem dX9_endSeason_41 : decode cX9_endSeason 41 = .ok (.iinc 1 1, 3) := by decide +kernel
theorem dX9_endSeason_44 : decode cX9_endSeason 44 = .ok (.goto (-21), 3) := by decide +kernel
theorem dX9_endSeason_47 : decode cX9_endSeason 47 = .ok (.return_, 1) := by decide +kernel
theorem dX9_work_0 : decode cX9_work 0 = .ok (.iconst 0, 1) := by decide +kernel
theorem dX9_work_1 : decode cX9_work 1 = .ok (.istore_n 1, 1) := by decide +kernel
theorem dX9_work_2 : decode cX9_work 2 = .ok (.iload_n 1, 1) := by decide +kernel
theorem dX9_work_3 : decode cX9_work 3 = .ok (.aload_n 0, 1) := by decide +kernel
theorem dX9_work_4 : decode cX9_work 4 = .ok (.getfield 29, 3) := by decide +kernel
theorem dX9_work_7 : decode cX9_work 7 = .ok (.if_icmp .ge 29, 3) := by decide +kernel
theorem dX9_work_10 : decode cX9_work 10 = .ok (.aload_n 0, 1) := by decide +kernel
theorem dX9_work_11 : decode cX9_work 11 = .ok (.aload_n 0, 1) := by decide +kernel
theorem dX9_work_12 : decode cX9_work 12 = .ok (.getfield 19, 3) := by decide +kernel
theorem dX9_work_15 : decode cX9_work 15 = .ok (.iload_n 1, 1) := by decide +kernel
theorem dX9_work_16 : decode cX9_work 16 = .ok (.aaload, 1) := by decide +kernel
theorem dX9_work_17 : decode cX9_work 17 = .ok (.invokevirtual 145, 3) := by decide +kernel
theorem dX9_work_20 : decode cX9_work 20 = .ok (.aload_n 0, 1) := by decide +kernel
theorem dX9_work_21 : decode cX9_work 21 = .ok (.aload_n 0, 1) := by decide +kernel
theorem dX9_work_22 : decode cX9_work 22 = .ok (.getfield 19, 3) := by decide +kernel
theorem dX9_work_25 : decode cX9_work 25 = .ok (.iload_n 1, 1) := by decide +kernel
theorem dX9_work_26 : decode cX9_work 26 = .ok (.aaload, 1) := by decide +kernel
theorem dX9_work_27 : decode cX9_work 27 = .ok (.invokevirtual 148, 3) := by decide +kernel
theorem dX9_work_30 : decode cX9_work 30 = .ok (.iinc 1 1, 3) := by decide +kernel
theorem dX9_work_33 : decode cX9_work 33 = .ok (.goto (-31), 3) := by decide +kernel
theorem dX9_work_36 : decode cX9_work 36 = .ok (.return_, 1) := by decide +kernel
theorem dX9_hearReplies_0 : decode cX9_hearReplies 0 = .ok (.iconst 0, 1) := by decide +kernel
theorem dX9_hearReplies_1 : decode cX9_hearReplies 1 = .ok (.istore_n 2, 1) := by decide +kernel
theorem dX9_hearReplies_2 : decode cX9_hearReplies 2 = .ok (.iconst 0, 1) := by decide +kernel
theorem dX9_hearReplies_3 : decode cX9_hearReplies 3 = .ok (.istore_n 3, 1) := by decide +kernel
theorem dX9_hearReplies_4 : decode cX9_hearReplies 4 = .ok (.iload_n 3, 1) := by decide +kernel
theorem dX9_hearReplies_5 : decode cX9_hearReplies 5 = .ok (.aload_n 1, 1) := by decide +kernel
theorem dX9_hearReplies_6 : decode cX9_hearReplies 6 = .ok (.getfield 122, 3) := by decide +kernel
theorem dX9_hearReplies_9 : decode cX9_hearReplies 9 = .ok (.if_icmp .ge 41, 3) := by decide +kernel
theorem dX9_hearReplies_12 : decode cX9_hearReplies 12 = .ok (.aload_n 1, 1) := by decide +kernel
theorem dX9_hearReplies_13 : decode cX9_hearReplies 13 = .ok (.getfield 125, 3) := by decide +kernel
theorem dX9_hearReplies_16 : decode cX9_hearReplies 16 = .ok (.iload_n 3, 1) := by decide +kernel
theorem dX9_hearReplies_17 : decode cX9_hearReplies 17 = .ok (.iaload, 1) := by decide +kernel
theorem dX9_hearReplies_18 : decode cX9_hearReplies 18 = .ok (.istore 4, 2) := by decide +kernel
theorem dX9_hearReplies_20 : decode cX9_hearReplies 20 = .ok (.iload_n 2, 1) := by decide +kernel
theorem dX9_hearReplies_21 : decode cX9_hearReplies 21 = .ok (.aload_n 0, 1) := by decide +kernel
theorem dX9_hearReplies_22 : decode cX9_hearReplies 22 = .ok (.getfield 11, 3) := by decide +kernel
theorem dX9_hearReplies_25 : decode cX9_hearReplies 25 = .ok (.iload 4, 2) := by decide +kernel
theorem dX9_hearReplies_27 : decode cX9_hearReplies 27 = .ok (.aaload, 1) := by decide +kernel
theorem dX9_hearReplies_28 : decode cX9_hearReplies 28 = .ok (.getfield 71, 3) := by decide +kernel
theorem dX9_hearReplies_31 : decode cX9_hearReplies 31 = .ok (.iadd, 1) := by decide +kernel
theorem dX9_hearReplies_32 : decode cX9_hearReplies 32 = .ok (.istore_n 2, 1) := by decide +kernel
theorem dX9_hearReplies_33 : decode cX9_hearReplies 33 = .ok (.aload_n 1, 1) := by decide +kernel
theorem dX9_hearReplies_34 : decode cX9_hearReplies 34 = .ok (.getfield 151, 3) := by decide +kernel
theorem dX9_hearReplies_37 : decode cX9_hearReplies 37 = .ok (.iload 4, 2) := by decide +kernel
theorem dX9_hearReplies_39 : decode cX9_hearReplies 39 = .ok (.dup2, 1) := by decide +kernel
theorem dX9_hearReplies_40 : decode cX9_hearReplies 40 = .ok (.iaload, 1) := by decide +kernel
theorem dX9_hearReplies_41 : decode cX9_hearReplies 41 = .ok (.iconst 1, 1) := by decide +kernel
theorem dX9_hearReplies_42 : decode cX9_hearReplies 42 = .ok (.iadd, 1) := by decide +kernel
theorem dX9_hearReplies_43 : decode cX9_hearReplies 43 = .ok (.iastore, 1) := by decide +kernel
theorem dX9_hearReplies_44 : decode cX9_hearReplies 44 = .ok (.iinc 3 1, 3) := by decide +kernel
theorem dX9_hearReplies_47 : decode cX9_hearReplies 47 = .ok (.goto (-43), 3) := by decide +kernel
theorem dX9_hearReplies_50 : decode cX9_hearReplies 50 = .ok (.aload_n 1, 1) := by decide +kernel
theorem dX9_hearReplies_51 : decode cX9_hearReplies 51 = .ok (.dup, 1) := by decide +kernel
theorem dX9_hearReplies_52 : decode cX9_hearReplies 52 = .ok (.getfield 154, 3) := by decide +kernel
theorem dX9_hearReplies_55 : decode cX9_hearReplies 55 = .ok (.iload_n 2, 1) := by decide +kernel
theorem dX9_hearReplies_56 : decode cX9_hearReplies 56 = .ok (.iadd, 1) := by decide +kernel
theorem dX9_hearReplies_57 : decode cX9_hearReplies 57 = .ok (.putfield 154, 3) := by decide +kernel
theorem dX9_hearReplies_60 : decode cX9_hearReplies 60 = .ok (.aload_n 1, 1) := by decide +kernel
theorem dX9_hearReplies_61 : decode cX9_hearReplies 61 = .ok (.dup, 1) := by decide +kernel
theorem dX9_hearReplies_62 : decode cX9_hearReplies 62 = .ok (.getfield 157, 3) := by decide +kernel
theorem dX9_hearReplies_65 : decode cX9_hearReplies 65 = .ok (.aload_n 1, 1) := by decide +kernel
theorem dX9_hearReplies_66 : decode cX9_hearReplies 66 = .ok (.getfield 68, 3) := by decide +kernel
theorem dX9_hearReplies_69 : decode cX9_hearReplies 69 = .ok (.iload_n 2, 1) := by decide +kernel
theorem dX9_hearReplies_70 : decode cX9_hearReplies 70 = .ok (.imul, 1) := by decide +kernel
theorem dX9_hearReplies_71 : decode cX9_hearReplies 71 = .ok (.iadd, 1) := by decide +kernel
theorem dX9_hearReplies_72 : decode cX9_hearReplies 72 = .ok (.putfield 157, 3) := by decide +kernel
theorem dX9_hearReplies_75 : decode cX9_hearReplies 75 = .ok (.aload_n 0, 1) := by decide +kernel
theorem dX9_hearReplies_76 : decode cX9_hearReplies 76 = .ok (.dup, 1) := by decide +kernel
theorem dX9_hearReplies_77 : decode cX9_hearReplies 77 = .ok (.getfield 44, 3) := by decide +kernel
theorem dX9_hearReplies_80 : decode cX9_hearReplies 80 = .ok (.aload_n 1, 1) := by decide +kernel
theorem dX9_hearReplies_81 : decode cX9_hearReplies 81 = .ok (.getfield 68, 3) := by decide +kernel
theorem dX9_hearReplies_84 : decode cX9_hearReplies 84 = .ok (.iload_n 2, 1) := by decide +kernel
theorem dX9_hearReplies_85 : decode cX9_hearReplies 85 = .ok (.imul, 1) := by decide +kernel
theorem dX9_hearReplies_86 : decode cX9_hearReplies 86 = .ok (.iadd, 1) := by decide +kernel
theorem dX9_hearReplies_87 : decode cX9_hearReplies 87 = .ok (.putfield 44, 3) := by decide +kernel
theorem dX9_hearReplies_90 : decode cX9_hearReplies 90 = .ok (.return_, 1) := by decide +kernel
theorem dX9_payStaff_0 : decode cX9_payStaff 0 = .ok (.iconst 0, 1) := by decide +kernel
theorem dX9_payStaff_1 : decode cX9_payStaff 1 = .ok (.istore_n 2, 1) := by decide +kernel
theorem dX9_payStaff_2 : decode cX9_payStaff 2 = .ok (.iload_n 2, 1) := by decide +kernel
theorem dX9_payStaff_3 : decode cX9_payStaff 3 = .ok (.aload_n 1, 1) := by decide +kernel
theorem dX9_payStaff_4 : decode cX9_payStaff 4 = .ok (.getfield 122, 3) := by decide +kernel
theorem dX9_payStaff_7 : decode cX9_payStaff 7 = .ok (.if_icmp .ge 92, 3) := by decide +kernel
theorem dX9_payStaff_10 : decode cX9_payStaff 10 = .ok (.aload_n 0, 1) := by decide +kernel
theorem dX9_payStaff_11 : decode cX9_payStaff 11 = .ok (.getfield 11, 3) := by decide +kernel
theorem dX9_payStaff_14 : decode cX9_payStaff 14 = .ok (.aload_n 1, 1) := by decide +kernel
theorem dX9_payStaff_15 : decode cX9_payStaff 15 = .ok (.getfield 125, 3) := by decide +kernel
theorem dX9_payStaff_18 : decode cX9_payStaff 18 = .ok (.iload_n 2, 1) := by decide +kernel
theorem dX9_payStaff_19 : decode cX9_payStaff 19 = .ok (.iaload, 1) := by decide +kernel
theorem dX9_payStaff_20 : decode cX9_payStaff 20 = .ok (.aaload, 1) := by decide +kernel
theorem dX9_payStaff_21 : decode cX9_payStaff 21 = .ok (.astore_n 3, 1) := by decide +kernel
theorem dX9_payStaff_22 : decode cX9_payStaff 22 = .ok (.aload_n 1, 1) := by decide +kernel
theorem dX9_payStaff_23 : decode cX9_payStaff 23 = .ok (.getfield 82, 3) := by decide +kernel
theorem dX9_payStaff_26 : decode cX9_payStaff 26 = .ok (.aload_n 3, 1) := by decide +kernel
theorem dX9_payStaff_27 : decode cX9_payStaff 27 = .ok (.getfield 71, 3) := by decide +kernel
theorem dX9_payStaff_30 : decode cX9_payStaff 30 = .ok (.imul, 1) := by decide +kernel
theorem dX9_payStaff_31 : decode cX9_payStaff 31 = .ok (.istore 4, 2) := by decide +kernel
theorem dX9_payStaff_33 : decode cX9_payStaff 33 = .ok (.aload_n 1, 1) := by decide +kernel
theorem dX9_payStaff_34 : decode cX9_payStaff 34 = .ok (.getfield 157, 3) := by decide +kernel
theorem dX9_payStaff_37 : decode cX9_payStaff 37 = .ok (.iload 4, 2) := by decide +kernel
theorem dX9_payStaff_39 : decode cX9_payStaff 39 = .ok (.if_icmp .lt 44, 3) := by decide +kernel
theorem dX9_payStaff_42 : decode cX9_payStaff 42 = .ok (.aload_n 1, 1) := by decide +kernel
theorem dX9_payStaff_43 : decode cX9_payStaff 43 = .ok (.dup, 1) := by decide +kernel
theorem dX9_payStaff_44 : decode cX9_payStaff 44 = .ok (.getfield 157, 3) := by decide +kernel
theorem dX9_payStaff_47 : decode cX9_payStaff 47 = .ok (.iload 4, 2) := by decide +kernel
theorem dX9_payStaff_49 : decode cX9_payStaff 49 = .ok (.isub, 1) := by decide +kernel
theorem dX9_payStaff_50 : decode cX9_payStaff 50 = .ok (.putfield 157, 3) := by decide +kernel
theorem dX9_payStaff_53 : decode cX9_payStaff 53 = .ok (.aload_n 1, 1) := by decide +kernel
theorem dX9_payStaff_54 : decode cX9_payStaff 54 = .ok (.dup, 1) := by decide +kernel
theorem dX9_payStaff_55 : decode cX9_payStaff 55 = .ok (.getfield 160, 3) := by decide +kernel
theorem dX9_payStaff_58 : decode cX9_payStaff 58 = .ok (.iload 4, 2) := by decide +kernel
theorem dX9_payStaff_60 : decode cX9_payStaff 60 = .ok (.iadd, 1) := by decide +kernel
theorem dX9_payStaff_61 : decode cX9_payStaff 61 = .ok (.putfield 160, 3) := by decide +kernel
theorem dX9_payStaff_64 : decode cX9_payStaff 64 = .ok (.aload_n 3, 1) := by decide +kernel
theorem dX9_payStaff_65 : decode cX9_payStaff 65 = .ok (.dup, 1) := by decide +kernel
theorem dX9_payStaff_66 : decode cX9_payStaff 66 = .ok (.getfield 163, 3) := by decide +kernel
theorem dX9_payStaff_69 : decode cX9_payStaff 69 = .ok (.iload 4, 2) := by decide +kernel
theorem dX9_payStaff_71 : decode cX9_payStaff 71 = .ok (.iadd, 1) := by decide +kernel
theorem dX9_payStaff_72 : decode cX9_payStaff 72 = .ok (.putfield 163, 3) := by decide +kernel
theorem dX9_payStaff_75 : decode cX9_payStaff 75 = .ok (.aload_n 3, 1) := by decide +kernel
theorem dX9_payStaff_76 : decode cX9_payStaff 76 = .ok (.iconst 0, 1) := by decide +kernel
theorem dX9_payStaff_77 : decode cX9_payStaff 77 = .ok (.putfield 136, 3) := by decide +kernel
theorem dX9_payStaff_80 : decode cX9_payStaff 80 = .ok (.goto 13, 3) := by decide +kernel
theorem dX9_payStaff_83 : decode cX9_payStaff 83 = .ok (.aload_n 3, 1) := by decide +kernel
theorem dX9_payStaff_84 : decode cX9_payStaff 84 = .ok (.dup, 1) := by decide +kernel
theorem dX9_payStaff_85 : decode cX9_payStaff 85 = .ok (.getfield 136, 3) := by decide +kernel
theorem dX9_payStaff_88 : decode cX9_payStaff 88 = .ok (.iconst 1, 1) := by decide +kernel
theorem dX9_payStaff_89 : decode cX9_payStaff 89 = .ok (.iadd, 1) := by decide +kernel
theorem dX9_payStaff_90 : decode cX9_payStaff 90 = .ok (.putfield 136, 3) := by decide +kernel
theorem dX9_payStaff_93 : decode cX9_payStaff 93 = .ok (.iinc 2 1, 3) := by decide +kernel
theorem dX9_payStaff_96 : decode cX9_payStaff 96 = .ok (.goto (-94), 3) := by decide +kernel
theorem dX9_payStaff_99 : decode cX9_payStaff 99 = .ok (.return_, 1) := by decide +kernel
theorem dX9_desert_0 : decode cX9_desert 0 = .ok (.iconst 0, 1) := by decide +kernel
theorem dX9_desert_1 : decode cX9_desert 1 = .ok (.istore_n 2, 1) := by decide +kernel
theorem dX9_desert_2 : decode cX9_desert 2 = .ok (.iconst 0, 1) := by decide +kernel
theorem dX9_desert_3 : decode cX9_desert 3 = .ok (.istore_n 3, 1) := by decide +kernel
theorem dX9_desert_4 : decode cX9_desert 4 = .ok (.iload_n 3, 1) := by decide +kernel
theorem dX9_desert_5 : decode cX9_desert 5 = .ok (.aload_n 0, 1) := by decide +kernel
theorem dX9_desert_6 : decode cX9_desert 6 = .ok (.getfield 25, 3) := by decide +kernel
theorem dX9_desert_9 : decode cX9_desert 9 = .ok (.if_icmp .ge 80, 3) := by decide +kernel
theorem dX9_desert_12 : decode cX9_desert 12 = .ok (.aload_n 0, 1) := by decide +kernel
theorem dX9_desert_13 : decode cX9_desert 13 = .ok (.getfield 11, 3) := by decide +kernel
theorem dX9_desert_16 : decode cX9_desert 16 = .ok (.iload_n 3, 1) := by decide +kernel
theorem dX9_desert_17 : decode cX9_desert 17 = .ok (.aaload, 1) := by decide +kernel
theorem dX9_desert_18 : decode cX9_desert 18 = .ok (.getfield 109, 3) := by decide +kernel
theorem dX9_desert_21 : decode cX9_desert 21 = .ok (.istore 4, 2) := by decide +kernel
theorem dX9_desert_23 : decode cX9_desert 23 = .ok (.iload 4, 2) := by decide +kernel
theorem dX9_desert_25 : decode cX9_desert 25 = .ok (.iconst (-1), 1) := by decide +kernel
theorem dX9_desert_26 : decode cX9_desert 26 = .ok (.if_icmp .eq 57, 3) := by decide +kernel
theorem dX9_desert_29 : decode cX9_desert 29 = .ok (.aload_n 0, 1) := by decide +kernel
theorem dX9_desert_30 : decode cX9_desert 30 = .ok (.getfield 11, 3) := by decide +kernel
theorem dX9_desert_33 : decode cX9_desert 33 = .ok (.iload_n 3, 1) := by decide +kernel
theorem dX9_desert_34 : decode cX9_desert 34 = .ok (.aaload, 1) := by decide +kernel
theorem dX9_desert_35 : decode cX9_desert 35 = .ok (.iload_n 1, 1) := by decide +kernel
theorem dX9_desert_36 : decode cX9_desert 36 = .ok (.invokevirtual 166, 3) := by decide +kernel
theorem dX9_desert_39 : decode cX9_desert 39 = .ok (.ifCond .eq 44, 3) := by decide +kernel
theorem dX9_desert_42 : decode cX9_desert 42 = .ok (.aload_n 0, 1) := by decide +kernel
theorem dX9_desert_43 : decode cX9_desert 43 = .ok (.iload_n 3, 1) := by decide +kernel
theorem dX9_desert_44 : decode cX9_desert 44 = .ok (.invokevirtual 139, 3) := by decide +kernel
theorem dX9_desert_47 : decode cX9_desert 47 = .ok (.aload_n 0, 1) := by decide +kernel
theorem dX9_desert_48 : decode cX9_desert 48 = .ok (.getfield 19, 3) := by decide +kernel
theorem dX9_desert_51 : decode cX9_desert 51 = .ok (.iload 4, 2) := by decide +kernel
theorem dX9_desert_53 : decode cX9_desert 53 = .ok (.aaload, 1) := by decide +kernel
theorem dX9_desert_54 : decode cX9_desert 54 = .ok (.dup, 1) := by decide +kernel
theorem dX9_desert_55 : decode cX9_desert 55 = .ok (.getfield 142, 3) := by decide +kernel
theorem dX9_desert_58 : decode cX9_desert 58 = .ok (.iconst 1, 1) := by decide +kernel
theorem dX9_desert_59 : decode cX9_desert 59 = .ok (.iload_n 3, 1) := by decide +kernel
theorem dX9_desert_60 : decode cX9_desert 60 = .ok (.ishl, 1) := by decide +kernel
theorem dX9_desert_61 : decode cX9_desert 61 = .ok (.ior, 1) := by decide +kernel
theorem dX9_desert_62 : decode cX9_desert 62 = .ok (.putfield 142, 3) := by decide +kernel
theorem dX9_desert_65 : decode cX9_desert 65 = .ok (.aload_n 0, 1) := by decide +kernel
theorem dX9_desert_66 : decode cX9_desert 66 = .ok (.getfield 11, 3) := by decide +kernel
theorem dX9_desert_69 : decode cX9_desert 69 = .ok (.iload_n 3, 1) := by decide +kernel
theorem dX9_desert_70 : decode cX9_desert 70 = .ok (.aaload, 1) := by decide +kernel
theorem dX9_desert_71 : decode cX9_desert 71 = .ok (.dup, 1) := by decide +kernel
theorem dX9_desert_72 : decode cX9_desert 72 = .ok (.getfield 169, 3) := by decide +kernel
theorem dX9_desert_75 : decode cX9_desert 75 = .ok (.iconst 1, 1) := by decide +kernel
theorem dX9_desert_76 : decode cX9_desert 76 = .ok (.iadd, 1) := by decide +kernel
theorem dX9_desert_77 : decode cX9_desert 77 = .ok (.putfield 169, 3) := by decide +kernel
theorem dX9_desert_80 : decode cX9_desert 80 = .ok (.iinc 2 1, 3) := by decide +kernel
theorem dX9_desert_83 : decode cX9_desert 83 = .ok (.iinc 3 1, 3) := by decide +kernel
theorem dX9_desert_86 : decode cX9_desert 86 = .ok (.goto (-82), 3) := by decide +kernel
theorem dX9_desert_89 : decode cX9_desert 89 = .ok (.iload_n 2, 1) := by decide +kernel
theorem dX9_desert_90 : decode cX9_desert 90 = .ok (.ireturn, 1) := by decide +kernel
theorem dX9_putMoney_0 : decode cX9_putMoney 0 = .ok (.aload_n 0, 1) := by decide +kernel
theorem dX9_putMoney_1 : decode cX9_putMoney 1 = .ok (.getfield 19, 3) := by decide +kernel
theorem dX9_putMoney_4 : decode cX9_putMoney 4 = .ok (.iload_n 1, 1) := by decide +kernel
theorem dX9_putMoney_5 : decode cX9_putMoney 5 = .ok (.aaload, 1) := by decide +kernel
theorem dX9_putMoney_6 : decode cX9_putMoney 6 = .ok (.dup, 1) := by decide +kernel
theorem dX9_putMoney_7 : decode cX9_putMoney 7 = .ok (.getfield 157, 3) := by decide +kernel
theorem dX9_putMoney_10 : decode cX9_putMoney 10 = .ok (.iload_n 2, 1) := by decide +kernel
theorem dX9_putMoney_11 : decode cX9_putMoney 11 = .ok (.iadd, 1) := by decide +kernel
theorem dX9_putMoney_12 : decode cX9_putMoney 12 = .ok (.putfield 157, 3) := by decide +kernel
theorem dX9_putMoney_15 : decode cX9_putMoney 15 = .ok (.aload_n 0, 1) := by decide +kernel
theorem dX9_putMoney_16 : decode cX9_putMoney 16 = .ok (.dup, 1) := by decide +kernel
theorem dX9_putMoney_17 : decode cX9_putMoney 17 = .ok (.getfield 47, 3) := by decide +kernel
theorem dX9_putMoney_20 : decode cX9_putMoney 20 = .ok (.iload_n 2, 1) := by decide +kernel
theorem dX9_putMoney_21 : decode cX9_putMoney 21 = .ok (.iadd, 1) := by decide +kernel
theorem dX9_putMoney_22 : decode cX9_putMoney 22 = .ok (.putfield 47, 3) := by decide +kernel
theorem dX9_putMoney_25 : decode cX9_putMoney 25 = .ok (.return_, 1) := by decide +kernel
theorem dX9_teach_0 : decode cX9_teach 0 = .ok (.aload_n 0, 1) := by decide +kernel
theorem dX9_teach_1 : decode cX9_teach 1 = .ok (.getfield 11, 3) := by decide +kernel
theorem dX9_teach_4 : decode cX9_teach 4 = .ok (.iload_n 1, 1) := by decide +kernel
theorem dX9_teach_5 : decode cX9_teach 5 = .ok (.aaload, 1) := by decide +kernel
theorem dX9_teach_6 : decode cX9_teach 6 = .ok (.invokevirtual 172, 3) := by decide +kernel
theorem dX9_teach_9 : decode cX9_teach 9 = .ok (.istore_n 2, 1) := by decide +kernel
theorem dX9_teach_10 : decode cX9_teach 10 = .ok (.aload_n 0, 1) := by decide +kernel
theorem dX9_teach_11 : decode cX9_teach 11 = .ok (.getfield 11, 3) := by decide +kernel
theorem dX9_teach_14 : decode cX9_teach 14 = .ok (.iload_n 1, 1) := by decide +kernel
theorem dX9_teach_15 : decode cX9_teach 15 = .ok (.aaload, 1) := by decide +kernel
theorem dX9_teach_16 : decode cX9_teach 16 = .ok (.dup, 1) := by decide +kernel
theorem dX9_teach_17 : decode cX9_teach 17 = .ok (.getfield 163, 3) := by decide +kernel
theorem dX9_teach_20 : decode cX9_teach 20 = .ok (.iload_n 2, 1) := by decide +kernel
theorem dX9_teach_21 : decode cX9_teach 21 = .ok (.isub, 1) := by decide +kernel
theorem dX9_teach_22 : decode cX9_teach 22 = .ok (.putfield 163, 3) := by decide +kernel
theorem dX9_teach_25 : decode cX9_teach 25 = .ok (.aload_n 0, 1) := by decide +kernel
theorem dX9_teach_26 : decode cX9_teach 26 = .ok (.dup, 1) := by decide +kernel
theorem dX9_teach_27 : decode cX9_teach 27 = .ok (.getfield 50, 3) := by decide +kernel
theorem dX9_teach_30 : decode cX9_teach 30 = .ok (.iload_n 2, 1) := by decide +kernel
theorem dX9_teach_31 : decode cX9_teach 31 = .ok (.iadd, 1) := by decide +kernel
theorem dX9_teach_32 : decode cX9_teach 32 = .ok (.putfield 50, 3) := by decide +kernel
theorem dX9_teach_35 : decode cX9_teach 35 = .ok (.aload_n 0, 1) := by decide +kernel
theorem dX9_teach_36 : decode cX9_teach 36 = .ok (.getfield 11, 3) := by decide +kernel
theorem dX9_teach_39 : decode cX9_teach 39 = .ok (.iload_n 1, 1) := by decide +kernel
theorem dX9_teach_40 : decode cX9_teach 40 = .ok (.aaload, 1) := by decide +kernel
theorem dX9_teach_41 : decode cX9_teach 41 = .ok (.dup, 1) := by decide +kernel
theorem dX9_teach_42 : decode cX9_teach 42 = .ok (.getfield 71, 3) := by decide +kernel
theorem dX9_teach_45 : decode cX9_teach 45 = .ok (.iconst 1, 1) := by decide +kernel
theorem dX9_teach_46 : decode cX9_teach 46 = .ok (.iadd, 1) := by decide +kernel
theorem dX9_teach_47 : decode cX9_teach 47 = .ok (.putfield 71, 3) := by decide +kernel
theorem dX9_teach_50 : decode cX9_teach 50 = .ok (.return_, 1) := by decide +kernel
theorem dX9_moneyInPurses_0 : decode cX9_moneyInPurses 0 = .ok (.iconst 0, 1) := by decide +kernel
theorem dX9_moneyInPurses_1 : decode cX9_moneyInPurses 1 = .ok (.istore_n 1, 1) := by decide +kernel
theorem dX9_moneyInPurses_2 : decode cX9_moneyInPurses 2 = .ok (.iconst 0, 1) := by decide +kernel
theorem dX9_moneyInPurses_3 : decode cX9_moneyInPurses 3 = .ok (.istore_n 2, 1) := by decide +kernel
theorem dX9_moneyInPurses_4 : decode cX9_moneyInPurses 4 = .ok (.iload_n 2, 1) := by decide +kernel
theorem dX9_moneyInPurses_5 : decode cX9_moneyInPurses 5 = .ok (.aload_n 0, 1) := by decide +kernel
theorem dX9_moneyInPurses_6 : decode cX9_moneyInPurses 6 = .ok (.getfield 29, 3) := by decide +kernel
theorem dX9_moneyInPurses_9 : decode cX9_moneyInPurses 9 = .ok (.if_icmp .ge 21, 3) := by decide +kernel
theorem dX9_moneyInPurses_12 : decode cX9_moneyInPurses 12 = .ok (.iload_n 1, 1) := by decide +kernel
theorem dX9_moneyInPurses_13 : decode cX9_moneyInPurses 13 = .ok (.aload_n 0, 1) := by decide +kernel
theorem dX9_moneyInPurses_14 : decode cX9_moneyInPurses 14 = .ok (.getfield 19, 3) := by decide +kernel
theorem dX9_moneyInPurses_17 : decode cX9_moneyInPurses 17 = .ok (.iload_n 2, 1) := by decide +kernel
theorem dX9_moneyInPurses_18 : decode cX9_moneyInPurses 18 = .ok (.aaload, 1) := by decide +kernel
theorem dX9_moneyInPurses_19 : decode cX9_moneyInPurses 19 = .ok (.getfield 157, 3) := by decide +kernel
theorem dX9_moneyInPurses_22 : decode cX9_moneyInPurses 22 = .ok (.iadd, 1) := by decide +kernel
theorem dX9_moneyInPurses_23 : decode cX9_moneyInPurses 23 = .ok (.istore_n 1, 1) := by decide +kernel
theorem dX9_moneyInPurses_24 : decode cX9_moneyInPurses 24 = .ok (.iinc 2 1, 3) := by decide +kernel
theorem dX9_moneyInPurses_27 : decode cX9_moneyInPurses 27 = .ok (.goto (-23), 3) := by decide +kernel
theorem dX9_moneyInPurses_30 : decode cX9_moneyInPurses 30 = .ok (.iload_n 1, 1) := by decide +kernel
theorem dX9_moneyInPurses_31 : decode cX9_moneyInPurses 31 = .ok (.ireturn, 1) := by decide +kernel
theorem dX9_moneySaved_0 : decode cX9_moneySaved 0 = .ok (.iconst 0, 1) := by decide +kernel
theorem dX9_moneySaved_1 : decode cX9_moneySaved 1 = .ok (.istore_n 1, 1) := by decide +kernel
theorem dX9_moneySaved_2 : decode cX9_moneySaved 2 = .ok (.iconst 0, 1) := by decide +kernel
theorem dX9_moneySaved_3 : decode cX9_moneySaved 3 = .ok (.istore_n 2, 1) := by decide +kernel
theorem dX9_moneySaved_4 : decode cX9_moneySaved 4 = .ok (.iload_n 2, 1) := by decide +kernel
theorem dX9_moneySaved_5 : decode cX9_moneySaved 5 = .ok (.aload_n 0, 1) := by decide +kernel
theorem dX9_moneySaved_6 : decode cX9_moneySaved 6 = .ok (.getfield 25, 3) := by decide +kernel
theorem dX9_moneySaved_9 : decode cX9_moneySaved 9 = .ok (.if_icmp .ge 21, 3) := by decide +kernel
theorem dX9_moneySaved_12 : decode cX9_moneySaved 12 = .ok (.iload_n 1, 1) := by decide +kernel
theorem dX9_moneySaved_13 : decode cX9_moneySaved 13 = .ok (.aload_n 0, 1) := by decide +kernel
theorem dX9_moneySaved_14 : decode cX9_moneySaved 14 = .ok (.getfield 11, 3) := by decide +kernel
theorem dX9_moneySaved_17 : decode cX9_moneySaved 17 = .ok (.iload_n 2, 1) := by decide +kernel
theorem dX9_moneySaved_18 : decode cX9_moneySaved 18 = .ok (.aaload, 1) := by decide +kernel
theorem dX9_moneySaved_19 : decode cX9_moneySaved 19 = .ok (.getfield 163, 3) := by decide +kernel
theorem dX9_moneySaved_22 : decode cX9_moneySaved 22 = .ok (.iadd, 1) := by decide +kernel
theorem dX9_moneySaved_23 : decode cX9_moneySaved 23 = .ok (.istore_n 1, 1) := by decide +kernel
theorem dX9_moneySaved_24 : decode cX9_moneySaved 24 = .ok (.iinc 2 1, 3) := by decide +kernel
theorem dX9_moneySaved_27 : decode cX9_moneySaved 27 = .ok (.goto (-23), 3) := by decide +kernel
theorem dX9_moneySaved_30 : decode cX9_moneySaved 30 = .ok (.iload_n 1, 1) := by decide +kernel
theorem dX9_moneySaved_31 : decode cX9_moneySaved 31 = .ok (.ireturn, 1) := by decide +kernel
theorem dX9_contracts_0 : decode cX9_contracts 0 = .ok (.iconst 0, 1) := by decide +kernel
theorem dX9_contracts_1 : decode cX9_contracts 1 = .ok (.istore_n 1, 1) := by decide +kernel
theorem dX9_contracts_2 : decode cX9_contracts 2 = .ok (.iconst 0, 1) := by decide +kernel
theorem dX9_contracts_3 : decode cX9_contracts 3 = .ok (.istore_n 2, 1) := by decide +kernel
theorem dX9_contracts_4 : decode cX9_contracts 4 = .ok (.iload_n 2, 1) := by decide +kernel
theorem dX9_contracts_5 : decode cX9_contracts 5 = .ok (.aload_n 0, 1) := by decide +kernel
theorem dX9_contracts_6 : decode cX9_contracts 6 = .ok (.getfield 29, 3) := by decide +kernel
theorem dX9_contracts_9 : decode cX9_contracts 9 = .ok (.if_icmp .ge 21, 3) := by decide +kernel
theorem dX9_contracts_12 : decode cX9_contracts 12 = .ok (.iload_n 1, 1) := by decide +kernel
theorem dX9_contracts_13 : decode cX9_contracts 13 = .ok (.aload_n 0, 1) := by decide +kernel
theorem dX9_contracts_14 : decode cX9_contracts 14 = .ok (.getfield 19, 3) := by decide +kernel
theorem dX9_contracts_17 : decode cX9_contracts 17 = .ok (.iload_n 2, 1) := by decide +kernel
theorem dX9_contracts_18 : decode cX9_contracts 18 = .ok (.aaload, 1) := by decide +kernel
theorem dX9_contracts_19 : decode cX9_contracts 19 = .ok (.getfield 122, 3) := by decide +kernel
theorem dX9_contracts_22 : decode cX9_contracts 22 = .ok (.iadd, 1) := by decide +kernel
theorem dX9_contracts_23 : decode cX9_contracts 23 = .ok (.istore_n 1, 1) := by decide +kernel
theorem dX9_contracts_24 : decode cX9_contracts 24 = .ok (.iinc 2 1, 3) := by decide +kernel
theorem dX9_contracts_27 : decode cX9_contracts 27 = .ok (.goto (-23), 3) := by decide +kernel
theorem dX9_contracts_30 : decode cX9_contracts 30 = .ok (.iload_n 1, 1) := by decide +kernel
theorem dX9_contracts_31 : decode cX9_contracts 31 = .ok (.ireturn, 1) := by decide +kernel
theorem dX9_valleysServedBy_0 : decode cX9_valleysServedBy 0 = .ok (.iconst 0, 1) := by decide +kernel
theorem dX9_valleysServedBy_1 : decode cX9_valleysServedBy 1 = .ok (.istore_n 2, 1) := by decide +kernel
theorem dX9_valleysServedBy_2 : decode cX9_valleysServedBy 2 = .ok (.iconst 0, 1) := by decide +kernel
theorem dX9_valleysServedBy_3 : decode cX9_valleysServedBy 3 = .ok (.istore_n 3, 1) := by decide +kernel
theorem dX9_valleysServedBy_4 : decode cX9_valleysServedBy 4 = .ok (.iload_n 3, 1) := by decide +kernel
theorem dX9_valleysServedBy_5 : decode cX9_valleysServedBy 5 = .ok (.aload_n 0, 1) := by decide +kernel
theorem dX9_valleysServedBy_6 : decode cX9_valleysServedBy 6 = .ok (.getfield 29, 3) := by decide +kernel
theorem dX9_valleysServedBy_9 : decode cX9_valleysServedBy 9 = .ok (.if_icmp .ge 51, 3) := by decide +kernel
theorem dX9_valleysServedBy_12 : decode cX9_valleysServedBy 12 = .ok (.iconst 0, 1) := by decide +kernel
theorem dX9_valleysServedBy_13 : decode cX9_valleysServedBy 13 = .ok (.istore 4, 2) := by decide +kernel
theorem dX9_valleysServedBy_15 : decode cX9_valleysServedBy 15 = .ok (.iload 4, 2) := by decide +kernel
theorem dX9_valleysServedBy_17 : decode cX9_valleysServedBy 17 = .ok (.aload_n 0, 1) := by decide +kernel
theorem dX9_valleysServedBy_18 : decode cX9_valleysServedBy 18 = .ok (.getfield 19, 3) := by decide +kernel
theorem dX9_valleysServedBy_21 : decode cX9_valleysServedBy 21 = .ok (.iload_n 3, 1) := by decide +kernel
theorem dX9_valleysServedBy_22 : decode cX9_valleysServedBy 22 = .ok (.aaload, 1) := by decide +kernel
theorem dX9_valleysServedBy_23 : decode cX9_valleysServedBy 23 = .ok (.getfield 122, 3) := by decide +kernel
theorem dX9_valleysServedBy_26 : decode cX9_valleysServedBy 26 = .ok (.if_icmp .ge 28, 3) := by decide +kernel
theorem dX9_valleysServedBy_29 : decode cX9_valleysServedBy 29 = .ok (.aload_n 0, 1) := by decide +kernel
theorem dX9_valleysServedBy_30 : decode cX9_valleysServedBy 30 = .ok (.getfield 19, 3) := by decide +kernel
theorem dX9_valleysServedBy_33 : decode cX9_valleysServedBy 33 = .ok (.iload_n 3, 1) := by decide +kernel
theorem dX9_valleysServedBy_34 : decode cX9_valleysServedBy 34 = .ok (.aaload, 1) := by decide +kernel
theorem dX9_valleysServedBy_35 : decode cX9_valleysServedBy 35 = .ok (.getfield 125, 3) := by decide +kernel
theorem dX9_valleysServedBy_38 : decode cX9_valleysServedBy 38 = .ok (.iload 4, 2) := by decide +kernel
theorem dX9_valleysServedBy_40 : decode cX9_valleysServedBy 40 = .ok (.iaload, 1) := by decide +kernel
theorem dX9_valleysServedBy_41 : decode cX9_valleysServedBy 41 = .ok (.iload_n 1, 1) := by decide +kernel
theorem dX9_valleysServedBy_42 : decode cX9_valleysServedBy 42 = .ok (.if_icmp .ne 6, 3) := by decide +kernel
theorem dX9_valleysServedBy_45 : decode cX9_valleysServedBy 45 = .ok (.iinc 2 1, 3) := by decide +kernel
theorem dX9_valleysServedBy_48 : decode cX9_valleysServedBy 48 = .ok (.iinc 4 1, 3) := by decide +kernel
theorem dX9_valleysServedBy_51 : decode cX9_valleysServedBy 51 = .ok (.goto (-36), 3) := by decide +kernel
theorem dX9_valleysServedBy_54 : decode cX9_valleysServedBy 54 = .ok (.iinc 3 1, 3) := by decide +kernel
theorem dX9_valleysServedBy_57 : decode cX9_valleysServedBy 57 = .ok (.goto (-53), 3) := by decide +kernel
theorem dX9_valleysServedBy_60 : decode cX9_valleysServedBy 60 = .ok (.iload_n 2, 1) := by decide +kernel
theorem dX9_valleysServedBy_61 : decode cX9_valleysServedBy 61 = .ok (.ireturn, 1) := by decide +kernel
theorem dX10_init_0 : decode cX10_init 0 = .ok (.aload_n 0, 1) := by decide +kernel
theorem dX10_init_1 : decode cX10_init 1 = .ok (.invokespecial 1, 3) := by decide +kernel
theorem dX10_init_4 : decode cX10_init 4 = .ok (.aload_n 0, 1) := by decide +kernel
theorem dX10_init_5 : decode cX10_init 5 = .ok (.new 7, 3) := by decide +kernel
theorem dX10_init_8 : decode cX10_init 8 = .ok (.dup, 1) := by decide +kernel
theorem dX10_init_9 : decode cX10_init 9 = .ok (.sipush 900, 3) := by decide +kernel
theorem dX10_init_12 : decode cX10_init 12 = .ok (.invokespecial 11, 3) := by decide +kernel
theorem dX10_init_15 : decode cX10_init 15 = .ok (.putfield 14, 3) := by decide +kernel
theorem dX10_init_18 : decode cX10_init 18 = .ok (.aload_n 0, 1) := by decide +kernel
theorem dX10_init_19 : decode cX10_init 19 = .ok (.new 7, 3) := by decide +kernel
theorem dX10_init_22 : decode cX10_init 22 = .ok (.dup, 1) := by decide +kernel
theorem dX10_init_23 : decode cX10_init 23 = .ok (.sipush 160, 3) := by decide +kernel
theorem dX10_init_26 : decode cX10_init 26 = .ok (.invokespecial 11, 3) := by decide +kernel
theorem dX10_init_29 : decode cX10_init 29 = .ok (.putfield 18, 3) := by decide +kernel
theorem dX10_init_32 : decode cX10_init 32 = .ok (.aload_n 0, 1) := by decide +kernel
theorem dX10_init_33 : decode cX10_init 33 = .ok (.new 21, 3) := by decide +kernel
theorem dX10_init_36 : decode cX10_init 36 = .ok (.dup, 1) := by decide +kernel
theorem dX10_init_37 : decode cX10_init 37 = .ok (.invokespecial 23, 3) := by decide +kernel
theorem dX10_init_40 : decode cX10_init 40 = .ok (.putfield 24, 3) := by decide +kernel
theorem dX10_init_43 : decode cX10_init 43 = .ok (.aload_n 0, 1) := by decide +kernel
theorem dX10_init_44 : decode cX10_init 44 = .ok (.new 28, 3) := by decide +kernel
theorem dX10_init_47 : decode cX10_init 47 = .ok (.dup, 1) := by decide +kernel
theorem dX10_init_48 : decode cX10_init 48 = .ok (.invokespecial 30, 3) := by decide +kernel
theorem dX10_init_51 : decode cX10_init 51 = .ok (.putfield 31, 3) := by decide +kernel
theorem dX10_init_54 : decode cX10_init 54 = .ok (.aload_n 0, 1) := by decide +kernel
theorem dX10_init_55 : decode cX10_init 55 = .ok (.new 28, 3) := by decide +kernel
theorem dX10_init_58 : decode cX10_init 58 = .ok (.dup, 1) := by decide +kernel
theorem dX10_init_59 : decode cX10_init 59 = .ok (.invokespecial 30, 3) := by decide +kernel
theorem dX10_init_62 : decode cX10_init 62 = .ok (.putfield 35, 3) := by decide +kernel
theorem dX10_init_65 : decode cX10_init 65 = .ok (.aload_n 0, 1) := by decide +kernel
theorem dX10_init_66 : decode cX10_init 66 = .ok (.new 21, 3) := by decide +kernel
theorem dX10_init_69 : decode cX10_init 69 = .ok (.dup, 1) := by decide +kernel
theorem dX10_init_70 : decode cX10_init 70 = .ok (.invokespecial 23, 3) := by decide +kernel
theorem dX10_init_73 : decode cX10_init 73 = .ok (.putfield 38, 3) := by decide +kernel
theorem dX10_init_76 : decode cX10_init 76 = .ok (.aload_n 0, 1) := by decide +kernel
theorem dX10_init_77 : decode cX10_init 77 = .ok (.new 28, 3) := by decide +kernel
theorem dX10_init_80 : decode cX10_init 80 = .ok (.dup, 1) := by decide +kernel
theorem dX10_init_81 : decode cX10_init 81 = .ok (.invokespecial 30, 3) := by decide +kernel
theorem dX10_init_84 : decode cX10_init 84 = .ok (.putfield 41, 3) := by decide +kernel
theorem dX10_init_87 : decode cX10_init 87 = .ok (.aload_n 0, 1) := by decide +kernel
theorem dX10_init_88 : decode cX10_init 88 = .ok (.new 44, 3) := by decide +kernel
theorem dX10_init_91 : decode cX10_init 91 = .ok (.dup, 1) := by decide +kernel
theorem dX10_init_92 : decode cX10_init 92 = .ok (.invokespecial 46, 3) := by decide +kernel
theorem dX10_init_95 : decode cX10_init 95 = .ok (.putfield 47, 3) := by decide +kernel
theorem dX10_init_98 : decode cX10_init 98 = .ok (.aload_n 0, 1) := by decide +kernel
theorem dX10_init_99 : decode cX10_init 99 = .ok (.new 51, 3) := by decide +kernel
theorem dX10_init_102 : decode cX10_init 102 = .ok (.dup, 1) := by decide +kernel
theorem dX10_init_103 : decode cX10_init 103 = .ok (.invokespecial 53, 3) := by decide +kernel
theorem dX10_init_106 : decode cX10_init 106 = .ok (.putfield 54, 3) := by decide +kernel
theorem dX10_init_109 : decode cX10_init 109 = .ok (.aload_n 0, 1) := by decide +kernel
theorem dX10_init_110 : decode cX10_init 110 = .ok (.new 58, 3) := by decide +kernel
theorem dX10_init_113 : decode cX10_init 113 = .ok (.dup, 1) := by decide +kernel
theorem dX10_init_114 : decode cX10_init 114 = .ok (.aload_n 0, 1) := by decide +kernel
theorem dX10_init_115 : decode cX10_init 115 = .ok (.getfield 14, 3) := by decide +kernel
theorem dX10_init_118 : decode cX10_init 118 = .ok (.invokespecial 60, 3) := by decide +kernel
theorem dX10_init_121 : decode cX10_init 121 = .ok (.putfield 63, 3) := by decide +kernel
theorem dX10_init_124 : decode cX10_init 124 = .ok (.aload_n 0, 1) := by decide +kernel
theorem dX10_init_125 : decode cX10_init 125 = .ok (.new 67, 3) := by decide +kernel
theorem dX10_init_128 : decode cX10_init 128 = .ok (.dup, 1) := by decide +kernel
theorem dX10_init_129 : decode cX10_init 129 = .ok (.aload_n 0, 1) := by decide +kernel
theorem dX10_init_130 : decode cX10_init 130 = .ok (.getfield 63, 3) := by decide +kernel
theorem dX10_init_133 : decode cX10_init 133 = .ok (.aload_n 0, 1) := by decide +kernel
theorem dX10_init_134 : decode cX10_init 134 = .ok (.getfield 35, 3) := by decide +kernel
theorem dX10_init_137 : decode cX10_init 137 = .ok (.aload_n 0, 1) := by decide +kernel
theorem dX10_init_138 : decode cX10_init 138 = .ok (.getfield 38, 3) := by decide +kernel
theorem dX10_init_141 : decode cX10_init 141 = .ok (.invokespecial 69, 3) := by decide +kernel
theorem dX10_init_144 : decode cX10_init 144 = .ok (.putfield 72, 3) := by decide +kernel
theorem dX10_init_147 : decode cX10_init 147 = .ok (.aload_n 0, 1) := by decide +kernel
theorem dX10_init_148 : decode cX10_init 148 = .ok (.new 76, 3) := by decide +kernel
theorem dX10_init_151 : decode cX10_init 151 = .ok (.dup, 1) := by decide +kernel
theorem dX10_init_152 : decode cX10_init 152 = .ok (.aload_n 0, 1) := by decide +kernel
theorem dX10_init_153 : decode cX10_init 153 = .ok (.getfield 63, 3) := by decide +kernel
theorem dX10_init_156 : decode cX10_init 156 = .ok (.invokespecial 78, 3) := by decide +kernel
theorem dX10_init_159 : decode cX10_init 159 = .ok (.putfield 81, 3) := by decide +kernel
theorem dX10_init_162 : decode cX10_init 162 = .ok (.aload_n 0, 1) := by decide +kernel
theorem dX10_init_163 : decode cX10_init 163 = .ok (.iconst (-1), 1) := by decide +kernel
theorem dX10_init_164 : decode cX10_init 164 = .ok (.putfield 85, 3) := by decide +kernel
theorem dX10_init_167 : decode cX10_init 167 = .ok (.iconst 0, 1) := by decide +kernel
theorem dX10_init_168 : decode cX10_init 168 = .ok (.istore_n 1, 1) := by decide +kernel
theorem dX10_init_169 : decode cX10_init 169 = .ok (.iload_n 1, 1) := by decide +kernel
theorem dX10_init_170 : decode cX10_init 170 = .ok (.ldc 89, 2) := by decide +kernel
theorem dX10_init_172 : decode cX10_init 172 = .ok (.invokevirtual 91, 3) := by decide +kernel
theorem dX10_init_175 : decode cX10_init 175 = .ok (.if_icmp .ge 22, 3) := by decide +kernel
theorem dX10_init_178 : decode cX10_init 178 = .ok (.aload_n 0, 1) := by decide +kernel
theorem dX10_init_179 : decode cX10_init 179 = .ok (.getfield 14, 3) := by decide +kernel
theorem dX10_init_182 : decode cX10_init 182 = .ok (.ldc 89, 2) := by decide +kernel
theorem dX10_init_184 : decode cX10_init 184 = .ok (.iload_n 1, 1) := by decide +kernel
theorem dX10_init_185 : decode cX10_init 185 = .ok (.invokevirtual 97, 3) := by decide +kernel
theorem dX10_init_188 : decode cX10_init 188 = .ok (.invokevirtual 101, 3) := by decide +kernel
theorem dX10_init_191 : decode cX10_init 191 = .ok (.iinc 1 1, 3) := by decide +kernel
theorem dX10_init_194 : decode cX10_init 194 = .ok (.goto (-25), 3) := by decide +kernel
theorem dX10_init_197 : decode cX10_init 197 = .ok (.aload_n 0, 1) := by decide +kernel
theorem dX10_init_198 : decode cX10_init 198 = .ok (.getfield 72, 3) := by decide +kernel
theorem dX10_init_201 : decode cX10_init 201 = .ok (.invokevirtual 104, 3) := by decide +kernel
theorem dX10_init_204 : decode cX10_init 204 = .ok (.ifCond .eq 7, 3) := by decide +kernel
theorem dX10_init_207 : decode cX10_init 207 = .ok (.aload_n 0, 1) := by decide +kernel
theorem dX10_init_208 : decode cX10_init 208 = .ok (.invokevirtual 108, 3) := by decide +kernel
theorem dX10_init_211 : decode cX10_init 211 = .ok (.aload_n 0, 1) := by decide +kernel
theorem dX10_init_212 : decode cX10_init 212 = .ok (.getfield 14, 3) := by decide +kernel
theorem dX10_init_215 : decode cX10_init 215 = .ok (.iconst 0, 1) := by decide +kernel
theorem dX10_init_216 : decode cX10_init 216 = .ok (.putfield 111, 3) := by decide +kernel
theorem dX10_init_219 : decode cX10_init 219 = .ok (.return_, 1) := by decide +kernel
theorem dX10_append_0 : decode cX10_append 0 = .ok (.aload_n 0, 1) := by decide +kernel
theorem dX10_append_1 : decode cX10_append 1 = .ok (.getfield 14, 3) := by decide +kernel
theorem dX10_append_4 : decode cX10_append 4 = .ok (.getfield 111, 3) := by decide +kernel
theorem dX10_append_7 : decode cX10_append 7 = .ok (.bipush 20, 2) := by decide +kernel
theorem dX10_append_9 : decode cX10_append 9 = .ok (.iadd, 1) := by decide +kernel
theorem dX10_append_10 : decode cX10_append 10 = .ok (.sipush 900, 3) := by decide +kernel
theorem dX10_append_13 : decode cX10_append 13 = .ok (.if_icmp .le 13, 3) := by decide +kernel
theorem dX10_append_16 : decode cX10_append 16 = .ok (.new 113, 3) := by decide +kernel
theorem dX10_append_19 : decode cX10_append 19 = .ok (.dup, 1) := by decide +kernel
theorem dX10_append_20 : decode cX10_append 20 = .ok (.ldc 115, 2) := by decide +kernel
theorem dX10_append_22 : decode cX10_append 22 = .ok (.invokespecial 117, 3) := by decide +kernel
theorem dX10_append_25 : decode cX10_append 25 = .ok (.athrow, 1) := by decide +kernel
theorem dX10_append_26 : decode cX10_append 26 = .ok (.aload_n 0, 1) := by decide +kernel
theorem dX10_append_27 : decode cX10_append 27 = .ok (.getfield 14, 3) := by decide +kernel
theorem dX10_append_30 : decode cX10_append 30 = .ok (.iload_n 1, 1) := by decide +kernel
theorem dX10_append_31 : decode cX10_append 31 = .ok (.invokevirtual 120, 3) := by decide +kernel
theorem dX10_append_34 : decode cX10_append 34 = .ok (.aload_n 0, 1) := by decide +kernel
theorem dX10_append_35 : decode cX10_append 35 = .ok (.getfield 14, 3) := by decide +kernel
theorem dX10_append_38 : decode cX10_append 38 = .ok (.iload_n 2, 1) := by decide +kernel
theorem dX10_append_39 : decode cX10_append 39 = .ok (.invokevirtual 120, 3) := by decide +kernel
theorem dX10_append_42 : decode cX10_append 42 = .ok (.aload_n 0, 1) := by decide +kernel
theorem dX10_append_43 : decode cX10_append 43 = .ok (.getfield 14, 3) := by decide +kernel
theorem dX10_append_46 : decode cX10_append 46 = .ok (.iload_n 3, 1) := by decide +kernel
theorem dX10_append_47 : decode cX10_append 47 = .ok (.invokevirtual 120, 3) := by decide +kernel
theorem dX10_append_50 : decode cX10_append 50 = .ok (.aload_n 0, 1) := by decide +kernel
theorem dX10_append_51 : decode cX10_append 51 = .ok (.getfield 14, 3) := by decide +kernel
theorem dX10_append_54 : decode cX10_append 54 = .ok (.iload 4, 2) := by decide +kernel
theorem dX10_append_56 : decode cX10_append 56 = .ok (.invokevirtual 120, 3) := by decide +kernel
theorem dX10_append_59 : decode cX10_append 59 = .ok (.aload_n 0, 1) := by decide +kernel
theorem dX10_append_60 : decode cX10_append 60 = .ok (.getfield 14, 3) := by decide +kernel
theorem dX10_append_63 : decode cX10_append 63 = .ok (.iload 5, 2) := by decide +kernel
theorem dX10_append_65 : decode cX10_append 65 = .ok (.invokevirtual 120, 3) := by decide +kernel
theorem dX10_append_68 : decode cX10_append 68 = .ok (.aload_n 0, 1) := by decide +kernel
theorem dX10_append_69 : decode cX10_append 69 = .ok (.getfield 14, 3) := by decide +kernel
theorem dX10_append_72 : decode cX10_append 72 = .ok (.getfield 111, 3) := by decide +kernel
theorem dX10_append_75 : decode cX10_append 75 = .ok (.ireturn, 1) := by decide +kernel
theorem dX10_truncate_0 : decode cX10_truncate 0 = .ok (.iload_n 1, 1) := by decide +kernel
theorem dX10_truncate_1 : decode cX10_truncate 1 = .ok (.ifCond .lt 14, 3) := by decide +kernel
theorem dX10_truncate_4 : decode cX10_truncate 4 = .ok (.iload_n 1, 1) := by decide +kernel
theorem dX10_truncate_5 : decode cX10_truncate 5 = .ok (.aload_n 0, 1) := by decide +kernel
theorem dX10_truncate_6 : decode cX10_truncate 6 = .ok (.getfield 14, 3) := by decide +kernel
theorem dX10_truncate_9 : decode cX10_truncate 9 = .ok (.getfield 111, 3) := by decide +kernel
theorem dX10_truncate_12 : decode cX10_truncate 12 = .ok (.if_icmp .le 13, 3) := by decide +kernel
theorem dX10_truncate_15 : decode cX10_truncate 15 = .ok (.new 123, 3) := by decide +kernel
theorem dX10_truncate_18 : decode cX10_truncate 18 = .ok (.dup, 1) := by decide +kernel
theorem dX10_truncate_19 : decode cX10_truncate 19 = .ok (.ldc 125, 2) := by decide +kernel
theorem dX10_truncate_21 : decode cX10_truncate 21 = .ok (.invokespecial 127, 3) := by decide +kernel
theorem dX10_truncate_24 : decode cX10_truncate 24 = .ok (.athrow, 1) := by decide +kernel
theorem dX10_truncate_25 : decode cX10_truncate 25 = .ok (.aload_n 0, 1) := by decide +kernel
theorem dX10_truncate_26 : decode cX10_truncate 26 = .ok (.getfield 14, 3) := by decide +kernel
theorem dX10_truncate_29 : decode cX10_truncate 29 = .ok (.iload_n 1, 1) := by decide +kernel
theorem dX10_truncate_30 : decode cX10_truncate 30 = .ok (.putfield 111, 3) := by decide +kernel
theorem dX10_truncate_33 : decode cX10_truncate 33 = .ok (.iload_n 1, 1) := by decide +kernel
theorem dX10_truncate_34 : decode cX10_truncate 34 = .ok (.ireturn, 1) := by decide +kernel
theorem dX10_load_0 : decode cX10_load 0 = .ok (.aload_n 0, 1) := by decide +kernel
theorem dX10_load_1 : decode cX10_load 1 = .ok (.getfield 72, 3) := by decide +kernel
theorem dX10_load_4 : decode cX10_load 4 = .ok (.invokevirtual 104, 3) := by decide +kernel
theorem dX10_load_7 : decode cX10_load 7 = .ok (.istore_n 1, 1) := by decide +kernel
theorem dX10_load_8 : decode cX10_load 8 = .ok (.aload_n 0, 1) := by decide +kernel
theorem dX10_load_9 : decode cX10_load 9 = .ok (.invokevirtual 128, 3) := by decide +kernel
theorem dX10_load_12 : decode cX10_load 12 = .ok (.aload_n 0, 1) := by decide +kernel
theorem dX10_load_13 : decode cX10_load 13 = .ok (.getfield 14, 3) := by decide +kernel
theorem dX10_load_16 : decode cX10_load 16 = .ok (.iconst 0, 1) := by decide +kernel
theorem dX10_load_17 : decode cX10_load 17 = .ok (.putfield 111, 3) := by decide +kernel
theorem dX10_load_20 : decode cX10_load 20 = .ok (.iload_n 1, 1) := by decide +kernel
theorem dX10_load_21 : decode cX10_load 21 = .ok (.ifCond .ne 13, 3) := by decide +kernel
theorem dX10_load_24 : decode cX10_load 24 = .ok (.new 123, 3) := by decide +kernel
theorem dX10_load_27 : decode cX10_load 27 = .ok (.dup, 1) := by decide +kernel
theorem dX10_load_28 : decode cX10_load 28 = .ok (.ldc 131, 2) := by decide +kernel
theorem dX10_load_30 : decode cX10_load 30 = .ok (.invokespecial 127, 3) := by decide +kernel
theorem dX10_load_33 : decode cX10_load 33 = .ok (.athrow, 1) := by decide +kernel
theorem dX10_load_34 : decode cX10_load 34 = .ok (.aload_n 0, 1) := by decide +kernel
theorem dX10_load_35 : decode cX10_load 35 = .ok (.invokevirtual 108, 3) := by decide +kernel
theorem dX10_load_38 : decode cX10_load 38 = .ok (.aload_n 0, 1) := by decide +kernel
theorem dX10_load_39 : decode cX10_load 39 = .ok (.getfield 31, 3) := by decide +kernel
theorem dX10_load_42 : decode cX10_load 42 = .ok (.getfield 133, 3) := by decide +kernel
theorem dX10_load_45 : decode cX10_load 45 = .ok (.ireturn, 1) := by decide +kernel
theorem dX10_executeCommands_0 : decode cX10_executeCommands 0 = .ok (.aload_n 0, 1) := by decide +kernel
theorem dX10_executeCommands_1 : decode cX10_executeCommands 1 = .ok (.getfield 81, 3) := by decide +kernel
theorem dX10_executeCommands_4 : decode cX10_executeCommands 4 = .ok (.aload_n 0, 1) := by decide +kernel
theorem dX10_executeCommands_5 : decode cX10_executeCommands 5 = .ok (.getfield 31, 3) := by decide +kernel
theorem dX10_executeCommands_8 : decode cX10_executeCommands 8 = .ok (.invokevirtual 136, 3) := by decide +kernel
theorem dX10_executeCommands_11 : decode cX10_executeCommands 11 = .ok (.istore_n 1, 1) := by decide +kernel
theorem dX10_executeCommands_12 : decode cX10_executeCommands 12 = .ok (.aload_n 0, 1) := by decide +kernel
theorem dX10_executeCommands_13 : decode cX10_executeCommands 13 = .ok (.invokevirtual 128, 3) := by decide +kernel
theorem dX10_executeCommands_16 : decode cX10_executeCommands 16 = .ok (.aload_n 0, 1) := by decide +kernel
theorem dX10_executeCommands_17 : decode cX10_executeCommands 17 = .ok (.getfield 14, 3) := by decide +kernel
theorem dX10_executeCommands_20 : decode cX10_executeCommands 20 = .ok (.iconst 0, 1) := by decide +kernel
theorem dX10_executeCommands_21 : decode cX10_executeCommands 21 = .ok (.putfield 111, 3) := by decide +kernel
theorem dX10_executeCommands_24 : decode cX10_executeCommands 24 = .ok (.iload_n 1, 1) := by decide +kernel
theorem dX10_executeCommands_25 : decode cX10_executeCommands 25 = .ok (.ifCond .ne 13, 3) := by decide +kernel
theorem dX10_executeCommands_28 : decode cX10_executeCommands 28 = .ok (.new 123, 3) := by decide +kernel
theorem dX10_executeCommands_31 : decode cX10_executeCommands 31 = .ok (.dup, 1) := by decide +kernel
theorem dX10_executeCommands_32 : decode cX10_executeCommands 32 = .ok (.ldc 139, 2) := by decide +kernel
theorem dX10_executeCommands_34 : decode cX10_executeCommands 34 = .ok (.invokespecial 127, 3) := by decide +kernel
theorem dX10_executeCommands_37 : decode cX10_executeCommands 37 = .ok (.athrow, 1) := by decide +kernel
theorem dX10_executeCommands_38 : decode cX10_executeCommands 38 = .ok (.aload_n 0, 1) := by decide +kernel
theorem dX10_executeCommands_39 : decode cX10_executeCommands 39 = .ok (.getfield 47, 3) := by decide +kernel
theorem dX10_executeCommands_42 : decode cX10_executeCommands 42 = .ok (.aload_n 0, 1) := by decide +kernel
theorem dX10_executeCommands_43 : decode cX10_executeCommands 43 = .ok (.getfield 31, 3) := by decide +kernel
theorem dX10_executeCommands_46 : decode cX10_executeCommands 46 = .ok (.invokevirtual 141, 3) := by decide +kernel
theorem dX10_executeCommands_49 : decode cX10_executeCommands 49 = .ok (.iconst 0, 1) := by decide +kernel
theorem dX10_executeCommands_50 : decode cX10_executeCommands 50 = .ok (.istore_n 2, 1) := by decide +kernel
theorem dX10_executeCommands_51 : decode cX10_executeCommands 51 = .ok (.iload_n 2, 1) := by decide +kernel
theorem dX10_executeCommands_52 : decode cX10_executeCommands 52 = .ok (.aload_n 0, 1) := by decide +kernel
theorem dX10_executeCommands_53 : decode cX10_executeCommands 53 = .ok (.getfield 81, 3) := by decide +kernel
theorem dX10_executeCommands_56 : decode cX10_executeCommands 56 = .ok (.getfield 145, 3) := by decide +kernel
theorem dX10_executeCommands_59 : decode cX10_executeCommands 59 = .ok (.if_icmp .ge 19, 3) := by decide +kernel
theorem dX10_executeCommands_62 : decode cX10_executeCommands 62 = .ok (.aload_n 0, 1) := by decide +kernel
theorem dX10_executeCommands_63 : decode cX10_executeCommands 63 = .ok (.iload_n 2, 1) := by decide +kernel
theorem dX10_executeCommands_64 : decode cX10_executeCommands 64 = .ok (.invokevirtual 148, 3) := by decide +kernel
theorem dX10_executeCommands_67 : decode cX10_executeCommands 67 = .ok (.ifCond .ne 5, 3) := by decide +kernel
theorem dX10_executeCommands_70 : decode cX10_executeCommands 70 = .ok (.iload_n 2, 1) := by decide +kernel
theorem dX10_executeCommands_71 : decode cX10_executeCommands 71 = .ok (.ireturn, 1) := by decide +kernel
theorem dX10_executeCommands_72 : decode cX10_executeCommands 72 = .ok (.iinc 2 1, 3) := by decide +kernel
theorem dX10_executeCommands_75 : decode cX10_executeCommands 75 = .ok (.goto (-24), 3) := by decide +kernel
theorem dX10_executeCommands_78 : decode cX10_executeCommands 78 = .ok (.aload_n 0, 1) := by decide +kernel
theorem dX10_executeCommands_79 : decode cX10_executeCommands 79 = .ok (.getfield 81, 3) := by decide +kernel
theorem dX10_executeCommands_82 : decode cX10_executeCommands 82 = .ok (.getfield 145, 3) := by decide +kernel
theorem dX10_executeCommands_85 : decode cX10_executeCommands 85 = .ok (.ireturn, 1) := by decide +kernel
theorem dX10_errorCode_0 : decode cX10_errorCode 0 = .ok (.aload_n 0, 1) := by decide +kernel
theorem dX10_errorCode_1 : decode cX10_errorCode 1 = .ok (.getfield 152, 3) := by decide +kernel
theorem dX10_errorCode_4 : decode cX10_errorCode 4 = .ok (.ireturn, 1) := by decide +kernel
theorem dX10_errorPosition_0 : decode cX10_errorPosition 0 = .ok (.aload_n 0, 1) := by decide +kernel
theorem dX10_errorPosition_1 : decode cX10_errorPosition 1 = .ok (.getfield 85, 3) := by decide +kernel
theorem dX10_errorPosition_4 : decode cX10_errorPosition 4 = .ok (.ireturn, 1) := by decide +kernel
theorem dX10_echoCount_0 : decode cX10_echoCount 0 = .ok (.aload_n 0, 1) := by decide +kernel
theorem dX10_echoCount_1 : decode cX10_echoCount 1 = .ok (.getfield 31, 3) := by decide +kernel
theorem dX10_echoCount_4 : decode cX10_echoCount 4 = .ok (.getfield 133, 3) := by decide +kernel
theorem dX10_echoCount_7 : decode cX10_echoCount 7 = .ok (.ireturn, 1) := by decide +kernel
theorem dX10_valleyCount_0 : decode cX10_valleyCount 0 = .ok (.aload_n 0, 1) := by decide +kernel
theorem dX10_valleyCount_1 : decode cX10_valleyCount 1 = .ok (.getfield 31, 3) := by decide +kernel
theorem dX10_valleyCount_4 : decode cX10_valleyCount 4 = .ok (.getfield 155, 3) := by decide +kernel
theorem dX10_valleyCount_7 : decode cX10_valleyCount 7 = .ok (.ireturn, 1) := by decide +kernel
theorem dX10_day_0 : decode cX10_day 0 = .ok (.aload_n 0, 1) := by decide +kernel
theorem dX10_day_1 : decode cX10_day 1 = .ok (.getfield 31, 3) := by decide +kernel
theorem dX10_day_4 : decode cX10_day 4 = .ok (.getfield 158, 3) := by decide +kernel
theorem dX10_day_7 : decode cX10_day 7 = .ok (.ireturn, 1) := by decide +kernel
theorem dX10_seasonLength_0 : decode cX10_seasonLength 0 = .ok (.aload_n 0, 1) := by decide +kernel
theorem dX10_seasonLength_1 : decode cX10_seasonLength 1 = .ok (.getfield 24, 3) := by decide +kernel
theorem dX10_seasonLength_4 : decode cX10_seasonLength 4 = .ok (.getfield 161, 3) := by decide +kernel
theorem dX10_seasonLength_7 : decode cX10_seasonLength 7 = .ok (.ireturn, 1) := by decide +kernel
theorem dX10_fogOf_0 : decode cX10_fogOf 0 = .ok (.iload_n 1, 1) := by decide +kernel
theorem dX10_fogOf_1 : decode cX10_fogOf 1 = .ok (.ifCond .lt 10, 3) := by decide +kernel
theorem dX10_fogOf_4 : decode cX10_fogOf 4 = .ok (.iload_n 1, 1) := by decide +kernel
theorem dX10_fogOf_5 : decode cX10_fogOf 5 = .ok (.sipush 9999, 3) := by decide +kernel
theorem dX10_fogOf_8 : decode cX10_fogOf 8 = .ok (.if_icmp .le 13, 3) := by decide +kernel
theorem dX10_fogOf_11 : decode cX10_fogOf 11 = .ok (.new 123, 3) := by decide +kernel
theorem dX10_fogOf_14 : decode cX10_fogOf 14 = .ok (.dup, 1) := by decide +kernel
theorem dX10_fogOf_15 : decode cX10_fogOf 15 = .ok (.ldc 162, 2) := by decide +kernel
theorem dX10_fogOf_17 : decode cX10_fogOf 17 = .ok (.invokespecial 127, 3) := by decide +kernel
theorem dX10_fogOf_20 : decode cX10_fogOf 20 = .ok (.athrow, 1) := by decide +kernel
theorem dX10_fogOf_21 : decode cX10_fogOf 21 = .ok (.aload_n 0, 1) := by decide +kernel
theorem dX10_fogOf_22 : decode cX10_fogOf 22 = .ok (.getfield 24, 3) := by decide +kernel
theorem dX10_fogOf_25 : decode cX10_fogOf 25 = .ok (.iload_n 1, 1) := by decide +kernel
theorem dX10_fogOf_26 : decode cX10_fogOf 26 = .ok (.invokevirtual 164, 3) := by decide +kernel
theorem dX10_fogOf_29 : decode cX10_fogOf 29 = .ok (.ireturn, 1) := by decide +kernel
theorem dX10_findEcho_0 : decode cX10_findEcho 0 = .ok (.aload_n 0, 1) := by decide +kernel
theorem dX10_findEcho_1 : decode cX10_findEcho 1 = .ok (.getfield 31, 3) := by decide +kernel
theorem dX10_findEcho_4 : decode cX10_findEcho 4 = .ok (.aload_n 0, 1) := by decide +kernel
theorem dX10_findEcho_5 : decode cX10_findEcho 5 = .ok (.getfield 14, 3) := by decide +kernel
theorem dX10_findEcho_8 : decode cX10_findEcho 8 = .ok (.iconst 0, 1) := by decide +kernel
theorem dX10_findEcho_9 : decode cX10_findEcho 9 = .ok (.aload_n 0, 1) := by decide +kernel
theorem dX10_findEcho_10 : decode cX10_findEcho 10 = .ok (.getfield 14, 3) := by decide +kernel
theorem dX10_findEcho_13 : decode cX10_findEcho 13 = .ok (.getfield 111, 3) := by decide +kernel
theorem dX10_findEcho_16 : decode cX10_findEcho 16 = .ok (.invokevirtual 168, 3) := by decide +kernel
theorem dX10_findEcho_19 : decode cX10_findEcho 19 = .ok (.invokevirtual 172, 3) := by decide +kernel
theorem dX10_findEcho_22 : decode cX10_findEcho 22 = .ok (.ireturn, 1) := by decide +kernel
theorem dX10_findValley_0 : decode cX10_findValley 0 = .ok (.aload_n 0, 1) := by decide +kernel
theorem dX10_findValley_1 : decode cX10_findValley 1 = .ok (.getfield 31, 3) := by decide +kernel
theorem dX10_findValley_4 : decode cX10_findValley 4 = .ok (.aload_n 0, 1) := by decide +kernel
theorem dX10_findValley_5 : decode cX10_findValley 5 = .ok (.getfield 14, 3) := by decide +kernel
theorem dX10_findValley_8 : decode cX10_findValley 8 = .ok (.iconst 0, 1) := by decide +kernel
theorem dX10_findValley_9 : decode cX10_findValley 9 = .ok (.aload_n 0, 1) := by decide +kernel
theorem dX10_findValley_10 : decode cX10_findValley 10 = .ok (.getfield 14, 3) := by decide +kernel
theorem dX10_findValley_13 : decode cX10_findValley 13 = .ok (.getfield 111, 3) := by decide +kernel
theorem dX10_findValley_16 : decode cX10_findValley 16 = .ok (.invokevirtual 168, 3) := by decide +kernel
theorem dX10_findValley_19 : decode cX10_findValley 19 = .ok (.invokevirtual 176, 3) := by decide +kernel
theorem dX10_findValley_22 : decode cX10_findValley 22 = .ok (.ireturn, 1) := by decide +kernel
theorem dX10_delayOf_0 : decode cX10_delayOf 0 = .ok (.aload_n 0, 1) := by decide +kernel
theorem dX10_delayOf_1 : decode cX10_delayOf 1 = .ok (.iload_n 1, 1) := by decide +kernel
theorem dX10_delayOf_2 : decode cX10_delayOf 2 = .ok (.invokevirtual 179, 3) := by decide +kernel
theorem dX10_delayOf_5 : decode cX10_delayOf 5 = .ok (.getfield 183, 3) := by decide +kernel
theorem dX10_delayOf_8 : decode cX10_delayOf 8 = .ok (.ireturn, 1) := by decide +kernel
theorem dX10_repeatsOf_0 : decode cX10_repeatsOf 0 = .ok (.aload_n 0, 1) := by decide +kernel
theorem dX10_repeatsOf_1 : decode cX10_repeatsOf 1 = .ok (.iload_n 1, 1) := by decide +kernel
theorem dX10_repeatsOf_2 : decode cX10_repeatsOf 2 = .ok (.invokevirtual 179, 3) := by decide +kernel
theorem dX10_repeatsOf_5 : decode cX10_repeatsOf 5 = .ok (.getfield 188, 3) := by decide +kernel
theorem dX10_repeatsOf_8 : decode cX10_repeatsOf 8 = .ok (.ireturn, 1) := by decide +kernel
theorem dX10_reserveWage_0 : decode cX10_reserveWage 0 = .ok (.aload_n 0, 1) := by decide +kernel
theorem dX10_reserveWage_1 : decode cX10_reserveWage 1 = .ok (.iload_n 1, 1) := by decide +kernel
theorem dX10_reserveWage_2 : decode cX10_reserveWage 2 = .ok (.invokevirtual 179, 3) := by decide +kernel
theorem dX10_reserveWage_5 : decode cX10_reserveWage 5 = .ok (.getfield 191, 3) := by decide +kernel
theorem dX10_reserveWage_8 : decode cX10_reserveWage 8 = .ok (.ireturn, 1) := by decide +kernel
theorem dX10_resistanceOf_0 : decode cX10_resistanceOf 0 = .ok (.aload_n 0, 1) := by decide +kernel
theorem dX10_resistanceOf_1 : decode cX10_resistanceOf 1 = .ok (.iload_n 1, 1) := by decide +kernel
theorem dX10_resistanceOf_2 : decode cX10_resistanceOf 2 = .ok (.invokevirtual 179, 3) := by decide +kernel
theorem dX10_resistanceOf_5 : decode cX10_resistanceOf 5 = .ok (.getfield 194, 3) := by decide +kernel
theorem dX10_resistanceOf_8 : decode cX10_resistanceOf 8 = .ok (.ireturn, 1) := by decide +kernel
theorem dX10_savingsOf_0 : decode cX10_savingsOf 0 = .ok (.aload_n 0, 1) := by decide +kernel
theorem dX10_savingsOf_1 : decode cX10_savingsOf 1 = .ok (.iload_n 1, 1) := by decide +kernel
theorem dX10_savingsOf_2 : decode cX10_savingsOf 2 = .ok (.invokevirtual 179, 3) := by decide +kernel
theorem dX10_savingsOf_5 : decode cX10_savingsOf 5 = .ok (.getfield 197, 3) := by decide +kernel
theorem dX10_savingsOf_8 : decode cX10_savingsOf 8 = .ok (.ireturn, 1) := by decide +kernel
theorem dX10_unpaidDays_0 : decode cX10_unpaidDays 0 = .ok (.aload_n 0, 1) := by decide +kernel
theorem dX10_unpaidDays_1 : decode cX10_unpaidDays 1 = .ok (.iload_n 1, 1) := by decide +kernel
theorem dX10_unpaidDays_2 : decode cX10_unpaidDays 2 = .ok (.invokevirtual 179, 3) := by decide +kernel
theorem dX10_unpaidDays_5 : decode cX10_unpaidDays 5 = .ok (.getfield 200, 3) := by decide +kernel
theorem dX10_unpaidDays_8 : decode cX10_unpaidDays 8 = .ok (.ireturn, 1) := by decide +kernel
theorem dX10_employerOf_0 : decode cX10_employerOf 0 = .ok (.aload_n 0, 1) := by decide +kernel
theorem dX10_employerOf_1 : decode cX10_employerOf 1 = .ok (.iload_n 1, 1) := by decide +kernel
theorem dX10_employerOf_2 : decode cX10_employerOf 2 = .ok (.invokevirtual 179, 3) := by decide +kernel
theorem dX10_employerOf_5 : decode cX10_employerOf 5 = .ok (.getfield 203, 3) := by decide +kernel
theorem dX10_employerOf_8 : decode cX10_employerOf 8 = .ok (.ireturn, 1) := by decide +kernel
theorem dX10_widthOf_0 : decode cX10_widthOf 0 = .ok (.aload_n 0, 1) := by decide +kernel
theorem dX10_widthOf_1 : decode cX10_widthOf 1 = .ok (.iload_n 1, 1) := by decide +kernel
theorem dX10_widthOf_2 : decode cX10_widthOf 2 = .ok (.invokevirtual 206, 3) := by decide +kernel
theorem dX10_widthOf_5 : decode cX10_widthOf 5 = .ok (.getfield 210, 3) := by decide +kernel
theorem dX10_widthOf_8 : decode cX10_widthOf 8 = .ok (.ireturn, 1) := by decide +kernel
theorem dX10_postsOf_0 : decode cX10_postsOf 0 = .ok (.aload_n 0, 1) := by decide +kernel
theorem dX10_postsOf_1 : decode cX10_postsOf 1 = .ok (.iload_n 1, 1) := by decide +kernel
theorem dX10_postsOf_2 : decode cX10_postsOf 2 = .ok (.invokevirtual 206, 3) := by decide +kernel
theorem dX10_postsOf_5 : decode cX10_postsOf 5 = .ok (.getfield 215, 3) := by decide +kernel
theorem dX10_postsOf_8 : decode cX10_postsOf 8 = .ok (.ireturn, 1) := by decide +kernel
theorem dX10_wageOf_0 : decode cX10_wageOf 0 = .ok (.aload_n 0, 1) := by decide +kernel
theorem dX10_wageOf_1 : decode cX10_wageOf 1 = .ok (.iload_n 1, 1) := by decide +kernel
theorem dX10_wageOf_2 : decode cX10_wageOf 2 = .ok (.invokevirtual 206, 3) := by decide +kernel
theorem dX10_wageOf_5 : decode cX10_wageOf 5 = .ok (.getfield 218, 3) := by decide +kernel
theorem dX10_wageOf_8 : decode cX10_wageOf 8 = .ok (.ireturn, 1) := by decide +kernel
theorem dX10_purseOf_0 : decode cX10_purseOf 0 = .ok (.aload_n 0, 1) := by decide +kernel
theorem dX10_purseOf_1 : decode cX10_purseOf 1 = .ok (.iload_n 1, 1) := by decide +kernel
theorem dX10_purseOf_2 : decode cX10_purseOf 2 = .ok (.invokevirtual 206, 3) := by decide +kernel
theorem dX10_purseOf_5 : decode cX10_purseOf 5 = .ok (.getfield 221, 3) := by decide +kernel
theorem dX10_purseOf_8 : decode cX10_purseOf 8 = .ok (.ireturn, 1) := by decide +kernel
theorem dX10_staffCount_0 : decode cX10_staffCount 0 = .ok (.aload_n 0, 1) := by decide +kernel
theorem dX10_staffCount_1 : decode cX10_staffCount 1 = .ok (.iload_n 1, 1) := by decide +kernel
theorem dX10_staffCount_2 : decode cX10_staffCount 2 = .ok (.invokevirtual 206, 3) := by decide +kernel
theorem dX10_staffCount_5 : decode cX10_staffCount 5 = .ok (.getfield 224, 3) := by decide +kernel
theorem dX10_staffCount_8 : decode cX10_staffCount 8 = .ok (.ireturn, 1) := by decide +kernel
theorem dX10_staffMember_0 : decode cX10_staffMember 0 = .ok (.aload_n 0, 1) := by decide +kernel
theorem dX10_staffMember_1 : decode cX10_staffMember 1 = .ok (.iload_n 1, 1) := by decide +kernel
theorem dX10_staffMember_2 : decode cX10_staffMember 2 = .ok (.invokevirtual 206, 3) := by decide +kernel
theorem dX10_staffMember_5 : decode cX10_staffMember 5 = .ok (.astore_n 3, 1) := by decide +kernel
theorem dX10_staffMember_6 : decode cX10_staffMember 6 = .ok (.iload_n 2, 1) := by decide +kernel
theorem dX10_staffMember_7 : decode cX10_staffMember 7 = .ok (.ifCond .lt 11, 3) := by decide +kernel
theorem dX10_staffMember_10 : decode cX10_staffMember 10 = .ok (.iload_n 2, 1) := by decide +kernel
theorem dX10_staffMember_11 : decode cX10_staffMember 11 = .ok (.aload_n 3, 1) := by decide +kernel
theorem dX10_staffMember_12 : decode cX10_staffMember 12 = .ok (.getfield 224, 3) := by decide +kernel
theorem dX10_staffMember_15 : decode cX10_staffMember 15 = .ok (.if_icmp .lt 5, 3) := by decide +kernel
theorem dX10_staffMember_18 : decode cX10_staffMember 18 = .ok (.iconst (-1), 1) := by decide +kernel
theorem dX10_staffMember_19 : decode cX10_staffMember 19 = .ok (.ireturn, 1) := by decide +kernel
theorem dX10_staffMember_20 : decode cX10_staffMember 20 = .ok (.aload_n 3, 1) := by decide +kernel
theorem dX10_staffMember_21 : decode cX10_staffMember 21 = .ok (.getfield 227, 3) := by decide +kernel
theorem dX10_staffMember_24 : decode cX10_staffMember 24 = .ok (.iload_n 2, 1) := by decide +kernel
theorem dX10_staffMember_25 : decode cX10_staffMember 25 = .ok (.iaload, 1) := by decide +kernel
theorem dX10_staffMember_26 : decode cX10_staffMember 26 = .ok (.ireturn, 1) := by decide +kernel
theorem dX10_isTested_0 : decode cX10_isTested 0 = .ok (.aload_n 0, 1) := by decide +kernel
theorem dX10_isTested_1 : decode cX10_isTested 1 = .ok (.iload_n 1, 1) := by decide +kernel
theorem dX10_isTested_2 : decode cX10_isTested 2 = .ok (.iload_n 2, 1) := by decide +kernel
theorem dX10_isTested_3 : decode cX10_isTested 3 = .ok (.invokevirtual 231, 3) := by decide +kernel
theorem dX10_isTested_6 : decode cX10_isTested 6 = .ok (.aload_n 0, 1) := by decide +kernel
theorem dX10_isTested_7 : decode cX10_isTested 7 = .ok (.getfield 31, 3) := by decide +kernel
theorem dX10_isTested_10 : decode cX10_isTested 10 = .ok (.getfield 235, 3) := by decide +kernel
theorem dX10_isTested_13 : decode cX10_isTested 13 = .ok (.iload_n 1, 1) := by decide +kernel
theorem dX10_isTested_14 : decode cX10_isTested 14 = .ok (.aaload, 1) := by decide +kernel
theorem dX10_isTested_15 : decode cX10_isTested 15 = .ok (.iload_n 2, 1) := by decide +kernel
theorem dX10_isTested_16 : decode cX10_isTested 16 = .ok (.invokevirtual 239, 3) := by decide +kernel
theorem dX10_isTested_19 : decode cX10_isTested 19 = .ok (.ireturn, 1) := by decide +kernel
theorem dX10_seenScore_0 : decode cX10_seenScore 0 = .ok (.aload_n 0, 1) := by decide +kernel
theorem dX10_seenScore_1 : decode cX10_seenScore 1 = .ok (.iload_n 1, 1) := by decide +kernel
theorem dX10_seenScore_2 : decode cX10_seenScore 2 = .ok (.iload_n 2, 1) := by decide +kernel
theorem dX10_seenScore_3 : decode cX10_seenScore 3 = .ok (.invokevirtual 231, 3) := by decide +kernel
theorem dX10_seenScore_6 : decode cX10_seenScore 6 = .ok (.aload_n 0, 1) := by decide +kernel
theorem dX10_seenScore_7 : decode cX10_seenScore 7 = .ok (.getfield 31, 3) := by decide +kernel
theorem dX10_seenScore_10 : decode cX10_seenScore 10 = .ok (.iload_n 1, 1) := by decide +kernel
theorem dX10_seenScore_11 : decode cX10_seenScore 11 = .ok (.iload_n 2, 1) := by decide +kernel
theorem dX10_seenScore_12 : decode cX10_seenScore 12 = .ok (.invokevirtual 242, 3) := by decide +kernel
theorem dX10_seenScore_15 : decode cX10_seenScore 15 = .ok (.ireturn, 1) := by decide +kernel
theorem dX10_pairReason_0 : decode cX10_pairReason 0 = .ok (.aload_n 0, 1) := by decide +kernel
theorem dX10_pairReason_1 : decode cX10_pairReason 1 = .ok (.iload_n 1, 1) := by decide +kernel
theorem dX10_pairReason_2 : decode cX10_pairReason 2 = .ok (.iload_n 2, 1) := by decide +kernel
theorem dX10_pairReason_3 : decode cX10_pairReason 3 = .ok (.invokevirtual 231, 3) := by decide +kernel
theorem dX10_pairReason_6 : decode cX10_pairReason 6 = .ok (.aload_n 0, 1) := by decide +kernel
theorem dX10_pairReason_7 : decode cX10_pairReason 7 = .ok (.getfield 31, 3) := by decide +kernel
theorem dX10_pairReason_10 : decode cX10_pairReason 10 = .ok (.iload_n 1, 1) := by decide +kernel
theorem dX10_pairReason_11 : decode cX10_pairReason 11 = .ok (.iload_n 2, 1) := by decide +kernel
theorem dX10_pairReason_12 : decode cX10_pairReason 12 = .ok (.aload_n 0, 1) := by decide +kernel
theorem dX10_pairReason_13 : decode cX10_pairReason 13 = .ok (.getfield 31, 3) := by decide +kernel
theorem dX10_pairReason_16 : decode cX10_pairReason 16 = .ok (.iload_n 1, 1) := by decide +kernel
theorem dX10_pairReason_17 : decode cX10_pairReason 17 = .ok (.iload_n 2, 1) := by decide +kernel
theorem dX10_pairReason_18 : decode cX10_pairReason 18 = .ok (.invokevirtual 242, 3) := by decide +kernel
theorem dX10_pairReason_21 : decode cX10_pairReason 21 = .ok (.invokevirtual 246, 3) := by decide +kernel
theorem dX10_pairReason_24 : decode cX10_pairReason 24 = .ok (.ireturn, 1) := by decide +kernel
theorem dX10_preferredValley_0 : decode cX10_preferredValley 0 = .ok (.aload_n 0, 1) := by decide +kernel
theorem dX10_preferredValley_1 : decode cX10_preferredValley 1 = .ok (.iload_n 1, 1) := by decide +kernel
theorem dX10_preferredValley_2 : decode cX10_preferredValley 2 = .ok (.invokevirtual 250, 3) := by decide +kernel
theorem dX10_preferredValley_5 : decode cX10_preferredValley 5 = .ok (.iconst 0, 1) := by decide +kernel
theorem dX10_preferredValley_6 : decode cX10_preferredValley 6 = .ok (.istore_n 3, 1) := by decide +kernel
theorem dX10_preferredValley_7 : decode cX10_preferredValley 7 = .ok (.iload_n 3, 1) := by decide +kernel
theorem dX10_preferredValley_8 : decode cX10_preferredValley 8 = .ok (.aload_n 0, 1) := by decide +kernel
theorem dX10_preferredValley_9 : decode cX10_preferredValley 9 = .ok (.getfield 31, 3) := by decide +kernel
theorem dX10_preferredValley_12 : decode cX10_preferredValley 12 = .ok (.getfield 155, 3) := by decide +kernel
theorem dX10_preferredValley_15 : decode cX10_preferredValley 15 = .ok (.if_icmp .ge 36, 3) := by decide +kernel
theorem dX10_preferredValley_18 : decode cX10_preferredValley 18 = .ok (.aload_n 0, 1) := by decide +kernel
theorem dX10_preferredValley_19 : decode cX10_preferredValley 19 = .ok (.getfield 31, 3) := by decide +kernel
theorem dX10_preferredValley_22 : decode cX10_preferredValley 22 = .ok (.iload_n 3, 1) := by decide +kernel
theorem dX10_preferredValley_23 : decode cX10_preferredValley 23 = .ok (.iload_n 1, 1) := by decide +kernel
theorem dX10_preferredValley_24 : decode cX10_preferredValley 24 = .ok (.invokevirtual 253, 3) := by decide +kernel
theorem dX10_preferredValley_27 : decode cX10_preferredValley 27 = .ok (.ifCond .eq 18, 3) := by decide +kernel
theorem dX10_preferredValley_30 : decode cX10_preferredValley 30 = .ok (.aload_n 0, 1) := by decide +kernel
theorem dX10_preferredValley_31 : decode cX10_preferredValley 31 = .ok (.getfield 31, 3) := by decide +kernel
theorem dX10_preferredValley_34 : decode cX10_preferredValley 34 = .ok (.iload_n 3, 1) := by decide +kernel
theorem dX10_preferredValley_35 : decode cX10_preferredValley 35 = .ok (.iload_n 1, 1) := by decide +kernel
theorem dX10_preferredValley_36 : decode cX10_preferredValley 36 = .ok (.invokevirtual 257, 3) := by decide +kernel
theorem dX10_preferredValley_39 : decode cX10_preferredValley 39 = .ok (.iload_n 2, 1) := by decide +kernel
theorem dX10_preferredValley_40 : decode cX10_preferredValley 40 = .ok (.if_icmp .ne 5, 3) := by decide +kernel
theorem dX10_preferredValley_43 : decode cX10_preferredValley 43 = .ok (.iload_n 3, 1) := by decide +kernel
theorem dX10_preferredValley_44 : decode cX10_preferredValley 44 = .ok (.ireturn, 1) := by decide +kernel
theorem dX10_preferredValley_45 : decode cX10_preferredValley 45 = .ok (.iinc 3 1, 3) := by decide +kernel
theorem dX10_preferredValley_48 : decode cX10_preferredValley 48 = .ok (.goto (-41), 3) := by decide +kernel
theorem dX10_preferredValley_51 : decode cX10_preferredValley 51 = .ok (.iconst (-1), 1) := by decide +kernel
theorem dX10_preferredValley_52 : decode cX10_preferredValley 52 = .ok (.ireturn, 1) := by decide +kernel
theorem dX10_preferredEcho_0 : decode cX10_preferredEcho 0 = .ok (.aload_n 0, 1) := by decide +kernel
theorem dX10_preferredEcho_1 : decode cX10_preferredEcho 1 = .ok (.iload_n 1, 1) := by decide +kernel
theorem dX10_preferredEcho_2 : decode cX10_preferredEcho 2 = .ok (.invokevirtual 260, 3) := by decide +kernel
theorem dX10_preferredEcho_5 : decode cX10_preferredEcho 5 = .ok (.iconst 0, 1) := by decide +kernel
theorem dX10_preferredEcho_6 : decode cX10_preferredEcho 6 = .ok (.istore_n 3, 1) := by decide +kernel
theorem dX10_preferredEcho_7 : decode cX10_preferredEcho 7 = .ok (.iload_n 3, 1) := by decide +kernel
theorem dX10_preferredEcho_8 : decode cX10_preferredEcho 8 = .ok (.aload_n 0, 1) := by decide +kernel
theorem dX10_preferredEcho_9 : decode cX10_preferredEcho 9 = .ok (.getfield 31, 3) := by decide +kernel
theorem dX10_preferredEcho_12 : decode cX10_preferredEcho 12 = .ok (.getfield 133, 3) := by decide +kernel
theorem dX10_preferredEcho_15 : decode cX10_preferredEcho 15 = .ok (.if_icmp .ge 36, 3) := by decide +kernel
theorem dX10_preferredEcho_18 : decode cX10_preferredEcho 18 = .ok (.aload_n 0, 1) := by decide +kernel
theorem dX10_preferredEcho_19 : decode cX10_preferredEcho 19 = .ok (.getfield 31, 3) := by decide +kernel
theorem dX10_preferredEcho_22 : decode cX10_preferredEcho 22 = .ok (.iload_n 1, 1) := by decide +kernel
theorem dX10_preferredEcho_23 : decode cX10_preferredEcho 23 = .ok (.iload_n 3, 1) := by decide +kernel
theorem dX10_preferredEcho_24 : decode cX10_preferredEcho 24 = .ok (.invokevirtual 253, 3) := by decide +kernel
theorem dX10_preferredEcho_27 : decode cX10_preferredEcho 27 = .ok (.ifCond .eq 18, 3) := by decide +kernel
theorem dX10_preferredEcho_30 : decode cX10_preferredEcho 30 = .ok (.aload_n 0, 1) := by decide +kernel
theorem dX10_preferredEcho_31 : decode cX10_preferredEcho 31 = .ok (.getfield 31, 3) := by decide +kernel
theorem dX10_preferredEcho_34 : decode cX10_preferredEcho 34 = .ok (.iload_n 1, 1) := by decide +kernel
theorem dX10_preferredEcho_35 : decode cX10_preferredEcho 35 = .ok (.iload_n 3, 1) := by decide +kernel
theorem dX10_preferredEcho_36 : decode cX10_preferredEcho 36 = .ok (.invokevirtual 263, 3) := by decide +kernel
theorem dX10_preferredEcho_39 : decode cX10_preferredEcho 39 = .ok (.iload_n 2, 1) := by decide +kernel
theorem dX10_preferredEcho_40 : decode cX10_preferredEcho 40 = .ok (.if_icmp .ne 5, 3) := by decide +kernel
theorem dX10_preferredEcho_43 : decode cX10_preferredEcho 43 = .ok (.iload_n 3, 1) := by decide +kernel
theorem dX10_preferredEcho_44 : decode cX10_preferredEcho 44 = .ok (.ireturn, 1) := by decide +kernel
theorem dX10_preferredEcho_45 : decode cX10_preferredEcho 45 = .ok (.iinc 3 1, 3) := by decide +kernel
theorem dX10_preferredEcho_48 : decode cX10_preferredEcho 48 = .ok (.goto (-41), 3) := by decide +kernel
theorem dX10_preferredEcho_51 : decode cX10_preferredEcho 51 = .ok (.iconst (-1), 1) := by decide +kernel
theorem dX10_preferredEcho_52 : decode cX10_preferredEcho 52 = .ok (.ireturn, 1) := by decide +kernel
theorem dX10_blockingPairs_0 : decode cX10_blockingPairs 0 = .ok (.iconst 0, 1) := by decide +kernel
theorem dX10_blockingPairs_1 : decode cX10_blockingPairs 1 = .ok (.istore_n 1, 1) := by decide +kernel
theorem dX10_blockingPairs_2 : decode cX10_blockingPairs 2 = .ok (.iconst 0, 1) := by decide +kernel
theorem dX10_blockingPairs_3 : decode cX10_blockingPairs 3 = .ok (.istore_n 2, 1) := by decide +kernel
theorem dX10_blockingPairs_4 : decode cX10_blockingPairs 4 = .ok (.iload_n 2, 1) := by decide +kernel
theorem dX10_blockingPairs_5 : decode cX10_blockingPairs 5 = .ok (.aload_n 0, 1) := by decide +kernel
theorem dX10_blockingPairs_6 : decode cX10_blockingPairs 6 = .ok (.getfield 31, 3) := by decide +kernel
theorem dX10_blockingPairs_9 : decode cX10_blockingPairs 9 = .ok (.getfield 155, 3) := by decide +kernel
theorem dX10_blockingPairs_12 : decode cX10_blockingPairs 12 = .ok (.if_icmp .ge 43, 3) := by decide +kernel
theorem dX10_blockingPairs_15 : decode cX10_blockingPairs 15 = .ok (.iconst 0, 1) := by decide +kernel
