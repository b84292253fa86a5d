theorem dX0_init_0 : decode cX0_init 0 = .ok (.aload_n 0, 1) := by decide +kernel
theorem dX0_init_1 : decode cX0_init 1 = .ok (.invokespecial 3, 3) := by decide +kernel
theorem dX0_init_4 : decode cX0_init 4 = .ok (.aload_n 0, 1) := by decide +kernel
theorem dX0_init_5 : decode cX0_init 5 = .ok (.iconst (-1), 1) := by decide +kernel
theorem dX0_init_6 : decode cX0_init 6 = .ok (.putfield 11, 3) := by decide +kernel
theorem dX0_init_9 : decode cX0_init 9 = .ok (.aload_n 0, 1) := by decide +kernel
theorem dX0_init_10 : decode cX0_init 10 = .ok (.bipush 64, 2) := by decide +kernel
theorem dX0_init_12 : decode cX0_init 12 = .ok (.newarray .int, 2) := by decide +kernel
theorem dX0_init_14 : decode cX0_init 14 = .ok (.putfield 15, 3) := by decide +kernel
theorem dX0_init_17 : decode cX0_init 17 = .ok (.return_, 1) := by decide +kernel
theorem dX0_isMissing_0 : decode cX0_isMissing 0 = .ok (.aload_n 0, 1) := by decide +kernel
theorem dX0_isMissing_1 : decode cX0_isMissing 1 = .ok (.getfield 11, 3) := by decide +kernel
theorem dX0_isMissing_4 : decode cX0_isMissing 4 = .ok (.iconst (-1), 1) := by decide +kernel
theorem dX0_isMissing_5 : decode cX0_isMissing 5 = .ok (.if_icmp .ne 7, 3) := by decide +kernel
theorem dX0_isMissing_8 : decode cX0_isMissing 8 = .ok (.iconst 1, 1) := by decide +kernel
theorem dX0_isMissing_9 : decode cX0_isMissing 9 = .ok (.goto 4, 3) := by decide +kernel
theorem dX0_isMissing_12 : decode cX0_isMissing 12 = .ok (.iconst 0, 1) := by decide +kernel
theorem dX0_isMissing_13 : decode cX0_isMissing 13 = .ok (.ireturn, 1) := by decide +kernel
theorem dX1_init_0 : decode cX1_init 0 = .ok (.aload_n 0, 1) := by decide +kernel
theorem dX1_init_1 : decode cX1_init 1 = .ok (.invokespecial 1, 3) := by decide +kernel
theorem dX1_init_4 : decode cX1_init 4 = .ok (.aload_n 0, 1) := by decide +kernel
theorem dX1_init_5 : decode cX1_init 5 = .ok (.sipush 511, 3) := by decide +kernel
theorem dX1_init_8 : decode cX1_init 8 = .ok (.newarray .byte, 2) := by decide +kernel
theorem dX1_init_10 : decode cX1_init 10 = .ok (.putfield 9, 3) := by decide +kernel
theorem dX1_init_13 : decode cX1_init 13 = .ok (.return_, 1) := by decide +kernel
theorem dX1_append_0 : decode cX1_append 0 = .ok (.aload_n 0, 1) := by decide +kernel
theorem dX1_append_1 : decode cX1_append 1 = .ok (.getfield 13, 3) := by decide +kernel
theorem dX1_append_4 : decode cX1_append 4 = .ok (.sipush 511, 3) := by decide +kernel
theorem dX1_append_7 : decode cX1_append 7 = .ok (.if_icmp .ge 24, 3) := by decide +kernel
theorem dX1_append_10 : decode cX1_append 10 = .ok (.aload_n 0, 1) := by decide +kernel
theorem dX1_append_11 : decode cX1_append 11 = .ok (.getfield 9, 3) := by decide +kernel
theorem dX1_append_14 : decode cX1_append 14 = .ok (.aload_n 0, 1) := by decide +kernel
theorem dX1_append_15 : decode cX1_append 15 = .ok (.getfield 13, 3) := by decide +kernel
theorem dX1_append_18 : decode cX1_append 18 = .ok (.iload_n 1, 1) := by decide +kernel
theorem dX1_append_19 : decode cX1_append 19 = .ok (.i2b, 1) := by decide +kernel
theorem dX1_append_20 : decode cX1_append 20 = .ok (.bastore, 1) := by decide +kernel
theorem dX1_append_21 : decode cX1_append 21 = .ok (.aload_n 0, 1) := by decide +kernel
theorem dX1_append_22 : decode cX1_append 22 = .ok (.dup, 1) := by decide +kernel
theorem dX1_append_23 : decode cX1_append 23 = .ok (.getfield 13, 3) := by decide +kernel
theorem dX1_append_26 : decode cX1_append 26 = .ok (.iconst 1, 1) := by decide +kernel
theorem dX1_append_27 : decode cX1_append 27 = .ok (.iadd, 1) := by decide +kernel
theorem dX1_append_28 : decode cX1_append 28 = .ok (.putfield 13, 3) := by decide +kernel
theorem dX1_append_31 : decode cX1_append 31 = .ok (.return_, 1) := by decide +kernel
theorem dX1_appendNumber_0 : decode cX1_appendNumber 0 = .ok (.iload_n 1, 1) := by decide +kernel
theorem dX1_appendNumber_1 : decode cX1_appendNumber 1 = .ok (.ifCond .ge 9, 3) := by decide +kernel
theorem dX1_appendNumber_4 : decode cX1_appendNumber 4 = .ok (.aload_n 0, 1) := by decide +kernel
theorem dX1_appendNumber_5 : decode cX1_appendNumber 5 = .ok (.bipush 45, 2) := by decide +kernel
theorem dX1_appendNumber_7 : decode cX1_appendNumber 7 = .ok (.invokevirtual 17, 3) := by decide +kernel
theorem dX1_appendNumber_10 : decode cX1_appendNumber 10 = .ok (.iload_n 1, 1) := by decide +kernel
theorem dX1_appendNumber_11 : decode cX1_appendNumber 11 = .ok (.invokestatic 21, 3) := by decide +kernel
theorem dX1_appendNumber_14 : decode cX1_appendNumber 14 = .ok (.istore_n 2, 1) := by decide +kernel
theorem dX1_appendNumber_15 : decode cX1_appendNumber 15 = .ok (.iconst 0, 1) := by decide +kernel
theorem dX1_appendNumber_16 : decode cX1_appendNumber 16 = .ok (.istore_n 3, 1) := by decide +kernel
theorem dX1_appendNumber_17 : decode cX1_appendNumber 17 = .ok (.ldc 27, 2) := by decide +kernel
theorem dX1_appendNumber_19 : decode cX1_appendNumber 19 = .ok (.istore 4, 2) := by decide +kernel
theorem dX1_appendNumber_21 : decode cX1_appendNumber 21 = .ok (.iload 4, 2) := by decide +kernel
theorem dX1_appendNumber_23 : decode cX1_appendNumber 23 = .ok (.iconst 1, 1) := by decide +kernel
theorem dX1_appendNumber_24 : decode cX1_appendNumber 24 = .ok (.if_icmp .lt 49, 3) := by decide +kernel
theorem dX1_appendNumber_27 : decode cX1_appendNumber 27 = .ok (.iload_n 2, 1) := by decide +kernel
theorem dX1_appendNumber_28 : decode cX1_appendNumber 28 = .ok (.iload 4, 2) := by decide +kernel
theorem dX1_appendNumber_30 : decode cX1_appendNumber 30 = .ok (.idiv, 1) := by decide +kernel
theorem dX1_appendNumber_31 : decode cX1_appendNumber 31 = .ok (.bipush 10, 2) := by decide +kernel
theorem dX1_appendNumber_33 : decode cX1_appendNumber 33 = .ok (.irem, 1) := by decide +kernel
theorem dX1_appendNumber_34 : decode cX1_appendNumber 34 = .ok (.istore 5, 2) := by decide +kernel
theorem dX1_appendNumber_36 : decode cX1_appendNumber 36 = .ok (.iload 5, 2) := by decide +kernel
theorem dX1_appendNumber_38 : decode cX1_appendNumber 38 = .ok (.ifCond .gt 13, 3) := by decide +kernel
theorem dX1_appendNumber_41 : decode cX1_appendNumber 41 = .ok (.iload_n 3, 1) := by decide +kernel
theorem dX1_appendNumber_42 : decode cX1_appendNumber 42 = .ok (.ifCond .ne 9, 3) := by decide +kernel
theorem dX1_appendNumber_45 : decode cX1_appendNumber 45 = .ok (.iload 4, 2) := by decide +kernel
theorem dX1_appendNumber_47 : decode cX1_appendNumber 47 = .ok (.iconst 1, 1) := by decide +kernel
theorem dX1_appendNumber_48 : decode cX1_appendNumber 48 = .ok (.if_icmp .ne 15, 3) := by decide +kernel
theorem dX1_appendNumber_51 : decode cX1_appendNumber 51 = .ok (.aload_n 0, 1) := by decide +kernel
theorem dX1_appendNumber_52 : decode cX1_appendNumber 52 = .ok (.bipush 48, 2) := by decide +kernel
theorem dX1_appendNumber_54 : decode cX1_appendNumber 54 = .ok (.iload 5, 2) := by decide +kernel
theorem dX1_appendNumber_56 : decode cX1_appendNumber 56 = .ok (.iadd, 1) := by decide +kernel
theorem dX1_appendNumber_57 : decode cX1_appendNumber 57 = .ok (.i2c, 1) := by decide +kernel
theorem dX1_appendNumber_58 : decode cX1_appendNumber 58 = .ok (.invokevirtual 17, 3) := by decide +kernel
theorem dX1_appendNumber_61 : decode cX1_appendNumber 61 = .ok (.iconst 1, 1) := by decide +kernel
theorem dX1_appendNumber_62 : decode cX1_appendNumber 62 = .ok (.istore_n 3, 1) := by decide +kernel
theorem dX1_appendNumber_63 : decode cX1_appendNumber 63 = .ok (.iload 4, 2) := by decide +kernel
theorem dX1_appendNumber_65 : decode cX1_appendNumber 65 = .ok (.bipush 10, 2) := by decide +kernel
theorem dX1_appendNumber_67 : decode cX1_appendNumber 67 = .ok (.idiv, 1) := by decide +kernel
theorem dX1_appendNumber_68 : decode cX1_appendNumber 68 = .ok (.istore 4, 2) := by decide +kernel
theorem dX1_appendNumber_70 : decode cX1_appendNumber 70 = .ok (.goto (-49), 3) := by decide +kernel
theorem dX1_appendNumber_73 : decode cX1_appendNumber 73 = .ok (.return_, 1) := by decide +kernel
theorem dX2_init_0 : decode cX2_init 0 = .ok (.aload_n 0, 1) := by decide +kernel
theorem dX2_init_1 : decode cX2_init 1 = .ok (.invokespecial 3, 3) := by decide +kernel
theorem dX2_init_4 : decode cX2_init 4 = .ok (.aload_n 0, 1) := by decide +kernel
theorem dX2_init_5 : decode cX2_init 5 = .ok (.bipush 6, 2) := by decide +kernel
theorem dX2_init_7 : decode cX2_init 7 = .ok (.newarray .int, 2) := by decide +kernel
theorem dX2_init_9 : decode cX2_init 9 = .ok (.putfield 9, 3) := by decide +kernel
theorem dX2_init_12 : decode cX2_init 12 = .ok (.aload_n 0, 1) := by decide +kernel
theorem dX2_init_13 : decode cX2_init 13 = .ok (.bipush 6, 2) := by decide +kernel
theorem dX2_init_15 : decode cX2_init 15 = .ok (.newarray .int, 2) := by decide +kernel
theorem dX2_init_17 : decode cX2_init 17 = .ok (.putfield 15, 3) := by decide +kernel
theorem dX2_init_20 : decode cX2_init 20 = .ok (.aload_n 0, 1) := by decide +kernel
theorem dX2_init_21 : decode cX2_init 21 = .ok (.bipush 6, 2) := by decide +kernel
theorem dX2_init_23 : decode cX2_init 23 = .ok (.newarray .int, 2) := by decide +kernel
theorem dX2_init_25 : decode cX2_init 25 = .ok (.putfield 18, 3) := by decide +kernel
theorem dX2_init_28 : decode cX2_init 28 = .ok (.return_, 1) := by decide +kernel
theorem dX2_follow_0 : decode cX2_follow 0 = .ok (.iconst 1, 1) := by decide +kernel
theorem dX2_follow_1 : decode cX2_follow 1 = .ok (.iload_n 2, 1) := by decide +kernel
theorem dX2_follow_2 : decode cX2_follow 2 = .ok (.ishl, 1) := by decide +kernel
theorem dX2_follow_3 : decode cX2_follow 3 = .ok (.iconst 1, 1) := by decide +kernel
theorem dX2_follow_4 : decode cX2_follow 4 = .ok (.isub, 1) := by decide +kernel
theorem dX2_follow_5 : decode cX2_follow 5 = .ok (.istore_n 3, 1) := by decide +kernel
theorem dX2_follow_6 : decode cX2_follow 6 = .ok (.iconst 0, 1) := by decide +kernel
theorem dX2_follow_7 : decode cX2_follow 7 = .ok (.istore 4, 2) := by decide +kernel
theorem dX2_follow_9 : decode cX2_follow 9 = .ok (.aload_n 0, 1) := by decide +kernel
theorem dX2_follow_10 : decode cX2_follow 10 = .ok (.iconst 0, 1) := by decide +kernel
theorem dX2_follow_11 : decode cX2_follow 11 = .ok (.putfield 21, 3) := by decide +kernel
theorem dX2_follow_14 : decode cX2_follow 14 = .ok (.iconst 0, 1) := by decide +kernel
theorem dX2_follow_15 : decode cX2_follow 15 = .ok (.istore 5, 2) := by decide +kernel
theorem dX2_follow_17 : decode cX2_follow 17 = .ok (.iload 5, 2) := by decide +kernel
theorem dX2_follow_19 : decode cX2_follow 19 = .ok (.bipush 6, 2) := by decide +kernel
theorem dX2_follow_21 : decode cX2_follow 21 = .ok (.if_icmp .ge 80, 3) := by decide +kernel
theorem dX2_follow_24 : decode cX2_follow 24 = .ok (.iload 4, 2) := by decide +kernel
theorem dX2_follow_26 : decode cX2_follow 26 = .ok (.iload_n 3, 1) := by decide +kernel
theorem dX2_follow_27 : decode cX2_follow 27 = .ok (.if_icmp .eq 74, 3) := by decide +kernel
theorem dX2_follow_30 : decode cX2_follow 30 = .ok (.aload_n 1, 1) := by decide +kernel
theorem dX2_follow_31 : decode cX2_follow 31 = .ok (.iload 4, 2) := by decide +kernel
theorem dX2_follow_33 : decode cX2_follow 33 = .ok (.iload_n 3, 1) := by decide +kernel
theorem dX2_follow_34 : decode cX2_follow 34 = .ok (.invokestatic 25, 3) := by decide +kernel
theorem dX2_follow_37 : decode cX2_follow 37 = .ok (.istore 6, 2) := by decide +kernel
theorem dX2_follow_39 : decode cX2_follow 39 = .ok (.aload_n 0, 1) := by decide +kernel
theorem dX2_follow_40 : decode cX2_follow 40 = .ok (.getfield 9, 3) := by decide +kernel
theorem dX2_follow_43 : decode cX2_follow 43 = .ok (.iload 5, 2) := by decide +kernel
theorem dX2_follow_45 : decode cX2_follow 45 = .ok (.iload 6, 2) := by decide +kernel
theorem dX2_follow_47 : decode cX2_follow 47 = .ok (.iastore, 1) := by decide +kernel
theorem dX2_follow_48 : decode cX2_follow 48 = .ok (.aload_n 0, 1) := by decide +kernel
theorem dX2_follow_49 : decode cX2_follow 49 = .ok (.getfield 15, 3) := by decide +kernel
theorem dX2_follow_52 : decode cX2_follow 52 = .ok (.iload 5, 2) := by decide +kernel
theorem dX2_follow_54 : decode cX2_follow 54 = .ok (.aload_n 1, 1) := by decide +kernel
theorem dX2_follow_55 : decode cX2_follow 55 = .ok (.iload 6, 2) := by decide +kernel
theorem dX2_follow_57 : decode cX2_follow 57 = .ok (.iaload, 1) := by decide +kernel
theorem dX2_follow_58 : decode cX2_follow 58 = .ok (.aload_n 1, 1) := by decide +kernel
theorem dX2_follow_59 : decode cX2_follow 59 = .ok (.iload 4, 2) := by decide +kernel
theorem dX2_follow_61 : decode cX2_follow 61 = .ok (.iaload, 1) := by decide +kernel
theorem dX2_follow_62 : decode cX2_follow 62 = .ok (.isub, 1) := by decide +kernel
theorem dX2_follow_63 : decode cX2_follow 63 = .ok (.iastore, 1) := by decide +kernel
theorem dX2_follow_64 : decode cX2_follow 64 = .ok (.aload_n 0, 1) := by decide +kernel
theorem dX2_follow_65 : decode cX2_follow 65 = .ok (.getfield 18, 3) := by decide +kernel
theorem dX2_follow_68 : decode cX2_follow 68 = .ok (.iload 5, 2) := by decide +kernel
theorem dX2_follow_70 : decode cX2_follow 70 = .ok (.iload 6, 2) := by decide +kernel
theorem dX2_follow_72 : decode cX2_follow 72 = .ok (.iload 4, 2) := by decide +kernel
theorem dX2_follow_74 : decode cX2_follow 74 = .ok (.iconst (-1), 1) := by decide +kernel
theorem dX2_follow_75 : decode cX2_follow 75 = .ok (.ixor, 1) := by decide +kernel
theorem dX2_follow_76 : decode cX2_follow 76 = .ok (.iand, 1) := by decide +kernel
theorem dX2_follow_77 : decode cX2_follow 77 = .ok (.invokestatic 29, 3) := by decide +kernel
theorem dX2_follow_80 : decode cX2_follow 80 = .ok (.iastore, 1) := by decide +kernel
theorem dX2_follow_81 : decode cX2_follow 81 = .ok (.aload_n 0, 1) := by decide +kernel
theorem dX2_follow_82 : decode cX2_follow 82 = .ok (.dup, 1) := by decide +kernel
theorem dX2_follow_83 : decode cX2_follow 83 = .ok (.getfield 21, 3) := by decide +kernel
theorem dX2_follow_86 : decode cX2_follow 86 = .ok (.iconst 1, 1) := by decide +kernel
theorem dX2_follow_87 : decode cX2_follow 87 = .ok (.iadd, 1) := by decide +kernel
theorem dX2_follow_88 : decode cX2_follow 88 = .ok (.putfield 21, 3) := by decide +kernel
theorem dX2_follow_91 : decode cX2_follow 91 = .ok (.iload 6, 2) := by decide +kernel
theorem dX2_follow_93 : decode cX2_follow 93 = .ok (.istore 4, 2) := by decide +kernel
theorem dX2_follow_95 : decode cX2_follow 95 = .ok (.iinc 5 1, 3) := by decide +kernel
theorem dX2_follow_98 : decode cX2_follow 98 = .ok (.goto (-81), 3) := by decide +kernel
theorem dX2_follow_101 : decode cX2_follow 101 = .ok (.return_, 1) := by decide +kernel
theorem dX2_nextMember_0 : decode cX2_nextMember 0 = .ok (.iload_n 2, 1) := by decide +kernel
theorem dX2_nextMember_1 : decode cX2_nextMember 1 = .ok (.istore_n 3, 1) := by decide +kernel
theorem dX2_nextMember_2 : decode cX2_nextMember 2 = .ok (.iconst 0, 1) := by decide +kernel
theorem dX2_nextMember_3 : decode cX2_nextMember 3 = .ok (.istore 4, 2) := by decide +kernel
theorem dX2_nextMember_5 : decode cX2_nextMember 5 = .ok (.iload 4, 2) := by decide +kernel
theorem dX2_nextMember_7 : decode cX2_nextMember 7 = .ok (.iload_n 2, 1) := by decide +kernel
theorem dX2_nextMember_8 : decode cX2_nextMember 8 = .ok (.if_icmp .ge 37, 3) := by decide +kernel
theorem dX2_nextMember_11 : decode cX2_nextMember 11 = .ok (.iload 4, 2) := by decide +kernel
theorem dX2_nextMember_13 : decode cX2_nextMember 13 = .ok (.iload_n 1, 1) := by decide +kernel
theorem dX2_nextMember_14 : decode cX2_nextMember 14 = .ok (.iand, 1) := by decide +kernel
theorem dX2_nextMember_15 : decode cX2_nextMember 15 = .ok (.iload_n 1, 1) := by decide +kernel
theorem dX2_nextMember_16 : decode cX2_nextMember 16 = .ok (.if_icmp .ne 23, 3) := by decide +kernel
theorem dX2_nextMember_19 : decode cX2_nextMember 19 = .ok (.iload 4, 2) := by decide +kernel
theorem dX2_nextMember_21 : decode cX2_nextMember 21 = .ok (.iload_n 1, 1) := by decide +kernel
theorem dX2_nextMember_22 : decode cX2_nextMember 22 = .ok (.if_icmp .eq 17, 3) := by decide +kernel
theorem dX2_nextMember_25 : decode cX2_nextMember 25 = .ok (.aload_n 0, 1) := by decide +kernel
theorem dX2_nextMember_26 : decode cX2_nextMember 26 = .ok (.iload_n 1, 1) := by decide +kernel
theorem dX2_nextMember_27 : decode cX2_nextMember 27 = .ok (.iload 4, 2) := by decide +kernel
theorem dX2_nextMember_29 : decode cX2_nextMember 29 = .ok (.iload_n 3, 1) := by decide +kernel
theorem dX2_nextMember_30 : decode cX2_nextMember 30 = .ok (.invokestatic 35, 3) := by decide +kernel
theorem dX2_nextMember_33 : decode cX2_nextMember 33 = .ok (.ifCond .eq 6, 3) := by decide +kernel
theorem dX2_nextMember_36 : decode cX2_nextMember 36 = .ok (.iload 4, 2) := by decide +kernel
theorem dX2_nextMember_38 : decode cX2_nextMember 38 = .ok (.istore_n 3, 1) := by decide +kernel
theorem dX2_nextMember_39 : decode cX2_nextMember 39 = .ok (.iinc 4 1, 3) := by decide +kernel
theorem dX2_nextMember_42 : decode cX2_nextMember 42 = .ok (.goto (-37), 3) := by decide +kernel
theorem dX2_nextMember_45 : decode cX2_nextMember 45 = .ok (.iload_n 3, 1) := by decide +kernel
theorem dX2_nextMember_46 : decode cX2_nextMember 46 = .ok (.ireturn, 1) := by decide +kernel
theorem dX2_isBetter_0 : decode cX2_isBetter 0 = .ok (.iload_n 2, 1) := by decide +kernel
theorem dX2_isBetter_1 : decode cX2_isBetter 1 = .ok (.iload_n 1, 1) := by decide +kernel
theorem dX2_isBetter_2 : decode cX2_isBetter 2 = .ok (.iconst (-1), 1) := by decide +kernel
theorem dX2_isBetter_3 : decode cX2_isBetter 3 = .ok (.ixor, 1) := by decide +kernel
theorem dX2_isBetter_4 : decode cX2_isBetter 4 = .ok (.iand, 1) := by decide +kernel
theorem dX2_isBetter_5 : decode cX2_isBetter 5 = .ok (.invokestatic 29, 3) := by decide +kernel
theorem dX2_isBetter_8 : decode cX2_isBetter 8 = .ok (.istore 4, 2) := by decide +kernel
theorem dX2_isBetter_10 : decode cX2_isBetter 10 = .ok (.iload_n 3, 1) := by decide +kernel
theorem dX2_isBetter_11 : decode cX2_isBetter 11 = .ok (.iload_n 1, 1) := by decide +kernel
theorem dX2_isBetter_12 : decode cX2_isBetter 12 = .ok (.iconst (-1), 1) := by decide +kernel
theorem dX2_isBetter_13 : decode cX2_isBetter 13 = .ok (.ixor, 1) := by decide +kernel
theorem dX2_isBetter_14 : decode cX2_isBetter 14 = .ok (.iand, 1) := by decide +kernel
theorem dX2_isBetter_15 : decode cX2_isBetter 15 = .ok (.invokestatic 29, 3) := by decide +kernel
theorem dX2_isBetter_18 : decode cX2_isBetter 18 = .ok (.istore 5, 2) := by decide +kernel
theorem dX2_isBetter_20 : decode cX2_isBetter 20 = .ok (.aload_n 0, 1) := by decide +kernel
theorem dX2_isBetter_21 : decode cX2_isBetter 21 = .ok (.iload_n 2, 1) := by decide +kernel
theorem dX2_isBetter_22 : decode cX2_isBetter 22 = .ok (.iaload, 1) := by decide +kernel
theorem dX2_isBetter_23 : decode cX2_isBetter 23 = .ok (.aload_n 0, 1) := by decide +kernel
theorem dX2_isBetter_24 : decode cX2_isBetter 24 = .ok (.iload_n 1, 1) := by decide +kernel
theorem dX2_isBetter_25 : decode cX2_isBetter 25 = .ok (.iaload, 1) := by decide +kernel
theorem dX2_isBetter_26 : decode cX2_isBetter 26 = .ok (.isub, 1) := by decide +kernel
theorem dX2_isBetter_27 : decode cX2_isBetter 27 = .ok (.iload 5, 2) := by decide +kernel
theorem dX2_isBetter_29 : decode cX2_isBetter 29 = .ok (.imul, 1) := by decide +kernel
theorem dX2_isBetter_30 : decode cX2_isBetter 30 = .ok (.istore 6, 2) := by decide +kernel
theorem dX2_isBetter_32 : decode cX2_isBetter 32 = .ok (.aload_n 0, 1) := by decide +kernel
theorem dX2_isBetter_33 : decode cX2_isBetter 33 = .ok (.iload_n 3, 1) := by decide +kernel
theorem dX2_isBetter_34 : decode cX2_isBetter 34 = .ok (.iaload, 1) := by decide +kernel
theorem dX2_isBetter_35 : decode cX2_isBetter 35 = .ok (.aload_n 0, 1) := by decide +kernel
theorem dX2_isBetter_36 : decode cX2_isBetter 36 = .ok (.iload_n 1, 1) := by decide +kernel
theorem dX2_isBetter_37 : decode cX2_isBetter 37 = .ok (.iaload, 1) := by decide +kernel
theorem dX2_isBetter_38 : decode cX2_isBetter 38 = .ok (.isub, 1) := by decide +kernel
theorem dX2_isBetter_39 : decode cX2_isBetter 39 = .ok (.iload 4, 2) := by decide +kernel
theorem dX2_isBetter_41 : decode cX2_isBetter 41 = .ok (.imul, 1) := by decide +kernel
theorem dX2_isBetter_42 : decode cX2_isBetter 42 = .ok (.istore 7, 2) := by decide +kernel
theorem dX2_isBetter_44 : decode cX2_isBetter 44 = .ok (.iload 6, 2) := by decide +kernel
theorem dX2_isBetter_46 : decode cX2_isBetter 46 = .ok (.iload 7, 2) := by decide +kernel
theorem dX2_isBetter_48 : decode cX2_isBetter 48 = .ok (.if_icmp .eq 16, 3) := by decide +kernel
theorem dX2_isBetter_51 : decode cX2_isBetter 51 = .ok (.iload 6, 2) := by decide +kernel
theorem dX2_isBetter_53 : decode cX2_isBetter 53 = .ok (.iload 7, 2) := by decide +kernel
theorem dX2_isBetter_55 : decode cX2_isBetter 55 = .ok (.if_icmp .ge 7, 3) := by decide +kernel
theorem dX2_isBetter_58 : decode cX2_isBetter 58 = .ok (.iconst 1, 1) := by decide +kernel
theorem dX2_isBetter_59 : decode cX2_isBetter 59 = .ok (.goto 4, 3) := by decide +kernel
theorem dX2_isBetter_62 : decode cX2_isBetter 62 = .ok (.iconst 0, 1) := by decide +kernel
theorem dX2_isBetter_63 : decode cX2_isBetter 63 = .ok (.ireturn, 1) := by decide +kernel
theorem dX2_isBetter_64 : decode cX2_isBetter 64 = .ok (.iload 4, 2) := by decide +kernel
theorem dX2_isBetter_66 : decode cX2_isBetter 66 = .ok (.iload 5, 2) := by decide +kernel
theorem dX2_isBetter_68 : decode cX2_isBetter 68 = .ok (.if_icmp .le 7, 3) := by decide +kernel
theorem dX2_isBetter_71 : decode cX2_isBetter 71 = .ok (.iconst 1, 1) := by decide +kernel
theorem dX2_isBetter_72 : decode cX2_isBetter 72 = .ok (.goto 4, 3) := by decide +kernel
theorem dX2_isBetter_75 : decode cX2_isBetter 75 = .ok (.iconst 0, 1) := by decide +kernel
theorem dX2_isBetter_76 : decode cX2_isBetter 76 = .ok (.ireturn, 1) := by decide +kernel
theorem dX2_commonDivisor_0 : decode cX2_commonDivisor 0 = .ok (.bipush 6, 2) := by decide +kernel
theorem dX2_commonDivisor_2 : decode cX2_commonDivisor 2 = .ok (.istore_n 2, 1) := by decide +kernel
theorem dX2_commonDivisor_3 : decode cX2_commonDivisor 3 = .ok (.iload_n 2, 1) := by decide +kernel
theorem dX2_commonDivisor_4 : decode cX2_commonDivisor 4 = .ok (.iconst 1, 1) := by decide +kernel
theorem dX2_commonDivisor_5 : decode cX2_commonDivisor 5 = .ok (.if_icmp .le 33, 3) := by decide +kernel
theorem dX2_commonDivisor_8 : decode cX2_commonDivisor 8 = .ok (.aload_n 0, 1) := by decide +kernel
theorem dX2_commonDivisor_9 : decode cX2_commonDivisor 9 = .ok (.getfield 15, 3) := by decide +kernel
theorem dX2_commonDivisor_12 : decode cX2_commonDivisor 12 = .ok (.iload_n 1, 1) := by decide +kernel
theorem dX2_commonDivisor_13 : decode cX2_commonDivisor 13 = .ok (.iaload, 1) := by decide +kernel
theorem dX2_commonDivisor_14 : decode cX2_commonDivisor 14 = .ok (.iload_n 2, 1) := by decide +kernel
theorem dX2_commonDivisor_15 : decode cX2_commonDivisor 15 = .ok (.irem, 1) := by decide +kernel
theorem dX2_commonDivisor_16 : decode cX2_commonDivisor 16 = .ok (.ifCond .ne 16, 3) := by decide +kernel
theorem dX2_commonDivisor_19 : decode cX2_commonDivisor 19 = .ok (.aload_n 0, 1) := by decide +kernel
theorem dX2_commonDivisor_20 : decode cX2_commonDivisor 20 = .ok (.getfield 18, 3) := by decide +kernel
theorem dX2_commonDivisor_23 : decode cX2_commonDivisor 23 = .ok (.iload_n 1, 1) := by decide +kernel
theorem dX2_commonDivisor_24 : decode cX2_commonDivisor 24 = .ok (.iaload, 1) := by decide +kernel
theorem dX2_commonDivisor_25 : decode cX2_commonDivisor 25 = .ok (.iload_n 2, 1) := by decide +kernel
theorem dX2_commonDivisor_26 : decode cX2_commonDivisor 26 = .ok (.irem, 1) := by decide +kernel
theorem dX2_commonDivisor_27 : decode cX2_commonDivisor 27 = .ok (.ifCond .ne 5, 3) := by decide +kernel
theorem dX2_commonDivisor_30 : decode cX2_commonDivisor 30 = .ok (.iload_n 2, 1) := by decide +kernel
theorem dX2_commonDivisor_31 : decode cX2_commonDivisor 31 = .ok (.ireturn, 1) := by decide +kernel
theorem dX2_commonDivisor_32 : decode cX2_commonDivisor 32 = .ok (.iinc 2 (-1), 3) := by decide +kernel
theorem dX2_commonDivisor_35 : decode cX2_commonDivisor 35 = .ok (.goto (-32), 3) := by decide +kernel
theorem dX2_commonDivisor_38 : decode cX2_commonDivisor 38 = .ok (.iconst 1, 1) := by decide +kernel
theorem dX2_commonDivisor_39 : decode cX2_commonDivisor 39 = .ok (.ireturn, 1) := by decide +kernel
theorem dX3_init_0 : decode cX3_init 0 = .ok (.aload_n 0, 1) := by decide +kernel
theorem dX3_init_1 : decode cX3_init 1 = .ok (.invokespecial 3, 3) := by decide +kernel
theorem dX3_init_4 : decode cX3_init 4 = .ok (.aload_n 0, 1) := by decide +kernel
theorem dX3_init_5 : decode cX3_init 5 = .ok (.iconst (-1), 1) := by decide +kernel
theorem dX3_init_6 : decode cX3_init 6 = .ok (.putfield 9, 3) := by decide +kernel
theorem dX3_init_9 : decode cX3_init 9 = .ok (.aload_n 0, 1) := by decide +kernel
theorem dX3_init_10 : decode cX3_init 10 = .ok (.bipush 64, 2) := by decide +kernel
theorem dX3_init_12 : decode cX3_init 12 = .ok (.newarray .int, 2) := by decide +kernel
theorem dX3_init_14 : decode cX3_init 14 = .ok (.putfield 15, 3) := by decide +kernel
theorem dX3_init_17 : decode cX3_init 17 = .ok (.return_, 1) := by decide +kernel
theorem dX3_isMissing_0 : decode cX3_isMissing 0 = .ok (.aload_n 0, 1) := by decide +kernel
theorem dX3_isMissing_1 : decode cX3_isMissing 1 = .ok (.getfield 9, 3) := by decide +kernel
theorem dX3_isMissing_4 : decode cX3_isMissing 4 = .ok (.iconst (-1), 1) := by decide +kernel
theorem dX3_isMissing_5 : decode cX3_isMissing 5 = .ok (.if_icmp .ne 7, 3) := by decide +kernel
theorem dX3_isMissing_8 : decode cX3_isMissing 8 = .ok (.iconst 1, 1) := by decide +kernel
theorem dX3_isMissing_9 : decode cX3_isMissing 9 = .ok (.goto 4, 3) := by decide +kernel
theorem dX3_isMissing_12 : decode cX3_isMissing 12 = .ok (.iconst 0, 1) := by decide +kernel
theorem dX3_isMissing_13 : decode cX3_isMissing 13 = .ok (.ireturn, 1) := by decide +kernel
theorem dX3_vanish_0 : decode cX3_vanish 0 = .ok (.aload_n 0, 1) := by decide +kernel
theorem dX3_vanish_1 : decode cX3_vanish 1 = .ok (.iconst (-1), 1) := by decide +kernel
theorem dX3_vanish_2 : decode cX3_vanish 2 = .ok (.putfield 9, 3) := by decide +kernel
theorem dX3_vanish_5 : decode cX3_vanish 5 = .ok (.aload_n 0, 1) := by decide +kernel
theorem dX3_vanish_6 : decode cX3_vanish 6 = .ok (.getfield 15, 3) := by decide +kernel
theorem dX3_vanish_9 : decode cX3_vanish 9 = .ok (.iconst 0, 1) := by decide +kernel
theorem dX3_vanish_10 : decode cX3_vanish 10 = .ok (.invokestatic 19, 3) := by decide +kernel
theorem dX3_vanish_13 : decode cX3_vanish 13 = .ok (.return_, 1) := by decide +kernel
theorem dX3_copyFrom_0 : decode cX3_copyFrom 0 = .ok (.aload_n 0, 1) := by decide +kernel
theorem dX3_copyFrom_1 : decode cX3_copyFrom 1 = .ok (.aload_n 1, 1) := by decide +kernel
theorem dX3_copyFrom_2 : decode cX3_copyFrom 2 = .ok (.getfield 9, 3) := by decide +kernel
theorem dX3_copyFrom_5 : decode cX3_copyFrom 5 = .ok (.putfield 9, 3) := by decide +kernel
theorem dX3_copyFrom_8 : decode cX3_copyFrom 8 = .ok (.aload_n 1, 1) := by decide +kernel
theorem dX3_copyFrom_9 : decode cX3_copyFrom 9 = .ok (.getfield 15, 3) := by decide +kernel
theorem dX3_copyFrom_12 : decode cX3_copyFrom 12 = .ok (.iconst 0, 1) := by decide +kernel
theorem dX3_copyFrom_13 : decode cX3_copyFrom 13 = .ok (.aload_n 0, 1) := by decide +kernel
theorem dX3_copyFrom_14 : decode cX3_copyFrom 14 = .ok (.getfield 15, 3) := by decide +kernel
theorem dX3_copyFrom_17 : decode cX3_copyFrom 17 = .ok (.iconst 0, 1) := by decide +kernel
theorem dX3_copyFrom_18 : decode cX3_copyFrom 18 = .ok (.bipush 64, 2) := by decide +kernel
theorem dX3_copyFrom_20 : decode cX3_copyFrom 20 = .ok (.invokestatic 25, 3) := by decide +kernel
theorem dX3_copyFrom_23 : decode cX3_copyFrom 23 = .ok (.return_, 1) := by decide +kernel
theorem dX3_gainAt_0 : decode cX3_gainAt 0 = .ok (.aload_n 0, 1) := by decide +kernel
theorem dX3_gainAt_1 : decode cX3_gainAt 1 = .ok (.getfield 15, 3) := by decide +kernel
theorem dX3_gainAt_4 : decode cX3_gainAt 4 = .ok (.iload_n 1, 1) := by decide +kernel
theorem dX3_gainAt_5 : decode cX3_gainAt 5 = .ok (.iconst 1, 1) := by decide +kernel
theorem dX3_gainAt_6 : decode cX3_gainAt 6 = .ok (.iload_n 2, 1) := by decide +kernel
theorem dX3_gainAt_7 : decode cX3_gainAt 7 = .ok (.ishl, 1) := by decide +kernel
theorem dX3_gainAt_8 : decode cX3_gainAt 8 = .ok (.ior, 1) := by decide +kernel
theorem dX3_gainAt_9 : decode cX3_gainAt 9 = .ok (.iaload, 1) := by decide +kernel
theorem dX3_gainAt_10 : decode cX3_gainAt 10 = .ok (.aload_n 0, 1) := by decide +kernel
theorem dX3_gainAt_11 : decode cX3_gainAt 11 = .ok (.getfield 15, 3) := by decide +kernel
theorem dX3_gainAt_14 : decode cX3_gainAt 14 = .ok (.iload_n 1, 1) := by decide +kernel
theorem dX3_gainAt_15 : decode cX3_gainAt 15 = .ok (.iaload, 1) := by decide +kernel
theorem dX3_gainAt_16 : decode cX3_gainAt 16 = .ok (.isub, 1) := by decide +kernel
theorem dX3_gainAt_17 : decode cX3_gainAt 17 = .ok (.ireturn, 1) := by decide +kernel
theorem dX3_firstFailure_0 : decode cX3_firstFailure 0 = .ok (.iconst 0, 1) := by decide +kernel
theorem dX3_firstFailure_1 : decode cX3_firstFailure 1 = .ok (.istore_n 2, 1) := by decide +kernel
theorem dX3_firstFailure_2 : decode cX3_firstFailure 2 = .ok (.iload_n 2, 1) := by decide +kernel
theorem dX3_firstFailure_3 : decode cX3_firstFailure 3 = .ok (.iconst 1, 1) := by decide +kernel
theorem dX3_firstFailure_4 : decode cX3_firstFailure 4 = .ok (.iload_n 1, 1) := by decide +kernel
theorem dX3_firstFailure_5 : decode cX3_firstFailure 5 = .ok (.ishl, 1) := by decide +kernel
theorem dX3_firstFailure_6 : decode cX3_firstFailure 6 = .ok (.if_icmp .ge 61, 3) := by decide +kernel
theorem dX3_firstFailure_9 : decode cX3_firstFailure 9 = .ok (.iconst 0, 1) := by decide +kernel
theorem dX3_firstFailure_10 : decode cX3_firstFailure 10 = .ok (.istore_n 3, 1) := by decide +kernel
theorem dX3_firstFailure_11 : decode cX3_firstFailure 11 = .ok (.iload_n 3, 1) := by decide +kernel
theorem dX3_firstFailure_12 : decode cX3_firstFailure 12 = .ok (.iload_n 1, 1) := by decide +kernel
theorem dX3_firstFailure_13 : decode cX3_firstFailure 13 = .ok (.if_icmp .ge 48, 3) := by decide +kernel
theorem dX3_firstFailure_16 : decode cX3_firstFailure 16 = .ok (.iconst 0, 1) := by decide +kernel
theorem dX3_firstFailure_17 : decode cX3_firstFailure 17 = .ok (.istore 4, 2) := by decide +kernel
theorem dX3_firstFailure_19 : decode cX3_firstFailure 19 = .ok (.iload 4, 2) := by decide +kernel
theorem dX3_firstFailure_21 : decode cX3_firstFailure 21 = .ok (.iload_n 1, 1) := by decide +kernel
theorem dX3_firstFailure_22 : decode cX3_firstFailure 22 = .ok (.if_icmp .ge 33, 3) := by decide +kernel
theorem dX3_firstFailure_25 : decode cX3_firstFailure 25 = .ok (.aload_n 0, 1) := by decide +kernel
theorem dX3_firstFailure_26 : decode cX3_firstFailure 26 = .ok (.iload_n 2, 1) := by decide +kernel
theorem dX3_firstFailure_27 : decode cX3_firstFailure 27 = .ok (.iload_n 3, 1) := by decide +kernel
theorem dX3_firstFailure_28 : decode cX3_firstFailure 28 = .ok (.iload 4, 2) := by decide +kernel
theorem dX3_firstFailure_30 : decode cX3_firstFailure 30 = .ok (.invokevirtual 31, 3) := by decide +kernel
theorem dX3_firstFailure_33 : decode cX3_firstFailure 33 = .ok (.ifCond .eq 16, 3) := by decide +kernel
theorem dX3_firstFailure_36 : decode cX3_firstFailure 36 = .ok (.iload_n 2, 1) := by decide +kernel
theorem dX3_firstFailure_37 : decode cX3_firstFailure 37 = .ok (.iload_n 3, 1) := by decide +kernel
theorem dX3_firstFailure_38 : decode cX3_firstFailure 38 = .ok (.bipush 8, 2) := by decide +kernel
theorem dX3_firstFailure_40 : decode cX3_firstFailure 40 = .ok (.ishl, 1) := by decide +kernel
theorem dX3_firstFailure_41 : decode cX3_firstFailure 41 = .ok (.ior, 1) := by decide +kernel
theorem dX3_firstFailure_42 : decode cX3_firstFailure 42 = .ok (.iload 4, 2) := by decide +kernel
theorem dX3_firstFailure_44 : decode cX3_firstFailure 44 = .ok (.bipush 16, 2) := by decide +kernel
theorem dX3_firstFailure_46 : decode cX3_firstFailure 46 = .ok (.ishl, 1) := by decide +kernel
theorem dX3_firstFailure_47 : decode cX3_firstFailure 47 = .ok (.ior, 1) := by decide +kernel
theorem dX3_firstFailure_48 : decode cX3_firstFailure 48 = .ok (.ireturn, 1) := by decide +kernel
theorem dX3_firstFailure_49 : decode cX3_firstFailure 49 = .ok (.iinc 4 1, 3) := by decide +kernel
theorem dX3_firstFailure_52 : decode cX3_firstFailure 52 = .ok (.goto (-33), 3) := by decide +kernel
theorem dX3_firstFailure_55 : decode cX3_firstFailure 55 = .ok (.iinc 3 1, 3) := by decide +kernel
theorem dX3_firstFailure_58 : decode cX3_firstFailure 58 = .ok (.goto (-47), 3) := by decide +kernel
theorem dX3_firstFailure_61 : decode cX3_firstFailure 61 = .ok (.iinc 2 1, 3) := by decide +kernel
theorem dX3_firstFailure_64 : decode cX3_firstFailure 64 = .ok (.goto (-62), 3) := by decide +kernel
theorem dX3_firstFailure_67 : decode cX3_firstFailure 67 = .ok (.bipush (-5), 2) := by decide +kernel
theorem dX3_firstFailure_69 : decode cX3_firstFailure 69 = .ok (.ireturn, 1) := by decide +kernel
theorem dX3_gainGrows_0 : decode cX3_gainGrows 0 = .ok (.iload_n 2, 1) := by decide +kernel
theorem dX3_gainGrows_1 : decode cX3_gainGrows 1 = .ok (.iload_n 3, 1) := by decide +kernel
theorem dX3_gainGrows_2 : decode cX3_gainGrows 2 = .ok (.if_icmp .eq 19, 3) := by decide +kernel
theorem dX3_gainGrows_5 : decode cX3_gainGrows 5 = .ok (.iload_n 1, 1) := by decide +kernel
theorem dX3_gainGrows_6 : decode cX3_gainGrows 6 = .ok (.iload_n 2, 1) := by decide +kernel
theorem dX3_gainGrows_7 : decode cX3_gainGrows 7 = .ok (.invokestatic 35, 3) := by decide +kernel
theorem dX3_gainGrows_10 : decode cX3_gainGrows 10 = .ok (.ifCond .ne 11, 3) := by decide +kernel
theorem dX3_gainGrows_13 : decode cX3_gainGrows 13 = .ok (.iload_n 1, 1) := by decide +kernel
theorem dX3_gainGrows_14 : decode cX3_gainGrows 14 = .ok (.iload_n 3, 1) := by decide +kernel
theorem dX3_gainGrows_15 : decode cX3_gainGrows 15 = .ok (.invokestatic 35, 3) := by decide +kernel
theorem dX3_gainGrows_18 : decode cX3_gainGrows 18 = .ok (.ifCond .eq 5, 3) := by decide +kernel
theorem dX3_gainGrows_21 : decode cX3_gainGrows 21 = .ok (.iconst 0, 1) := by decide +kernel
theorem dX3_gainGrows_22 : decode cX3_gainGrows 22 = .ok (.ireturn, 1) := by decide +kernel
theorem dX3_gainGrows_23 : decode cX3_gainGrows 23 = .ok (.aload_n 0, 1) := by decide +kernel
theorem dX3_gainGrows_24 : decode cX3_gainGrows 24 = .ok (.iload_n 1, 1) := by decide +kernel
theorem dX3_gainGrows_25 : decode cX3_gainGrows 25 = .ok (.iload_n 2, 1) := by decide +kernel
theorem dX3_gainGrows_26 : decode cX3_gainGrows 26 = .ok (.invokevirtual 39, 3) := by decide +kernel
theorem dX3_gainGrows_29 : decode cX3_gainGrows 29 = .ok (.aload_n 0, 1) := by decide +kernel
theorem dX3_gainGrows_30 : decode cX3_gainGrows 30 = .ok (.iload_n 1, 1) := by decide +kernel
theorem dX3_gainGrows_31 : decode cX3_gainGrows 31 = .ok (.iconst 1, 1) := by decide +kernel
theorem dX3_gainGrows_32 : decode cX3_gainGrows 32 = .ok (.iload_n 3, 1) := by decide +kernel
theorem dX3_gainGrows_33 : decode cX3_gainGrows 33 = .ok (.ishl, 1) := by decide +kernel
theorem dX3_gainGrows_34 : decode cX3_gainGrows 34 = .ok (.ior, 1) := by decide +kernel
theorem dX3_gainGrows_35 : decode cX3_gainGrows 35 = .ok (.iload_n 2, 1) := by decide +kernel
theorem dX3_gainGrows_36 : decode cX3_gainGrows 36 = .ok (.invokevirtual 39, 3) := by decide +kernel
theorem dX3_gainGrows_39 : decode cX3_gainGrows 39 = .ok (.if_icmp .ge 7, 3) := by decide +kernel
theorem dX3_gainGrows_42 : decode cX3_gainGrows 42 = .ok (.iconst 1, 1) := by decide +kernel
theorem dX3_gainGrows_43 : decode cX3_gainGrows 43 = .ok (.goto 4, 3) := by decide +kernel
theorem dX3_gainGrows_46 : decode cX3_gainGrows 46 = .ok (.iconst 0, 1) := by decide +kernel
theorem dX3_gainGrows_47 : decode cX3_gainGrows 47 = .ok (.ireturn, 1) := by decide +kernel
theorem dX3_setOfFailure_0 : decode cX3_setOfFailure 0 = .ok (.iload_n 0, 1) := by decide +kernel
theorem dX3_setOfFailure_1 : decode cX3_setOfFailure 1 = .ok (.sipush 255, 3) := by decide +kernel
theorem dX3_setOfFailure_4 : decode cX3_setOfFailure 4 = .ok (.iand, 1) := by decide +kernel
theorem dX3_setOfFailure_5 : decode cX3_setOfFailure 5 = .ok (.ireturn, 1) := by decide +kernel
theorem dX3_firstPointOfFailure_0 : decode cX3_firstPointOfFailure 0 = .ok (.iload_n 0, 1) := by decide +kernel
theorem dX3_firstPointOfFailure_1 : decode cX3_firstPointOfFailure 1 = .ok (.bipush 8, 2) := by decide +kernel
theorem dX3_firstPointOfFailure_3 : decode cX3_firstPointOfFailure 3 = .ok (.ishr, 1) := by decide +kernel
theorem dX3_firstPointOfFailure_4 : decode cX3_firstPointOfFailure 4 = .ok (.sipush 255, 3) := by decide +kernel
theorem dX3_firstPointOfFailure_7 : decode cX3_firstPointOfFailure 7 = .ok (.iand, 1) := by decide +kernel
theorem dX3_firstPointOfFailure_8 : decode cX3_firstPointOfFailure 8 = .ok (.ireturn, 1) := by decide +kernel
theorem dX3_secondPointOfFailure_0 : decode cX3_secondPointOfFailure 0 = .ok (.iload_n 0, 1) := by decide +kernel
theorem dX3_secondPointOfFailure_1 : decode cX3_secondPointOfFailure 1 = .ok (.bipush 16, 2) := by decide +kernel
theorem dX3_secondPointOfFailure_3 : decode cX3_secondPointOfFailure 3 = .ok (.ishr, 1) := by decide +kernel
theorem dX3_secondPointOfFailure_4 : decode cX3_secondPointOfFailure 4 = .ok (.sipush 255, 3) := by decide +kernel
theorem dX3_secondPointOfFailure_7 : decode cX3_secondPointOfFailure 7 = .ok (.iand, 1) := by decide +kernel
theorem dX3_secondPointOfFailure_8 : decode cX3_secondPointOfFailure 8 = .ok (.ireturn, 1) := by decide +kernel
theorem dX3_isIncreasing_0 : decode cX3_isIncreasing 0 = .ok (.iconst 0, 1) := by decide +kernel
theorem dX3_isIncreasing_1 : decode cX3_isIncreasing 1 = .ok (.istore_n 2, 1) := by decide +kernel
theorem dX3_isIncreasing_2 : decode cX3_isIncreasing 2 = .ok (.iload_n 2, 1) := by decide +kernel
theorem dX3_isIncreasing_3 : decode cX3_isIncreasing 3 = .ok (.iconst 1, 1) := by decide +kernel
theorem dX3_isIncreasing_4 : decode cX3_isIncreasing 4 = .ok (.iload_n 1, 1) := by decide +kernel
theorem dX3_isIncreasing_5 : decode cX3_isIncreasing 5 = .ok (.ishl, 1) := by decide +kernel
theorem dX3_isIncreasing_6 : decode cX3_isIncreasing 6 = .ok (.if_icmp .ge 33, 3) := by decide +kernel
theorem dX3_isIncreasing_9 : decode cX3_isIncreasing 9 = .ok (.iconst 0, 1) := by decide +kernel
theorem dX3_isIncreasing_10 : decode cX3_isIncreasing 10 = .ok (.istore_n 3, 1) := by decide +kernel
theorem dX3_isIncreasing_11 : decode cX3_isIncreasing 11 = .ok (.iload_n 3, 1) := by decide +kernel
theorem dX3_isIncreasing_12 : decode cX3_isIncreasing 12 = .ok (.iload_n 1, 1) := by decide +kernel
theorem dX3_isIncreasing_13 : decode cX3_isIncreasing 13 = .ok (.if_icmp .ge 20, 3) := by decide +kernel
theorem dX3_isIncreasing_16 : decode cX3_isIncreasing 16 = .ok (.aload_n 0, 1) := by decide +kernel
theorem dX3_isIncreasing_17 : decode cX3_isIncreasing 17 = .ok (.iload_n 2, 1) := by decide +kernel
theorem dX3_isIncreasing_18 : decode cX3_isIncreasing 18 = .ok (.iload_n 3, 1) := by decide +kernel
theorem dX3_isIncreasing_19 : decode cX3_isIncreasing 19 = .ok (.invokevirtual 39, 3) := by decide +kernel
theorem dX3_isIncreasing_22 : decode cX3_isIncreasing 22 = .ok (.ifCond .ge 5, 3) := by decide +kernel
theorem dX3_isIncreasing_25 : decode cX3_isIncreasing 25 = .ok (.iconst 0, 1) := by decide +kernel
theorem dX3_isIncreasing_26 : decode cX3_isIncreasing 26 = .ok (.ireturn, 1) := by decide +kernel
theorem dX3_isIncreasing_27 : decode cX3_isIncreasing 27 = .ok (.iinc 3 1, 3) := by decide +kernel
theorem dX3_isIncreasing_30 : decode cX3_isIncreasing 30 = .ok (.goto (-19), 3) := by decide +kernel
theorem dX3_isIncreasing_33 : decode cX3_isIncreasing 33 = .ok (.iinc 2 1, 3) := by decide +kernel
theorem dX3_isIncreasing_36 : decode cX3_isIncreasing 36 = .ok (.goto (-34), 3) := by decide +kernel
theorem dX3_isIncreasing_39 : decode cX3_isIncreasing 39 = .ok (.iconst 1, 1) := by decide +kernel
theorem dX3_isIncreasing_40 : decode cX3_isIncreasing 40 = .ok (.ireturn, 1) := by decide +kernel
theorem dX3_isSymmetric_0 : decode cX3_isSymmetric 0 = .ok (.iconst 1, 1) := by decide +kernel
theorem dX3_isSymmetric_1 : decode cX3_isSymmetric 1 = .ok (.iload_n 1, 1) := by decide +kernel
theorem dX3_isSymmetric_2 : decode cX3_isSymmetric 2 = .ok (.ishl, 1) := by decide +kernel
theorem dX3_isSymmetric_3 : decode cX3_isSymmetric 3 = .ok (.iconst 1, 1) := by decide +kernel
theorem dX3_isSymmetric_4 : decode cX3_isSymmetric 4 = .ok (.isub, 1) := by decide +kernel
theorem dX3_isSymmetric_5 : decode cX3_isSymmetric 5 = .ok (.istore_n 2, 1) := by decide +kernel
theorem dX3_isSymmetric_6 : decode cX3_isSymmetric 6 = .ok (.iconst 0, 1) := by decide +kernel
theorem dX3_isSymmetric_7 : decode cX3_isSymmetric 7 = .ok (.istore_n 3, 1) := by decide +kernel
theorem dX3_isSymmetric_8 : decode cX3_isSymmetric 8 = .ok (.iload_n 3, 1) := by decide +kernel
theorem dX3_isSymmetric_9 : decode cX3_isSymmetric 9 = .ok (.iload_n 2, 1) := by decide +kernel
theorem dX3_isSymmetric_10 : decode cX3_isSymmetric 10 = .ok (.if_icmp .gt 30, 3) := by decide +kernel
theorem dX3_isSymmetric_13 : decode cX3_isSymmetric 13 = .ok (.aload_n 0, 1) := by decide +kernel
theorem dX3_isSymmetric_14 : decode cX3_isSymmetric 14 = .ok (.getfield 15, 3) := by decide +kernel
theorem dX3_isSymmetric_17 : decode cX3_isSymmetric 17 = .ok (.iload_n 3, 1) := by decide +kernel
theorem dX3_isSymmetric_18 : decode cX3_isSymmetric 18 = .ok (.iaload, 1) := by decide +kernel
theorem dX3_isSymmetric_19 : decode cX3_isSymmetric 19 = .ok (.aload_n 0, 1) := by decide +kernel
theorem dX3_isSymmetric_20 : decode cX3_isSymmetric 20 = .ok (.getfield 15, 3) := by decide +kernel
theorem dX3_isSymmetric_23 : decode cX3_isSymmetric 23 = .ok (.iload_n 2, 1) := by decide +kernel
theorem dX3_isSymmetric_24 : decode cX3_isSymmetric 24 = .ok (.iload_n 3, 1) := by decide +kernel
theorem dX3_isSymmetric_25 : decode cX3_isSymmetric 25 = .ok (.iconst (-1), 1) := by decide +kernel
theorem dX3_isSymmetric_26 : decode cX3_isSymmetric 26 = .ok (.ixor, 1) := by decide +kernel
theorem dX3_isSymmetric_27 : decode cX3_isSymmetric 27 = .ok (.iand, 1) := by decide +kernel
theorem dX3_isSymmetric_28 : decode cX3_isSymmetric 28 = .ok (.iaload, 1) := by decide +kernel
theorem dX3_isSymmetric_29 : decode cX3_isSymmetric 29 = .ok (.if_icmp .eq 5, 3) := by decide +kernel
theorem dX3_isSymmetric_32 : decode cX3_isSymmetric 32 = .ok (.iconst 0, 1) := by decide +kernel
theorem dX3_isSymmetric_33 : decode cX3_isSymmetric 33 = .ok (.ireturn, 1) := by decide +kernel
theorem dX3_isSymmetric_34 : decode cX3_isSymmetric 34 = .ok (.iinc 3 1, 3) := by decide +kernel
theorem dX3_isSymmetric_37 : decode cX3_isSymmetric 37 = .ok (.goto (-29), 3) := by decide +kernel
theorem dX3_isSymmetric_40 : decode cX3_isSymmetric 40 = .ok (.iconst 1, 1) := by decide +kernel
theorem dX3_isSymmetric_41 : decode cX3_isSymmetric 41 = .ok (.ireturn, 1) := by decide +kernel
theorem dX3_isModular_0 : decode cX3_isModular 0 = .ok (.iconst 0, 1) := by decide +kernel
theorem dX3_isModular_1 : decode cX3_isModular 1 = .ok (.istore_n 2, 1) := by decide +kernel
theorem dX3_isModular_2 : decode cX3_isModular 2 = .ok (.iload_n 2, 1) := by decide +kernel
theorem dX3_isModular_3 : decode cX3_isModular 3 = .ok (.iconst 1, 1) := by decide +kernel
theorem dX3_isModular_4 : decode cX3_isModular 4 = .ok (.iload_n 1, 1) := by decide +kernel
theorem dX3_isModular_5 : decode cX3_isModular 5 = .ok (.ishl, 1) := by decide +kernel
theorem dX3_isModular_6 : decode cX3_isModular 6 = .ok (.if_icmp .ge 47, 3) := by decide +kernel
theorem dX3_isModular_9 : decode cX3_isModular 9 = .ok (.iconst 0, 1) := by decide +kernel
theorem dX3_isModular_10 : decode cX3_isModular 10 = .ok (.istore_n 3, 1) := by decide +kernel
theorem dX3_isModular_11 : decode cX3_isModular 11 = .ok (.iload_n 3, 1) := by decide +kernel
theorem dX3_isModular_12 : decode cX3_isModular 12 = .ok (.iload_n 1, 1) := by decide +kernel
theorem dX3_isModular_13 : decode cX3_isModular 13 = .ok (.if_icmp .ge 34, 3) := by decide +kernel
theorem dX3_isModular_16 : decode cX3_isModular 16 = .ok (.iload_n 2, 1) := by decide +kernel
theorem dX3_isModular_17 : decode cX3_isModular 17 = .ok (.iload_n 3, 1) := by decide +kernel
theorem dX3_isModular_18 : decode cX3_isModular 18 = .ok (.invokestatic 35, 3) := by decide +kernel
theorem dX3_isModular_21 : decode cX3_isModular 21 = .ok (.ifCond .ne 20, 3) := by decide +kernel
theorem dX3_isModular_24 : decode cX3_isModular 24 = .ok (.aload_n 0, 1) := by decide +kernel
theorem dX3_isModular_25 : decode cX3_isModular 25 = .ok (.iload_n 2, 1) := by decide +kernel
theorem dX3_isModular_26 : decode cX3_isModular 26 = .ok (.iload_n 3, 1) := by decide +kernel
theorem dX3_isModular_27 : decode cX3_isModular 27 = .ok (.invokevirtual 39, 3) := by decide +kernel
theorem dX3_isModular_30 : decode cX3_isModular 30 = .ok (.aload_n 0, 1) := by decide +kernel
theorem dX3_isModular_31 : decode cX3_isModular 31 = .ok (.iconst 0, 1) := by decide +kernel
theorem dX3_isModular_32 : decode cX3_isModular 32 = .ok (.iload_n 3, 1) := by decide +kernel
theorem dX3_isModular_33 : decode cX3_isModular 33 = .ok (.invokevirtual 39, 3) := by decide +kernel
theorem dX3_isModular_36 : decode cX3_isModular 36 = .ok (.if_icmp .eq 5, 3) := by decide +kernel
theorem dX3_isModular_39 : decode cX3_isModular 39 = .ok (.iconst 0, 1) := by decide +kernel
theorem dX3_isModular_40 : decode cX3_isModular 40 = .ok (.ireturn, 1) := by decide +kernel
theorem dX3_isModular_41 : decode cX3_isModular 41 = .ok (.iinc 3 1, 3) := by decide +kernel
theorem dX3_isModular_44 : decode cX3_isModular 44 = .ok (.goto (-33), 3) := by decide +kernel
theorem dX3_isModular_47 : decode cX3_isModular 47 = .ok (.iinc 2 1, 3) := by decide +kernel
theorem dX3_isModular_50 : decode cX3_isModular 50 = .ok (.goto (-48), 3) := by decide +kernel
theorem dX3_isModular_53 : decode cX3_isModular 53 = .ok (.iconst 1, 1) := by decide +kernel
theorem dX3_isModular_54 : decode cX3_isModular 54 = .ok (.ireturn, 1) := by decide +kernel
theorem dX3_leastValue_0 : decode cX3_leastValue 0 = .ok (.aload_n 0, 1) := by decide +kernel
theorem dX3_leastValue_1 : decode cX3_leastValue 1 = .ok (.getfield 15, 3) := by decide +kernel
theorem dX3_leastValue_4 : decode cX3_leastValue 4 = .ok (.iconst 0, 1) := by decide +kernel
theorem dX3_leastValue_5 : decode cX3_leastValue 5 = .ok (.iaload, 1) := by decide +kernel
theorem dX3_leastValue_6 : decode cX3_leastValue 6 = .ok (.istore_n 2, 1) := by decide +kernel
theorem dX3_leastValue_7 : decode cX3_leastValue 7 = .ok (.iconst 1, 1) := by decide +kernel
theorem dX3_leastValue_8 : decode cX3_leastValue 8 = .ok (.istore_n 3, 1) := by decide +kernel
theorem dX3_leastValue_9 : decode cX3_leastValue 9 = .ok (.iload_n 3, 1) := by decide +kernel
theorem dX3_leastValue_10 : decode cX3_leastValue 10 = .ok (.iconst 1, 1) := by decide +kernel
theorem dX3_leastValue_11 : decode cX3_leastValue 11 = .ok (.iload_n 1, 1) := by decide +kernel
theorem dX3_leastValue_12 : decode cX3_leastValue 12 = .ok (.ishl, 1) := by decide +kernel
theorem dX3_leastValue_13 : decode cX3_leastValue 13 = .ok (.if_icmp .ge 20, 3) := by decide +kernel
theorem dX3_leastValue_16 : decode cX3_leastValue 16 = .ok (.iload_n 2, 1) := by decide +kernel
theorem dX3_leastValue_17 : decode cX3_leastValue 17 = .ok (.aload_n 0, 1) := by decide +kernel
theorem dX3_leastValue_18 : decode cX3_leastValue 18 = .ok (.getfield 15, 3) := by decide +kernel
theorem dX3_leastValue_21 : decode cX3_leastValue 21 = .ok (.iload_n 3, 1) := by decide +kernel
theorem dX3_leastValue_22 : decode cX3_leastValue 22 = .ok (.iaload, 1) := by decide +kernel
theorem dX3_leastValue_23 : decode cX3_leastValue 23 = .ok (.invokestatic 43, 3) := by decide +kernel
theorem dX3_leastValue_26 : decode cX3_leastValue 26 = .ok (.istore_n 2, 1) := by decide +kernel
theorem dX3_leastValue_27 : decode cX3_leastValue 27 = .ok (.iinc 3 1, 3) := by decide +kernel
theorem dX3_leastValue_30 : decode cX3_leastValue 30 = .ok (.goto (-21), 3) := by decide +kernel
theorem dX3_leastValue_33 : decode cX3_leastValue 33 = .ok (.iload_n 2, 1) := by decide +kernel
theorem dX3_leastValue_34 : decode cX3_leastValue 34 = .ok (.ireturn, 1) := by decide +kernel
theorem dX3_minimisersAreClosed_0 : decode cX3_minimisersAreClosed 0 = .ok (.aload_n 0, 1) := by decide +kernel
theorem dX3_minimisersAreClosed_1 : decode cX3_minimisersAreClosed 1 = .ok (.iload_n 1, 1) := by decide +kernel
theorem dX3_minimisersAreClosed_2 : decode cX3_minimisersAreClosed 2 = .ok (.invokevirtual 48, 3) := by decide +kernel
theorem dX3_minimisersAreClosed_5 : decode cX3_minimisersAreClosed 5 = .ok (.istore_n 2, 1) := by decide +kernel
theorem dX3_minimisersAreClosed_6 : decode cX3_minimisersAreClosed 6 = .ok (.iconst 0, 1) := by decide +kernel
theorem dX3_minimisersAreClosed_7 : decode cX3_minimisersAreClosed 7 = .ok (.istore_n 3, 1) := by decide +kernel
theorem dX3_minimisersAreClosed_8 : decode cX3_minimisersAreClosed 8 = .ok (.iload_n 3, 1) := by decide +kernel
theorem dX3_minimisersAreClosed_9 : decode cX3_minimisersAreClosed 9 = .ok (.iconst 1, 1) := by decide +kernel
theorem dX3_minimisersAreClosed_10 : decode cX3_minimisersAreClosed 10 = .ok (.iload_n 1, 1) := by decide +kernel
theorem dX3_minimisersAreClosed_11 : decode cX3_minimisersAreClosed 11 = .ok (.ishl, 1) := by decide +kernel
theorem dX3_minimisersAreClosed_12 : decode cX3_minimisersAreClosed 12 = .ok (.if_icmp .ge 73, 3) := by decide +kernel
theorem dX3_minimisersAreClosed_15 : decode cX3_minimisersAreClosed 15 = .ok (.iconst 0, 1) := by decide +kernel
theorem dX3_minimisersAreClosed_16 : decode cX3_minimisersAreClosed 16 = .ok (.istore 4, 2) := by decide +kernel
theorem dX3_minimisersAreClosed_18 : decode cX3_minimisersAreClosed 18 = .ok (.iload 4, 2) := by decide +kernel
theorem dX3_minimisersAreClosed_20 : decode cX3_minimisersAreClosed 20 = .ok (.iload_n 3, 1) := by decide +kernel
theorem dX3_minimisersAreClosed_21 : decode cX3_minimisersAreClosed 21 = .ok (.if_icmp .ge 58, 3) := by decide +kernel
theorem dX3_minimisersAreClosed_24 : decode cX3_minimisersAreClosed 24 = .ok (.aload_n 0, 1) := by decide +kernel
theorem dX3_minimisersAreClosed_25 : decode cX3_minimisersAreClosed 25 = .ok (.getfield 15, 3) := by decide +kernel
theorem dX3_minimisersAreClosed_28 : decode cX3_minimisersAreClosed 28 = .ok (.iload_n 3, 1) := by decide +kernel
theorem dX3_minimisersAreClosed_29 : decode cX3_minimisersAreClosed 29 = .ok (.iaload, 1) := by decide +kernel
theorem dX3_minimisersAreClosed_30 : decode cX3_minimisersAreClosed 30 = .ok (.iload_n 2, 1) := by decide +kernel
theorem dX3_minimisersAreClosed_31 : decode cX3_minimisersAreClosed 31 = .ok (.if_icmp .ne 48, 3) := by decide +kernel
theorem dX3_minimisersAreClosed_34 : decode cX3_minimisersAreClosed 34 = .ok (.aload_n 0, 1) := by decide +kernel
theorem dX3_minimisersAreClosed_35 : decode cX3_minimisersAreClosed 35 = .ok (.getfield 15, 3) := by decide +kernel
theorem dX3_minimisersAreClosed_38 : decode cX3_minimisersAreClosed 38 = .ok (.iload 4, 2) := by decide +kernel
theorem dX3_minimisersAreClosed_40 : decode cX3_minimisersAreClosed 40 = .ok (.iaload, 1) := by decide +kernel
theorem dX3_minimisersAreClosed_41 : decode cX3_minimisersAreClosed 41 = .ok (.iload_n 2, 1) := by decide +kernel
theorem dX3_minimisersAreClosed_42 : decode cX3_minimisersAreClosed 42 = .ok (.if_icmp .ne 31, 3) := by decide +kernel
theorem dX3_minimisersAreClosed_45 : decode cX3_minimisersAreClosed 45 = .ok (.aload_n 0, 1) := by decide +kernel
theorem dX3_minimisersAreClosed_46 : decode cX3_minimisersAreClosed 46 = .ok (.getfield 15, 3) := by decide +kernel
theorem dX3_minimisersAreClosed_49 : decode cX3_minimisersAreClosed 49 = .ok (.iload_n 3, 1) := by decide +kernel
theorem dX3_minimisersAreClosed_50 : decode cX3_minimisersAreClosed 50 = .ok (.iload 4, 2) := by decide +kernel
theorem dX3_minimisersAreClosed_52 : decode cX3_minimisersAreClosed 52 = .ok (.iand, 1) := by decide +kernel
theorem dX3_minimisersAreClosed_53 : decode cX3_minimisersAreClosed 53 = .ok (.iaload, 1) := by decide +kernel
theorem dX3_minimisersAreClosed_54 : decode cX3_minimisersAreClosed 54 = .ok (.iload_n 2, 1) := by decide +kernel
theorem dX3_minimisersAreClosed_55 : decode cX3_minimisersAreClosed 55 = .ok (.if_icmp .ne 16, 3) := by decide +kernel
theorem dX3_minimisersAreClosed_58 : decode cX3_minimisersAreClosed 58 = .ok (.aload_n 0, 1) := by decide +kernel
theorem dX3_minimisersAreClosed_59 : decode cX3_minimisersAreClosed 59 = .ok (.getfield 15, 3) := by decide +kernel
theorem dX3_minimisersAreClosed_62 : decode cX3_minimisersAreClosed 62 = .ok (.iload_n 3, 1) := by decide +kernel
theorem dX3_minimisersAreClosed_63 : decode cX3_minimisersAreClosed 63 = .ok (.iload 4, 2) := by decide +kernel
theorem dX3_minimisersAreClosed_65 : decode cX3_minimisersAreClosed 65 = .ok (.ior, 1) := by decide +kernel
theorem dX3_minimisersAreClosed_66 : decode cX3_minimisersAreClosed 66 = .ok (.iaload, 1) := by decide +kernel
theorem dX3_minimisersAreClosed_67 : decode cX3_minimisersAreClosed 67 = .ok (.iload_n 2, 1) := by decide +kernel
theorem dX3_minimisersAreClosed_68 : decode cX3_minimisersAreClosed 68 = .ok (.if_icmp .eq 5, 3) := by decide +kernel
theorem dX3_minimisersAreClosed_71 : decode cX3_minimisersAreClosed 71 = .ok (.iconst 0, 1) := by decide +kernel
theorem dX3_minimisersAreClosed_72 : decode cX3_minimisersAreClosed 72 = .ok (.ireturn, 1) := by decide +kernel
theorem dX3_minimisersAreClosed_73 : decode cX3_minimisersAreClosed 73 = .ok (.iinc 4 1, 3) := by decide +kernel
theorem dX3_minimisersAreClosed_76 : decode cX3_minimisersAreClosed 76 = .ok (.goto (-58), 3) := by decide +kernel
theorem dX3_minimisersAreClosed_79 : decode cX3_minimisersAreClosed 79 = .ok (.iinc 3 1, 3) := by decide +kernel
theorem dX3_minimisersAreClosed_82 : decode cX3_minimisersAreClosed 82 = .ok (.goto (-74), 3) := by decide +kernel
theorem dX3_minimisersAreClosed_85 : decode cX3_minimisersAreClosed 85 = .ok (.iconst 1, 1) := by decide +kernel
theorem dX3_minimisersAreClosed_86 : decode cX3_minimisersAreClosed 86 = .ok (.ireturn, 1) := by decide +kernel
theorem dX3_leastApart_0 : decode cX3_leastApart 0 = .ok (.iconst 1, 1) := by decide +kernel
theorem dX3_leastApart_1 : decode cX3_leastApart 1 = .ok (.iload_n 2, 1) := by decide +kernel
theorem dX3_leastApart_2 : decode cX3_leastApart 2 = .ok (.ishl, 1) := by decide +kernel
theorem dX3_leastApart_3 : decode cX3_leastApart 3 = .ok (.istore 4, 2) := by decide +kernel
theorem dX3_leastApart_5 : decode cX3_leastApart 5 = .ok (.iconst 0, 1) := by decide +kernel
theorem dX3_leastApart_6 : decode cX3_leastApart 6 = .ok (.istore 5, 2) := by decide +kernel
theorem dX3_leastApart_8 : decode cX3_leastApart 8 = .ok (.iload 5, 2) := by decide +kernel
theorem dX3_leastApart_10 : decode cX3_leastApart 10 = .ok (.iconst 1, 1) := by decide +kernel
theorem dX3_leastApart_11 : decode cX3_leastApart 11 = .ok (.iload_n 1, 1) := by decide +kernel
theorem dX3_leastApart_12 : decode cX3_leastApart 12 = .ok (.ishl, 1) := by decide +kernel
theorem dX3_leastApart_13 : decode cX3_leastApart 13 = .ok (.if_icmp .ge 42, 3) := by decide +kernel
theorem dX3_leastApart_16 : decode cX3_leastApart 16 = .ok (.iload 5, 2) := by decide +kernel
theorem dX3_leastApart_18 : decode cX3_leastApart 18 = .ok (.iload_n 2, 1) := by decide +kernel
theorem dX3_leastApart_19 : decode cX3_leastApart 19 = .ok (.invokestatic 35, 3) := by decide +kernel
theorem dX3_leastApart_22 : decode cX3_leastApart 22 = .ok (.ifCond .eq 27, 3) := by decide +kernel
theorem dX3_leastApart_25 : decode cX3_leastApart 25 = .ok (.iload 5, 2) := by decide +kernel
theorem dX3_leastApart_27 : decode cX3_leastApart 27 = .ok (.iload_n 3, 1) := by decide +kernel
theorem dX3_leastApart_28 : decode cX3_leastApart 28 = .ok (.invokestatic 35, 3) := by decide +kernel
theorem dX3_leastApart_31 : decode cX3_leastApart 31 = .ok (.ifCond .ne 18, 3) := by decide +kernel
theorem dX3_leastApart_34 : decode cX3_leastApart 34 = .ok (.aload_n 0, 1) := by decide +kernel
theorem dX3_leastApart_35 : decode cX3_leastApart 35 = .ok (.iload 5, 2) := by decide +kernel
theorem dX3_leastApart_37 : decode cX3_leastApart 37 = .ok (.iload 4, 2) := by decide +kernel
theorem dX3_leastApart_39 : decode cX3_leastApart 39 = .ok (.invokevirtual 52, 3) := by decide +kernel
theorem dX3_leastApart_42 : decode cX3_leastApart 42 = .ok (.ifCond .eq 7, 3) := by decide +kernel
theorem dX3_leastApart_45 : decode cX3_leastApart 45 = .ok (.iload 5, 2) := by decide +kernel
theorem dX3_leastApart_47 : decode cX3_leastApart 47 = .ok (.istore 4, 2) := by decide +kernel
theorem dX3_leastApart_49 : decode cX3_leastApart 49 = .ok (.iinc 5 1, 3) := by decide +kernel
theorem dX3_leastApart_52 : decode cX3_leastApart 52 = .ok (.goto (-44), 3) := by decide +kernel
theorem dX3_leastApart_55 : decode cX3_leastApart 55 = .ok (.iload 4, 2) := by decide +kernel
theorem dX3_leastApart_57 : decode cX3_leastApart 57 = .ok (.ireturn, 1) := by decide +kernel
theorem dX3_isSmallerCut_0 : decode cX3_isSmallerCut 0 = .ok (.aload_n 0, 1) := by decide +kernel
theorem dX3_isSmallerCut_1 : decode cX3_isSmallerCut 1 = .ok (.getfield 15, 3) := by decide +kernel
theorem dX3_isSmallerCut_4 : decode cX3_isSmallerCut 4 = .ok (.iload_n 1, 1) := by decide +kernel
theorem dX3_isSmallerCut_5 : decode cX3_isSmallerCut 5 = .ok (.iaload, 1) := by decide +kernel
theorem dX3_isSmallerCut_6 : decode cX3_isSmallerCut 6 = .ok (.aload_n 0, 1) := by decide +kernel
theorem dX3_isSmallerCut_7 : decode cX3_isSmallerCut 7 = .ok (.getfield 15, 3) := by decide +kernel
theorem dX3_isSmallerCut_10 : decode cX3_isSmallerCut 10 = .ok (.iload_n 2, 1) := by decide +kernel
theorem dX3_isSmallerCut_11 : decode cX3_isSmallerCut 11 = .ok (.iaload, 1) := by decide +kernel
theorem dX3_isSmallerCut_12 : decode cX3_isSmallerCut 12 = .ok (.if_icmp .eq 24, 3) := by decide +kernel
theorem dX3_isSmallerCut_15 : decode cX3_isSmallerCut 15 = .ok (.aload_n 0, 1) := by decide +kernel
theorem dX3_isSmallerCut_16 : decode cX3_isSmallerCut 16 = .ok (.getfield 15, 3) := by decide +kernel
theorem dX3_isSmallerCut_19 : decode cX3_isSmallerCut 19 = .ok (.iload_n 1, 1) := by decide +kernel
theorem dX3_isSmallerCut_20 : decode cX3_isSmallerCut 20 = .ok (.iaload, 1) := by decide +kernel
theorem dX3_isSmallerCut_21 : decode cX3_isSmallerCut 21 = .ok (.aload_n 0, 1) := by decide +kernel
theorem dX3_isSmallerCut_22 : decode cX3_isSmallerCut 22 = .ok (.getfield 15, 3) := by decide +kernel
theorem dX3_isSmallerCut_25 : decode cX3_isSmallerCut 25 = .ok (.iload_n 2, 1) := by decide +kernel
theorem dX3_isSmallerCut_26 : decode cX3_isSmallerCut 26 = .ok (.iaload, 1) := by decide +kernel
theorem dX3_isSmallerCut_27 : decode cX3_isSmallerCut 27 = .ok (.if_icmp .ge 7, 3) := by decide +kernel
theorem dX3_isSmallerCut_30 : decode cX3_isSmallerCut 30 = .ok (.iconst 1, 1) := by decide +kernel
theorem dX3_isSmallerCut_31 : decode cX3_isSmallerCut 31 = .ok (.goto 4, 3) := by decide +kernel
theorem dX3_isSmallerCut_34 : decode cX3_isSmallerCut 34 = .ok (.iconst 0, 1) := by decide +kernel
theorem dX3_isSmallerCut_35 : decode cX3_isSmallerCut 35 = .ok (.ireturn, 1) := by decide +kernel
theorem dX3_isSmallerCut_36 : decode cX3_isSmallerCut 36 = .ok (.iload_n 1, 1) := by decide +kernel
theorem dX3_isSmallerCut_37 : decode cX3_isSmallerCut 37 = .ok (.invokestatic 55, 3) := by decide +kernel
theorem dX3_isSmallerCut_40 : decode cX3_isSmallerCut 40 = .ok (.iload_n 2, 1) := by decide +kernel
theorem dX3_isSmallerCut_41 : decode cX3_isSmallerCut 41 = .ok (.invokestatic 55, 3) := by decide +kernel
theorem dX3_isSmallerCut_44 : decode cX3_isSmallerCut 44 = .ok (.if_icmp .ge 7, 3) := by decide +kernel
theorem dX3_isSmallerCut_47 : decode cX3_isSmallerCut 47 = .ok (.iconst 1, 1) := by decide +kernel
theorem dX3_isSmallerCut_48 : decode cX3_isSmallerCut 48 = .ok (.goto 4, 3) := by decide +kernel
theorem dX3_isSmallerCut_51 : decode cX3_isSmallerCut 51 = .ok (.iconst 0, 1) := by decide +kernel
theorem dX3_isSmallerCut_52 : decode cX3_isSmallerCut 52 = .ok (.ireturn, 1) := by decide +kernel
theorem dX3_greedyChoice_0 : decode cX3_greedyChoice 0 = .ok (.iconst 0, 1) := by decide +kernel
theorem dX3_greedyChoice_1 : decode cX3_greedyChoice 1 = .ok (.istore_n 3, 1) := by decide +kernel
theorem dX3_greedyChoice_2 : decode cX3_greedyChoice 2 = .ok (.iconst 0, 1) := by decide +kernel
theorem dX3_greedyChoice_3 : decode cX3_greedyChoice 3 = .ok (.istore 4, 2) := by decide +kernel
theorem dX3_greedyChoice_5 : decode cX3_greedyChoice 5 = .ok (.iload 4, 2) := by decide +kernel
theorem dX3_greedyChoice_7 : decode cX3_greedyChoice 7 = .ok (.iload_n 2, 1) := by decide +kernel
theorem dX3_greedyChoice_8 : decode cX3_greedyChoice 8 = .ok (.if_icmp .ge 76, 3) := by decide +kernel
theorem dX3_greedyChoice_11 : decode cX3_greedyChoice 11 = .ok (.iconst (-1), 1) := by decide +kernel
theorem dX3_greedyChoice_12 : decode cX3_greedyChoice 12 = .ok (.istore 5, 2) := by decide +kernel
theorem dX3_greedyChoice_14 : decode cX3_greedyChoice 14 = .ok (.iconst 0, 1) := by decide +kernel
theorem dX3_greedyChoice_15 : decode cX3_greedyChoice 15 = .ok (.istore 6, 2) := by decide +kernel
theorem dX3_greedyChoice_17 : decode cX3_greedyChoice 17 = .ok (.iload 6, 2) := by decide +kernel
theorem dX3_greedyChoice_19 : decode cX3_greedyChoice 19 = .ok (.iload_n 1, 1) := by decide +kernel
theorem dX3_greedyChoice_20 : decode cX3_greedyChoice 20 = .ok (.if_icmp .ge 45, 3) := by decide +kernel
theorem dX3_greedyChoice_23 : decode cX3_greedyChoice 23 = .ok (.iload_n 3, 1) := by decide +kernel
theorem dX3_greedyChoice_24 : decode cX3_greedyChoice 24 = .ok (.iload 6, 2) := by decide +kernel
theorem dX3_greedyChoice_26 : decode cX3_greedyChoice 26 = .ok (.invokestatic 35, 3) := by decide +kernel
theorem dX3_greedyChoice_29 : decode cX3_greedyChoice 29 = .ok (.ifCond .ne 30, 3) := by decide +kernel
theorem dX3_greedyChoice_32 : decode cX3_greedyChoice 32 = .ok (.iload 5, 2) := by decide +kernel
theorem dX3_greedyChoice_34 : decode cX3_greedyChoice 34 = .ok (.iconst (-1), 1) := by decide +kernel
theorem dX3_greedyChoice_35 : decode cX3_greedyChoice 35 = .ok (.if_icmp .eq 20, 3) := by decide +kernel
theorem dX3_greedyChoice_38 : decode cX3_greedyChoice 38 = .ok (.aload_n 0, 1) := by decide +kernel
theorem dX3_greedyChoice_39 : decode cX3_greedyChoice 39 = .ok (.iload_n 3, 1) := by decide +kernel
theorem dX3_greedyChoice_40 : decode cX3_greedyChoice 40 = .ok (.iload 6, 2) := by decide +kernel
theorem dX3_greedyChoice_42 : decode cX3_greedyChoice 42 = .ok (.invokevirtual 39, 3) := by decide +kernel
theorem dX3_greedyChoice_45 : decode cX3_greedyChoice 45 = .ok (.aload_n 0, 1) := by decide +kernel
theorem dX3_greedyChoice_46 : decode cX3_greedyChoice 46 = .ok (.iload_n 3, 1) := by decide +kernel
theorem dX3_greedyChoice_47 : decode cX3_greedyChoice 47 = .ok (.iload 5, 2) := by decide +kernel
theorem dX3_greedyChoice_49 : decode cX3_greedyChoice 49 = .ok (.invokevirtual 39, 3) := by decide +kernel
theorem dX3_greedyChoice_52 : decode cX3_greedyChoice 52 = .ok (.if_icmp .le 7, 3) := by decide +kernel
theorem dX3_greedyChoice_55 : decode cX3_greedyChoice 55 = .ok (.iload 6, 2) := by decide +kernel
theorem dX3_greedyChoice_57 : decode cX3_greedyChoice 57 = .ok (.istore 5, 2) := by decide +kernel
theorem dX3_greedyChoice_59 : decode cX3_greedyChoice 59 = .ok (.iinc 6 1, 3) := by decide +kernel
theorem dX3_greedyChoice_62 : decode cX3_greedyChoice 62 = .ok (.goto (-45), 3) := by decide +kernel
theorem dX3_greedyChoice_65 : decode cX3_greedyChoice 65 = .ok (.iload 5, 2) := by decide +kernel
theorem dX3_greedyChoice_67 : decode cX3_greedyChoice 67 = .ok (.iconst (-1), 1) := by decide +kernel
theorem dX3_greedyChoice_68 : decode cX3_greedyChoice 68 = .ok (.if_icmp .eq 10, 3) := by decide +kernel
theorem dX3_greedyChoice_71 : decode cX3_greedyChoice 71 = .ok (.iload_n 3, 1) := by decide +kernel
theorem dX3_greedyChoice_72 : decode cX3_greedyChoice 72 = .ok (.iconst 1, 1) := by decide +kernel
theorem dX3_greedyChoice_73 : decode cX3_greedyChoice 73 = .ok (.iload 5, 2) := by decide +kernel
theorem dX3_greedyChoice_75 : decode cX3_greedyChoice 75 = .ok (.ishl, 1) := by decide +kernel
theorem dX3_greedyChoice_76 : decode cX3_greedyChoice 76 = .ok (.ior, 1) := by decide +kernel
theorem dX3_greedyChoice_77 : decode cX3_greedyChoice 77 = .ok (.istore_n 3, 1) := by decide +kernel
theorem dX3_greedyChoice_78 : decode cX3_greedyChoice 78 = .ok (.iinc 4 1, 3) := by decide +kernel
theorem dX3_greedyChoice_81 : decode cX3_greedyChoice 81 = .ok (.goto (-76), 3) := by decide +kernel
theorem dX3_greedyChoice_84 : decode cX3_greedyChoice 84 = .ok (.iload_n 3, 1) := by decide +kernel
theorem dX3_greedyChoice_85 : decode cX3_greedyChoice 85 = .ok (.ireturn, 1) := by decide +kernel
theorem dX3_bestChoice_0 : decode cX3_bestChoice 0 = .ok (.iconst 1, 1) := by decide +kernel
theorem dX3_bestChoice_1 : decode cX3_bestChoice 1 = .ok (.iload_n 2, 1) := by decide +kernel
theorem dX3_bestChoice_2 : decode cX3_bestChoice 2 = .ok (.ishl, 1) := by decide +kernel
theorem dX3_bestChoice_3 : decode cX3_bestChoice 3 = .ok (.iconst 1, 1) := by decide +kernel
theorem dX3_bestChoice_4 : decode cX3_bestChoice 4 = .ok (.isub, 1) := by decide +kernel
theorem dX3_bestChoice_5 : decode cX3_bestChoice 5 = .ok (.istore_n 3, 1) := by decide +kernel
theorem dX3_bestChoice_6 : decode cX3_bestChoice 6 = .ok (.iconst 0, 1) := by decide +kernel
theorem dX3_bestChoice_7 : decode cX3_bestChoice 7 = .ok (.istore 4, 2) := by decide +kernel
theorem dX3_bestChoice_9 : decode cX3_bestChoice 9 = .ok (.iload 4, 2) := by decide +kernel
theorem dX3_bestChoice_11 : decode cX3_bestChoice 11 = .ok (.iconst 1, 1) := by decide +kernel
theorem dX3_bestChoice_12 : decode cX3_bestChoice 12 = .ok (.iload_n 1, 1) := by decide +kernel
theorem dX3_bestChoice_13 : decode cX3_bestChoice 13 = .ok (.ishl, 1) := by decide +kernel
theorem dX3_bestChoice_14 : decode cX3_bestChoice 14 = .ok (.if_icmp .ge 37, 3) := by decide +kernel
theorem dX3_bestChoice_17 : decode cX3_bestChoice 17 = .ok (.iload 4, 2) := by decide +kernel
theorem dX3_bestChoice_19 : decode cX3_bestChoice 19 = .ok (.invokestatic 55, 3) := by decide +kernel
theorem dX3_bestChoice_22 : decode cX3_bestChoice 22 = .ok (.iload_n 2, 1) := by decide +kernel
theorem dX3_bestChoice_23 : decode cX3_bestChoice 23 = .ok (.if_icmp .ne 22, 3) := by decide +kernel
theorem dX3_bestChoice_26 : decode cX3_bestChoice 26 = .ok (.aload_n 0, 1) := by decide +kernel
theorem dX3_bestChoice_27 : decode cX3_bestChoice 27 = .ok (.getfield 15, 3) := by decide +kernel
theorem dX3_bestChoice_30 : decode cX3_bestChoice 30 = .ok (.iload 4, 2) := by decide +kernel
theorem dX3_bestChoice_32 : decode cX3_bestChoice 32 = .ok (.iaload, 1) := by decide +kernel
theorem dX3_bestChoice_33 : decode cX3_bestChoice 33 = .ok (.aload_n 0, 1) := by decide +kernel
theorem dX3_bestChoice_34 : decode cX3_bestChoice 34 = .ok (.getfield 15, 3) := by decide +kernel
theorem dX3_bestChoice_37 : decode cX3_bestChoice 37 = .ok (.iload_n 3, 1) := by decide +kernel
theorem dX3_bestChoice_38 : decode cX3_bestChoice 38 = .ok (.iaload, 1) := by decide +kernel
theorem dX3_bestChoice_39 : decode cX3_bestChoice 39 = .ok (.if_icmp .le 6, 3) := by decide +kernel
theorem dX3_bestChoice_42 : decode cX3_bestChoice 42 = .ok (.iload 4, 2) := by decide +kernel
theorem dX3_bestChoice_44 : decode cX3_bestChoice 44 = .ok (.istore_n 3, 1) := by decide +kernel
theorem dX3_bestChoice_45 : decode cX3_bestChoice 45 = .ok (.iinc 4 1, 3) := by decide +kernel
theorem dX3_bestChoice_48 : decode cX3_bestChoice 48 = .ok (.goto (-39), 3) := by decide +kernel
theorem dX3_bestChoice_51 : decode cX3_bestChoice 51 = .ok (.iload_n 3, 1) := by decide +kernel
theorem dX3_bestChoice_52 : decode cX3_bestChoice 52 = .ok (.ireturn, 1) := by decide +kernel
theorem dX4_init_0 : decode cX4_init 0 = .ok (.aload_n 0, 1) := by decide +kernel
theorem dX4_init_1 : decode cX4_init 1 = .ok (.invokespecial 3, 3) := by decide +kernel
theorem dX4_init_4 : decode cX4_init 4 = .ok (.aload_n 0, 1) := by decide +kernel
theorem dX4_init_5 : decode cX4_init 5 = .ok (.bipush 20, 2) := by decide +kernel
theorem dX4_init_7 : decode cX4_init 7 = .ok (.newarray .int, 2) := by decide +kernel
theorem dX4_init_9 : decode cX4_init 9 = .ok (.putfield 9, 3) := by decide +kernel
theorem dX4_init_12 : decode cX4_init 12 = .ok (.aload_n 0, 1) := by decide +kernel
theorem dX4_init_13 : decode cX4_init 13 = .ok (.bipush 60, 2) := by decide +kernel
theorem dX4_init_15 : decode cX4_init 15 = .ok (.newarray .int, 2) := by decide +kernel
theorem dX4_init_17 : decode cX4_init 17 = .ok (.putfield 13, 3) := by decide +kernel
theorem dX4_init_20 : decode cX4_init 20 = .ok (.aload_n 0, 1) := by decide +kernel
theorem dX4_init_21 : decode cX4_init 21 = .ok (.bipush 100, 2) := by decide +kernel
theorem dX4_init_23 : decode cX4_init 23 = .ok (.newarray .byte, 2) := by decide +kernel
theorem dX4_init_25 : decode cX4_init 25 = .ok (.putfield 16, 3) := by decide +kernel
theorem dX4_init_28 : decode cX4_init 28 = .ok (.return_, 1) := by decide +kernel
theorem dX4_isFull_0 : decode cX4_isFull 0 = .ok (.aload_n 0, 1) := by decide +kernel
theorem dX4_isFull_1 : decode cX4_isFull 1 = .ok (.getfield 20, 3) := by decide +kernel
theorem dX4_isFull_4 : decode cX4_isFull 4 = .ok (.bipush 100, 2) := by decide +kernel
theorem dX4_isFull_6 : decode cX4_isFull 6 = .ok (.if_icmp .lt 7, 3) := by decide +kernel
theorem dX4_isFull_9 : decode cX4_isFull 9 = .ok (.iconst 1, 1) := by decide +kernel
theorem dX4_isFull_10 : decode cX4_isFull 10 = .ok (.goto 4, 3) := by decide +kernel
theorem dX4_isFull_13 : decode cX4_isFull 13 = .ok (.iconst 0, 1) := by decide +kernel
theorem dX4_isFull_14 : decode cX4_isFull 14 = .ok (.ireturn, 1) := by decide +kernel
theorem dX4_append_0 : decode cX4_append 0 = .ok (.aload_n 0, 1) := by decide +kernel
theorem dX4_append_1 : decode cX4_append 1 = .ok (.invokevirtual 24, 3) := by decide +kernel
theorem dX4_append_4 : decode cX4_append 4 = .ok (.ifCond .ne 24, 3) := by decide +kernel
theorem dX4_append_7 : decode cX4_append 7 = .ok (.aload_n 0, 1) := by decide +kernel
theorem dX4_append_8 : decode cX4_append 8 = .ok (.getfield 16, 3) := by decide +kernel
theorem dX4_append_11 : decode cX4_append 11 = .ok (.aload_n 0, 1) := by decide +kernel
theorem dX4_append_12 : decode cX4_append 12 = .ok (.getfield 20, 3) := by decide +kernel
theorem dX4_append_15 : decode cX4_append 15 = .ok (.iload_n 1, 1) := by decide +kernel
theorem dX4_append_16 : decode cX4_append 16 = .ok (.i2b, 1) := by decide +kernel
theorem dX4_append_17 : decode cX4_append 17 = .ok (.bastore, 1) := by decide +kernel
theorem dX4_append_18 : decode cX4_append 18 = .ok (.aload_n 0, 1) := by decide +kernel
theorem dX4_append_19 : decode cX4_append 19 = .ok (.dup, 1) := by decide +kernel
theorem dX4_append_20 : decode cX4_append 20 = .ok (.getfield 20, 3) := by decide +kernel
theorem dX4_append_23 : decode cX4_append 23 = .ok (.iconst 1, 1) := by decide +kernel
theorem dX4_append_24 : decode cX4_append 24 = .ok (.iadd, 1) := by decide +kernel
theorem dX4_append_25 : decode cX4_append 25 = .ok (.putfield 20, 3) := by decide +kernel
theorem dX4_append_28 : decode cX4_append 28 = .ok (.return_, 1) := by decide +kernel
theorem dX4_number_0 : decode cX4_number 0 = .ok (.aload_n 0, 1) := by decide +kernel
theorem dX4_number_1 : decode cX4_number 1 = .ok (.getfield 13, 3) := by decide +kernel
theorem dX4_number_4 : decode cX4_number 4 = .ok (.iload_n 1, 1) := by decide +kernel
theorem dX4_number_5 : decode cX4_number 5 = .ok (.iconst 3, 1) := by decide +kernel
theorem dX4_number_6 : decode cX4_number 6 = .ok (.imul, 1) := by decide +kernel
theorem dX4_number_7 : decode cX4_number 7 = .ok (.iload_n 2, 1) := by decide +kernel
theorem dX4_number_8 : decode cX4_number 8 = .ok (.iadd, 1) := by decide +kernel
theorem dX4_number_9 : decode cX4_number 9 = .ok (.iaload, 1) := by decide +kernel
theorem dX4_number_10 : decode cX4_number 10 = .ok (.ireturn, 1) := by decide +kernel
theorem dX4_parse_0 : decode cX4_parse 0 = .ok (.aload_n 0, 1) := by decide +kernel
theorem dX4_parse_1 : decode cX4_parse 1 = .ok (.iconst 0, 1) := by decide +kernel
theorem dX4_parse_2 : decode cX4_parse 2 = .ok (.putfield 28, 3) := by decide +kernel
theorem dX4_parse_5 : decode cX4_parse 5 = .ok (.aload_n 0, 1) := by decide +kernel
theorem dX4_parse_6 : decode cX4_parse 6 = .ok (.iconst 0, 1) := by decide +kernel
theorem dX4_parse_7 : decode cX4_parse 7 = .ok (.putfield 31, 3) := by decide +kernel
theorem dX4_parse_10 : decode cX4_parse 10 = .ok (.aload_n 0, 1) := by decide +kernel
theorem dX4_parse_11 : decode cX4_parse 11 = .ok (.getfield 31, 3) := by decide +kernel
theorem dX4_parse_14 : decode cX4_parse 14 = .ok (.bipush 20, 2) := by decide +kernel
theorem dX4_parse_16 : decode cX4_parse 16 = .ok (.if_icmp .ge 74, 3) := by decide +kernel
theorem dX4_parse_19 : decode cX4_parse 19 = .ok (.aload_n 0, 1) := by decide +kernel
theorem dX4_parse_20 : decode cX4_parse 20 = .ok (.aload_n 0, 1) := by decide +kernel
theorem dX4_parse_21 : decode cX4_parse 21 = .ok (.getfield 31, 3) := by decide +kernel
theorem dX4_parse_24 : decode cX4_parse 24 = .ok (.invokevirtual 34, 3) := by decide +kernel
theorem dX4_parse_27 : decode cX4_parse 27 = .ok (.ifCond .ne 8, 3) := by decide +kernel
theorem dX4_parse_30 : decode cX4_parse 30 = .ok (.aload_n 0, 1) := by decide +kernel
theorem dX4_parse_31 : decode cX4_parse 31 = .ok (.getfield 28, 3) := by decide +kernel
theorem dX4_parse_34 : decode cX4_parse 34 = .ok (.ireturn, 1) := by decide +kernel
theorem dX4_parse_35 : decode cX4_parse 35 = .ok (.aload_n 0, 1) := by decide +kernel
theorem dX4_parse_36 : decode cX4_parse 36 = .ok (.dup, 1) := by decide +kernel
theorem dX4_parse_37 : decode cX4_parse 37 = .ok (.getfield 31, 3) := by decide +kernel
theorem dX4_parse_40 : decode cX4_parse 40 = .ok (.iconst 1, 1) := by decide +kernel
theorem dX4_parse_41 : decode cX4_parse 41 = .ok (.iadd, 1) := by decide +kernel
theorem dX4_parse_42 : decode cX4_parse 42 = .ok (.putfield 31, 3) := by decide +kernel
theorem dX4_parse_45 : decode cX4_parse 45 = .ok (.aload_n 0, 1) := by decide +kernel
theorem dX4_parse_46 : decode cX4_parse 46 = .ok (.getfield 28, 3) := by decide +kernel
theorem dX4_parse_49 : decode cX4_parse 49 = .ok (.aload_n 0, 1) := by decide +kernel
theorem dX4_parse_50 : decode cX4_parse 50 = .ok (.getfield 20, 3) := by decide +kernel
theorem dX4_parse_53 : decode cX4_parse 53 = .ok (.if_icmp .lt 5, 3) := by decide +kernel
theorem dX4_parse_56 : decode cX4_parse 56 = .ok (.iconst (-1), 1) := by decide +kernel
theorem dX4_parse_57 : decode cX4_parse 57 = .ok (.ireturn, 1) := by decide +kernel
theorem dX4_parse_58 : decode cX4_parse 58 = .ok (.aload_n 0, 1) := by decide +kernel
theorem dX4_parse_59 : decode cX4_parse 59 = .ok (.getfield 16, 3) := by decide +kernel
theorem dX4_parse_62 : decode cX4_parse 62 = .ok (.aload_n 0, 1) := by decide +kernel
theorem dX4_parse_63 : decode cX4_parse 63 = .ok (.getfield 28, 3) := by decide +kernel
theorem dX4_parse_66 : decode cX4_parse 66 = .ok (.baload, 1) := by decide +kernel
theorem dX4_parse_67 : decode cX4_parse 67 = .ok (.bipush 59, 2) := by decide +kernel
theorem dX4_parse_69 : decode cX4_parse 69 = .ok (.if_icmp .eq 8, 3) := by decide +kernel
theorem dX4_parse_72 : decode cX4_parse 72 = .ok (.aload_n 0, 1) := by decide +kernel
theorem dX4_parse_73 : decode cX4_parse 73 = .ok (.getfield 28, 3) := by decide +kernel
theorem dX4_parse_76 : decode cX4_parse 76 = .ok (.ireturn, 1) := by decide +kernel
theorem dX4_parse_77 : decode cX4_parse 77 = .ok (.aload_n 0, 1) := by decide +kernel
theorem dX4_parse_78 : decode cX4_parse 78 = .ok (.dup, 1) := by decide +kernel
theorem dX4_parse_79 : decode cX4_parse 79 = .ok (.getfield 28, 3) := by decide +kernel
theorem dX4_parse_82 : decode cX4_parse 82 = .ok (.iconst 1, 1) := by decide +kernel
theorem dX4_parse_83 : decode cX4_parse 83 = .ok (.iadd, 1) := by decide +kernel
theorem dX4_parse_84 : decode cX4_parse 84 = .ok (.putfield 28, 3) := by decide +kernel
theorem dX4_parse_87 : decode cX4_parse 87 = .ok (.goto (-77), 3) := by decide +kernel
theorem dX4_parse_90 : decode cX4_parse 90 = .ok (.aload_n 0, 1) := by decide +kernel
theorem dX4_parse_91 : decode cX4_parse 91 = .ok (.getfield 28, 3) := by decide +kernel
theorem dX4_parse_94 : decode cX4_parse 94 = .ok (.ireturn, 1) := by decide +kernel
theorem dX4_readCommand_0 : decode cX4_readCommand 0 = .ok (.aload_n 0, 1) := by decide +kernel
theorem dX4_readCommand_1 : decode cX4_readCommand 1 = .ok (.aload_n 0, 1) := by decide +kernel
theorem dX4_readCommand_2 : decode cX4_readCommand 2 = .ok (.getfield 28, 3) := by decide +kernel
theorem dX4_readCommand_5 : decode cX4_readCommand 5 = .ok (.invokevirtual 38, 3) := by decide +kernel
theorem dX4_readCommand_8 : decode cX4_readCommand 8 = .ok (.istore_n 2, 1) := by decide +kernel
theorem dX4_readCommand_9 : decode cX4_readCommand 9 = .ok (.aload_n 0, 1) := by decide +kernel
theorem dX4_readCommand_10 : decode cX4_readCommand 10 = .ok (.aload_n 0, 1) := by decide +kernel
theorem dX4_readCommand_11 : decode cX4_readCommand 11 = .ok (.getfield 28, 3) := by decide +kernel
theorem dX4_readCommand_14 : decode cX4_readCommand 14 = .ok (.iload_n 2, 1) := by decide +kernel
theorem dX4_readCommand_15 : decode cX4_readCommand 15 = .ok (.invokevirtual 42, 3) := by decide +kernel
theorem dX4_readCommand_18 : decode cX4_readCommand 18 = .ok (.istore_n 3, 1) := by decide +kernel
theorem dX4_readCommand_19 : decode cX4_readCommand 19 = .ok (.iload_n 3, 1) := by decide +kernel
theorem dX4_readCommand_20 : decode cX4_readCommand 20 = .ok (.iconst (-1), 1) := by decide +kernel
theorem dX4_readCommand_21 : decode cX4_readCommand 21 = .ok (.if_icmp .ne 5, 3) := by decide +kernel
theorem dX4_readCommand_24 : decode cX4_readCommand 24 = .ok (.iconst 0, 1) := by decide +kernel
theorem dX4_readCommand_25 : decode cX4_readCommand 25 = .ok (.ireturn, 1) := by decide +kernel
theorem dX4_readCommand_26 : decode cX4_readCommand 26 = .ok (.aload_n 0, 1) := by decide +kernel
theorem dX4_readCommand_27 : decode cX4_readCommand 27 = .ok (.iload_n 2, 1) := by decide +kernel
theorem dX4_readCommand_28 : decode cX4_readCommand 28 = .ok (.putfield 28, 3) := by decide +kernel
theorem dX4_readCommand_31 : decode cX4_readCommand 31 = .ok (.aload_n 0, 1) := by decide +kernel
theorem dX4_readCommand_32 : decode cX4_readCommand 32 = .ok (.getfield 9, 3) := by decide +kernel
theorem dX4_readCommand_35 : decode cX4_readCommand 35 = .ok (.iload_n 1, 1) := by decide +kernel
theorem dX4_readCommand_36 : decode cX4_readCommand 36 = .ok (.iload_n 3, 1) := by decide +kernel
theorem dX4_readCommand_37 : decode cX4_readCommand 37 = .ok (.iastore, 1) := by decide +kernel
theorem dX4_readCommand_38 : decode cX4_readCommand 38 = .ok (.iconst 0, 1) := by decide +kernel
theorem dX4_readCommand_39 : decode cX4_readCommand 39 = .ok (.istore 4, 2) := by decide +kernel
theorem dX4_readCommand_41 : decode cX4_readCommand 41 = .ok (.iload 4, 2) := by decide +kernel
theorem dX4_readCommand_43 : decode cX4_readCommand 43 = .ok (.getstatic 46, 3) := by decide +kernel
theorem dX4_readCommand_46 : decode cX4_readCommand 46 = .ok (.iload_n 3, 1) := by decide +kernel
theorem dX4_readCommand_47 : decode cX4_readCommand 47 = .ok (.iaload, 1) := by decide +kernel
theorem dX4_readCommand_48 : decode cX4_readCommand 48 = .ok (.if_icmp .ge 24, 3) := by decide +kernel
theorem dX4_readCommand_51 : decode cX4_readCommand 51 = .ok (.aload_n 0, 1) := by decide +kernel
theorem dX4_readCommand_52 : decode cX4_readCommand 52 = .ok (.iload_n 1, 1) := by decide +kernel
theorem dX4_readCommand_53 : decode cX4_readCommand 53 = .ok (.iconst 3, 1) := by decide +kernel
theorem dX4_readCommand_54 : decode cX4_readCommand 54 = .ok (.imul, 1) := by decide +kernel
theorem dX4_readCommand_55 : decode cX4_readCommand 55 = .ok (.iload 4, 2) := by decide +kernel
theorem dX4_readCommand_57 : decode cX4_readCommand 57 = .ok (.iadd, 1) := by decide +kernel
theorem dX4_readCommand_58 : decode cX4_readCommand 58 = .ok (.invokevirtual 49, 3) := by decide +kernel
theorem dX4_readCommand_61 : decode cX4_readCommand 61 = .ok (.ifCond .ne 5, 3) := by decide +kernel
theorem dX4_readCommand_64 : decode cX4_readCommand 64 = .ok (.iconst 0, 1) := by decide +kernel
theorem dX4_readCommand_65 : decode cX4_readCommand 65 = .ok (.ireturn, 1) := by decide +kernel
theorem dX4_readCommand_66 : decode cX4_readCommand 66 = .ok (.iinc 4 1, 3) := by decide +kernel
theorem dX4_readCommand_69 : decode cX4_readCommand 69 = .ok (.goto (-28), 3) := by decide +kernel
theorem dX4_readCommand_72 : decode cX4_readCommand 72 = .ok (.iconst 1, 1) := by decide +kernel
theorem dX4_readCommand_73 : decode cX4_readCommand 73 = .ok (.ireturn, 1) := by decide +kernel
theorem dX4_readNumber_0 : decode cX4_readNumber 0 = .ok (.aload_n 0, 1) := by decide +kernel
theorem dX4_readNumber_1 : decode cX4_readNumber 1 = .ok (.bipush 32, 2) := by decide +kernel
theorem dX4_readNumber_3 : decode cX4_readNumber 3 = .ok (.invokevirtual 52, 3) := by decide +kernel
theorem dX4_readNumber_6 : decode cX4_readNumber 6 = .ok (.ifCond .ne 5, 3) := by decide +kernel
theorem dX4_readNumber_9 : decode cX4_readNumber 9 = .ok (.iconst 0, 1) := by decide +kernel
theorem dX4_readNumber_10 : decode cX4_readNumber 10 = .ok (.ireturn, 1) := by decide +kernel
theorem dX4_readNumber_11 : decode cX4_readNumber 11 = .ok (.aload_n 0, 1) := by decide +kernel
theorem dX4_readNumber_12 : decode cX4_readNumber 12 = .ok (.dup, 1) := by decide +kernel
theorem dX4_readNumber_13 : decode cX4_readNumber 13 = .ok (.getfield 28, 3) := by decide +kernel
theorem dX4_readNumber_16 : decode cX4_readNumber 16 = .ok (.iconst 1, 1) := by decide +kernel
theorem dX4_readNumber_17 : decode cX4_readNumber 17 = .ok (.iadd, 1) := by decide +kernel
theorem dX4_readNumber_18 : decode cX4_readNumber 18 = .ok (.putfield 28, 3) := by decide +kernel
theorem dX4_readNumber_21 : decode cX4_readNumber 21 = .ok (.aload_n 0, 1) := by decide +kernel
theorem dX4_readNumber_22 : decode cX4_readNumber 22 = .ok (.bipush 45, 2) := by decide +kernel
theorem dX4_readNumber_24 : decode cX4_readNumber 24 = .ok (.invokevirtual 52, 3) := by decide +kernel
theorem dX4_readNumber_27 : decode cX4_readNumber 27 = .ok (.istore_n 2, 1) := by decide +kernel
theorem dX4_readNumber_28 : decode cX4_readNumber 28 = .ok (.iload_n 2, 1) := by decide +kernel
theorem dX4_readNumber_29 : decode cX4_readNumber 29 = .ok (.ifCond .eq 13, 3) := by decide +kernel
theorem dX4_readNumber_32 : decode cX4_readNumber 32 = .ok (.aload_n 0, 1) := by decide +kernel
theorem dX4_readNumber_33 : decode cX4_readNumber 33 = .ok (.dup, 1) := by decide +kernel
theorem dX4_readNumber_34 : decode cX4_readNumber 34 = .ok (.getfield 28, 3) := by decide +kernel
theorem dX4_readNumber_37 : decode cX4_readNumber 37 = .ok (.iconst 1, 1) := by decide +kernel
theorem dX4_readNumber_38 : decode cX4_readNumber 38 = .ok (.iadd, 1) := by decide +kernel
theorem dX4_readNumber_39 : decode cX4_readNumber 39 = .ok (.putfield 28, 3) := by decide +kernel
theorem dX4_readNumber_42 : decode cX4_readNumber 42 = .ok (.iconst 0, 1) := by decide +kernel
theorem dX4_readNumber_43 : decode cX4_readNumber 43 = .ok (.istore_n 3, 1) := by decide +kernel
theorem dX4_readNumber_44 : decode cX4_readNumber 44 = .ok (.iconst 0, 1) := by decide +kernel
theorem dX4_readNumber_45 : decode cX4_readNumber 45 = .ok (.istore 4, 2) := by decide +kernel
theorem dX4_readNumber_47 : decode cX4_readNumber 47 = .ok (.iload_n 3, 1) := by decide +kernel
theorem dX4_readNumber_48 : decode cX4_readNumber 48 = .ok (.iconst 3, 1) := by decide +kernel
theorem dX4_readNumber_49 : decode cX4_readNumber 49 = .ok (.if_icmp .ge 46, 3) := by decide +kernel
theorem dX4_readNumber_52 : decode cX4_readNumber 52 = .ok (.aload_n 0, 1) := by decide +kernel
theorem dX4_readNumber_53 : decode cX4_readNumber 53 = .ok (.invokevirtual 56, 3) := by decide +kernel
theorem dX4_readNumber_56 : decode cX4_readNumber 56 = .ok (.ifCond .eq 39, 3) := by decide +kernel
theorem dX4_readNumber_59 : decode cX4_readNumber 59 = .ok (.iload 4, 2) := by decide +kernel
theorem dX4_readNumber_61 : decode cX4_readNumber 61 = .ok (.bipush 10, 2) := by decide +kernel
theorem dX4_readNumber_63 : decode cX4_readNumber 63 = .ok (.imul, 1) := by decide +kernel
theorem dX4_readNumber_64 : decode cX4_readNumber 64 = .ok (.aload_n 0, 1) := by decide +kernel
theorem dX4_readNumber_65 : decode cX4_readNumber 65 = .ok (.getfield 16, 3) := by decide +kernel
theorem dX4_readNumber_68 : decode cX4_readNumber 68 = .ok (.aload_n 0, 1) := by decide +kernel
theorem dX4_readNumber_69 : decode cX4_readNumber 69 = .ok (.getfield 28, 3) := by decide +kernel
theorem dX4_readNumber_72 : decode cX4_readNumber 72 = .ok (.baload, 1) := by decide +kernel
theorem dX4_readNumber_73 : decode cX4_readNumber 73 = .ok (.iadd, 1) := by decide +kernel
theorem dX4_readNumber_74 : decode cX4_readNumber 74 = .ok (.bipush 48, 2) := by decide +kernel
theorem dX4_readNumber_76 : decode cX4_readNumber 76 = .ok (.isub, 1) := by decide +kernel
theorem dX4_readNumber_77 : decode cX4_readNumber 77 = .ok (.istore 4, 2) := by decide +kernel
theorem dX4_readNumber_79 : decode cX4_readNumber 79 = .ok (.iinc 3 1, 3) := by decide +kernel
theorem dX4_readNumber_82 : decode cX4_readNumber 82 = .ok (.aload_n 0, 1) := by decide +kernel
theorem dX4_readNumber_83 : decode cX4_readNumber 83 = .ok (.dup, 1) := by decide +kernel
theorem dX4_readNumber_84 : decode cX4_readNumber 84 = .ok (.getfield 28, 3) := by decide +kernel
theorem dX4_readNumber_87 : decode cX4_readNumber 87 = .ok (.iconst 1, 1) := by decide +kernel
theorem dX4_readNumber_88 : decode cX4_readNumber 88 = .ok (.iadd, 1) := by decide +kernel
theorem dX4_readNumber_89 : decode cX4_readNumber 89 = .ok (.putfield 28, 3) := by decide +kernel
theorem dX4_readNumber_92 : decode cX4_readNumber 92 = .ok (.goto (-45), 3) := by decide +kernel
theorem dX4_readNumber_95 : decode cX4_readNumber 95 = .ok (.aload_n 0, 1) := by decide +kernel
theorem dX4_readNumber_96 : decode cX4_readNumber 96 = .ok (.getfield 13, 3) := by decide +kernel
theorem dX4_readNumber_99 : decode cX4_readNumber 99 = .ok (.iload_n 1, 1) := by decide +kernel
theorem dX4_readNumber_100 : decode cX4_readNumber 100 = .ok (.iload_n 2, 1) := by decide +kernel
theorem dX4_readNumber_101 : decode cX4_readNumber 101 = .ok (.ifCond .eq 9, 3) := by decide +kernel
theorem dX4_readNumber_104 : decode cX4_readNumber 104 = .ok (.iload 4, 2) := by decide +kernel
theorem dX4_readNumber_106 : decode cX4_readNumber 106 = .ok (.ineg, 1) := by decide +kernel
theorem dX4_readNumber_107 : decode cX4_readNumber 107 = .ok (.goto 5, 3) := by decide +kernel
theorem dX4_readNumber_110 : decode cX4_readNumber 110 = .ok (.iload 4, 2) := by decide +kernel
theorem dX4_readNumber_112 : decode cX4_readNumber 112 = .ok (.iastore, 1) := by decide +kernel
theorem dX4_readNumber_113 : decode cX4_readNumber 113 = .ok (.iload_n 3, 1) := by decide +kernel
theorem dX4_readNumber_114 : decode cX4_readNumber 114 = .ok (.ifCond .le 7, 3) := by decide +kernel
theorem dX4_readNumber_117 : decode cX4_readNumber 117 = .ok (.iconst 1, 1) := by decide +kernel
theorem dX4_readNumber_118 : decode cX4_readNumber 118 = .ok (.goto 4, 3) := by decide +kernel
theorem dX4_readNumber_121 : decode cX4_readNumber 121 = .ok (.iconst 0, 1) := by decide +kernel
theorem dX4_readNumber_122 : decode cX4_readNumber 122 = .ok (.ireturn, 1) := by decide +kernel
theorem dX4_isNext_0 : decode cX4_isNext 0 = .ok (.aload_n 0, 1) := by decide +kernel
theorem dX4_isNext_1 : decode cX4_isNext 1 = .ok (.getfield 28, 3) := by decide +kernel
theorem dX4_isNext_4 : decode cX4_isNext 4 = .ok (.aload_n 0, 1) := by decide +kernel
theorem dX4_isNext_5 : decode cX4_isNext 5 = .ok (.getfield 20, 3) := by decide +kernel
theorem dX4_isNext_8 : decode cX4_isNext 8 = .ok (.if_icmp .ge 20, 3) := by decide +kernel
theorem dX4_isNext_11 : decode cX4_isNext 11 = .ok (.aload_n 0, 1) := by decide +kernel
theorem dX4_isNext_12 : decode cX4_isNext 12 = .ok (.getfield 16, 3) := by decide +kernel
theorem dX4_isNext_15 : decode cX4_isNext 15 = .ok (.aload_n 0, 1) := by decide +kernel
theorem dX4_isNext_16 : decode cX4_isNext 16 = .ok (.getfield 28, 3) := by decide +kernel
theorem dX4_isNext_19 : decode cX4_isNext 19 = .ok (.baload, 1) := by decide +kernel
theorem dX4_isNext_20 : decode cX4_isNext 20 = .ok (.iload_n 1, 1) := by decide +kernel
theorem dX4_isNext_21 : decode cX4_isNext 21 = .ok (.if_icmp .ne 7, 3) := by decide +kernel
theorem dX4_isNext_24 : decode cX4_isNext 24 = .ok (.iconst 1, 1) := by decide +kernel
theorem dX4_isNext_25 : decode cX4_isNext 25 = .ok (.goto 4, 3) := by decide +kernel
theorem dX4_isNext_28 : decode cX4_isNext 28 = .ok (.iconst 0, 1) := by decide +kernel
theorem dX4_isNext_29 : decode cX4_isNext 29 = .ok (.ireturn, 1) := by decide +kernel
theorem dX4_isDigitNext_0 : decode cX4_isDigitNext 0 = .ok (.aload_n 0, 1) := by decide +kernel
theorem dX4_isDigitNext_1 : decode cX4_isDigitNext 1 = .ok (.getfield 28, 3) := by decide +kernel
theorem dX4_isDigitNext_4 : decode cX4_isDigitNext 4 = .ok (.aload_n 0, 1) := by decide +kernel
theorem dX4_isDigitNext_5 : decode cX4_isDigitNext 5 = .ok (.getfield 20, 3) := by decide +kernel
theorem dX4_isDigitNext_8 : decode cX4_isDigitNext 8 = .ok (.if_icmp .ge 35, 3) := by decide +kernel
theorem dX4_isDigitNext_11 : decode cX4_isDigitNext 11 = .ok (.aload_n 0, 1) := by decide +kernel
theorem dX4_isDigitNext_12 : decode cX4_isDigitNext 12 = .ok (.getfield 16, 3) := by decide +kernel
theorem dX4_isDigitNext_15 : decode cX4_isDigitNext 15 = .ok (.aload_n 0, 1) := by decide +kernel
theorem dX4_isDigitNext_16 : decode cX4_isDigitNext 16 = .ok (.getfield 28, 3) := by decide +kernel
theorem dX4_isDigitNext_19 : decode cX4_isDigitNext 19 = .ok (.baload, 1) := by decide +kernel
theorem dX4_isDigitNext_20 : decode cX4_isDigitNext 20 = .ok (.bipush 48, 2) := by decide +kernel
theorem dX4_isDigitNext_22 : decode cX4_isDigitNext 22 = .ok (.if_icmp .lt 21, 3) := by decide +kernel
theorem dX4_isDigitNext_25 : decode cX4_isDigitNext 25 = .ok (.aload_n 0, 1) := by decide +kernel
theorem dX4_isDigitNext_26 : decode cX4_isDigitNext 26 = .ok (.getfield 16, 3) := by decide +kernel
theorem dX4_isDigitNext_29 : decode cX4_isDigitNext 29 = .ok (.aload_n 0, 1) := by decide +kernel
theorem dX4_isDigitNext_30 : decode cX4_isDigitNext 30 = .ok (.getfield 28, 3) := by decide +kernel
theorem dX4_isDigitNext_33 : decode cX4_isDigitNext 33 = .ok (.baload, 1) := by decide +kernel
theorem dX4_isDigitNext_34 : decode cX4_isDigitNext 34 = .ok (.bipush 57, 2) := by decide +kernel
theorem dX4_isDigitNext_36 : decode cX4_isDigitNext 36 = .ok (.if_icmp .gt 7, 3) := by decide +kernel
theorem dX4_isDigitNext_39 : decode cX4_isDigitNext 39 = .ok (.iconst 1, 1) := by decide +kernel
theorem dX4_isDigitNext_40 : decode cX4_isDigitNext 40 = .ok (.goto 4, 3) := by decide +kernel
theorem dX4_isDigitNext_43 : decode cX4_isDigitNext 43 = .ok (.iconst 0, 1) := by decide +kernel
theorem dX4_isDigitNext_44 : decode cX4_isDigitNext 44 = .ok (.ireturn, 1) := by decide +kernel
theorem dX4_endOfWord_0 : decode cX4_endOfWord 0 = .ok (.iload_n 1, 1) := by decide +kernel
theorem dX4_endOfWord_1 : decode cX4_endOfWord 1 = .ok (.istore_n 2, 1) := by decide +kernel
theorem dX4_endOfWord_2 : decode cX4_endOfWord 2 = .ok (.iload_n 2, 1) := by decide +kernel
theorem dX4_endOfWord_3 : decode cX4_endOfWord 3 = .ok (.aload_n 0, 1) := by decide +kernel
theorem dX4_endOfWord_4 : decode cX4_endOfWord 4 = .ok (.getfield 20, 3) := by decide +kernel
theorem dX4_endOfWord_7 : decode cX4_endOfWord 7 = .ok (.if_icmp .ge 31, 3) := by decide +kernel
theorem dX4_endOfWord_10 : decode cX4_endOfWord 10 = .ok (.aload_n 0, 1) := by decide +kernel
theorem dX4_endOfWord_11 : decode cX4_endOfWord 11 = .ok (.getfield 16, 3) := by decide +kernel
theorem dX4_endOfWord_14 : decode cX4_endOfWord 14 = .ok (.iload_n 2, 1) := by decide +kernel
theorem dX4_endOfWord_15 : decode cX4_endOfWord 15 = .ok (.baload, 1) := by decide +kernel
theorem dX4_endOfWord_16 : decode cX4_endOfWord 16 = .ok (.bipush 97, 2) := by decide +kernel
theorem dX4_endOfWord_18 : decode cX4_endOfWord 18 = .ok (.if_icmp .lt 20, 3) := by decide +kernel
theorem dX4_endOfWord_21 : decode cX4_endOfWord 21 = .ok (.aload_n 0, 1) := by decide +kernel
theorem dX4_endOfWord_22 : decode cX4_endOfWord 22 = .ok (.getfield 16, 3) := by decide +kernel
theorem dX4_endOfWord_25 : decode cX4_endOfWord 25 = .ok (.iload_n 2, 1) := by decide +kernel
theorem dX4_endOfWord_26 : decode cX4_endOfWord 26 = .ok (.baload, 1) := by decide +kernel
theorem dX4_endOfWord_27 : decode cX4_endOfWord 27 = .ok (.bipush 122, 2) := by decide +kernel
theorem dX4_endOfWord_29 : decode cX4_endOfWord 29 = .ok (.if_icmp .gt 9, 3) := by decide +kernel
theorem dX4_endOfWord_32 : decode cX4_endOfWord 32 = .ok (.iinc 2 1, 3) := by decide +kernel
theorem dX4_endOfWord_35 : decode cX4_endOfWord 35 = .ok (.goto (-33), 3) := by decide +kernel
theorem dX4_endOfWord_38 : decode cX4_endOfWord 38 = .ok (.iload_n 2, 1) := by decide +kernel
theorem dX4_endOfWord_39 : decode cX4_endOfWord 39 = .ok (.ireturn, 1) := by decide +kernel
theorem dX4_findWord_0 : decode cX4_findWord 0 = .ok (.iconst 0, 1) := by decide +kernel
theorem dX4_findWord_1 : decode cX4_findWord 1 = .ok (.istore_n 3, 1) := by decide +kernel
theorem dX4_findWord_2 : decode cX4_findWord 2 = .ok (.iload_n 3, 1) := by decide +kernel
theorem dX4_findWord_3 : decode cX4_findWord 3 = .ok (.bipush 11, 2) := by decide +kernel
theorem dX4_findWord_5 : decode cX4_findWord 5 = .ok (.if_icmp .ge 24, 3) := by decide +kernel
theorem dX4_findWord_8 : decode cX4_findWord 8 = .ok (.aload_n 0, 1) := by decide +kernel
theorem dX4_findWord_9 : decode cX4_findWord 9 = .ok (.iload_n 3, 1) := by decide +kernel
theorem dX4_findWord_10 : decode cX4_findWord 10 = .ok (.invokestatic 59, 3) := by decide +kernel
theorem dX4_findWord_13 : decode cX4_findWord 13 = .ok (.iload_n 1, 1) := by decide +kernel
theorem dX4_findWord_14 : decode cX4_findWord 14 = .ok (.iload_n 2, 1) := by decide +kernel
theorem dX4_findWord_15 : decode cX4_findWord 15 = .ok (.invokevirtual 63, 3) := by decide +kernel
theorem dX4_findWord_18 : decode cX4_findWord 18 = .ok (.ifCond .eq 5, 3) := by decide +kernel
theorem dX4_findWord_21 : decode cX4_findWord 21 = .ok (.iload_n 3, 1) := by decide +kernel
theorem dX4_findWord_22 : decode cX4_findWord 22 = .ok (.ireturn, 1) := by decide +kernel
theorem dX4_findWord_23 : decode cX4_findWord 23 = .ok (.iinc 3 1, 3) := by decide +kernel
theorem dX4_findWord_26 : decode cX4_findWord 26 = .ok (.goto (-24), 3) := by decide +kernel
theorem dX4_findWord_29 : decode cX4_findWord 29 = .ok (.iconst (-1), 1) := by decide +kernel
theorem dX4_findWord_30 : decode cX4_findWord 30 = .ok (.ireturn, 1) := by decide +kernel
theorem dX4_isSame_0 : decode cX4_isSame 0 = .ok (.aload_n 1, 1) := by decide +kernel
theorem dX4_isSame_1 : decode cX4_isSame 1 = .ok (.invokevirtual 67, 3) := by decide +kernel
theorem dX4_isSame_4 : decode cX4_isSame 4 = .ok (.iload_n 3, 1) := by decide +kernel
theorem dX4_isSame_5 : decode cX4_isSame 5 = .ok (.iload_n 2, 1) := by decide +kernel
theorem dX4_isSame_6 : decode cX4_isSame 6 = .ok (.isub, 1) := by decide +kernel
theorem dX4_isSame_7 : decode cX4_isSame 7 = .ok (.if_icmp .eq 5, 3) := by decide +kernel
theorem dX4_isSame_10 : decode cX4_isSame 10 = .ok (.iconst 0, 1) := by decide +kernel
theorem dX4_isSame_11 : decode cX4_isSame 11 = .ok (.ireturn, 1) := by decide +kernel
theorem dX4_isSame_12 : decode cX4_isSame 12 = .ok (.iconst 0, 1) := by decide +kernel
theorem dX4_isSame_13 : decode cX4_isSame 13 = .ok (.istore 4, 2) := by decide +kernel
theorem dX4_isSame_15 : decode cX4_isSame 15 = .ok (.iload 4, 2) := by decide +kernel
theorem dX4_isSame_17 : decode cX4_isSame 17 = .ok (.aload_n 1, 1) := by decide +kernel
theorem dX4_isSame_18 : decode cX4_isSame 18 = .ok (.invokevirtual 67, 3) := by decide +kernel
theorem dX4_isSame_21 : decode cX4_isSame 21 = .ok (.if_icmp .ge 29, 3) := by decide +kernel
theorem dX4_isSame_24 : decode cX4_isSame 24 = .ok (.aload_n 0, 1) := by decide +kernel
theorem dX4_isSame_25 : decode cX4_isSame 25 = .ok (.getfield 16, 3) := by decide +kernel
theorem dX4_isSame_28 : decode cX4_isSame 28 = .ok (.iload_n 2, 1) := by decide +kernel
theorem dX4_isSame_29 : decode cX4_isSame 29 = .ok (.iload 4, 2) := by decide +kernel
theorem dX4_isSame_31 : decode cX4_isSame 31 = .ok (.iadd, 1) := by decide +kernel
theorem dX4_isSame_32 : decode cX4_isSame 32 = .ok (.baload, 1) := by decide +kernel
theorem dX4_isSame_33 : decode cX4_isSame 33 = .ok (.aload_n 1, 1) := by decide +kernel
theorem dX4_isSame_34 : decode cX4_isSame 34 = .ok (.iload 4, 2) := by decide +kernel
theorem dX4_isSame_36 : decode cX4_isSame 36 = .ok (.invokevirtual 72, 3) := by decide +kernel
theorem dX4_isSame_39 : decode cX4_isSame 39 = .ok (.if_icmp .eq 5, 3) := by decide +kernel
theorem dX4_isSame_42 : decode cX4_isSame 42 = .ok (.iconst 0, 1) := by decide +kernel
theorem dX4_isSame_43 : decode cX4_isSame 43 = .ok (.ireturn, 1) := by decide +kernel
theorem dX4_isSame_44 : decode cX4_isSame 44 = .ok (.iinc 4 1, 3) := by decide +kernel
theorem dX4_isSame_47 : decode cX4_isSame 47 = .ok (.goto (-32), 3) := by decide +kernel
theorem dX4_isSame_50 : decode cX4_isSame 50 = .ok (.iconst 1, 1) := by decide +kernel
theorem dX4_isSame_51 : decode cX4_isSame 51 = .ok (.ireturn, 1) := by decide +kernel
theorem dX4_spelling_0 : decode cX4_spelling 0 = .ok (.iload_n 0, 1) := by decide +kernel
theorem dX4_spelling_1 : decode cX4_spelling 1 = .ok (.tableswitch 85 0 9 #[55, 58, 61, 64, 67, 70, 73, 76, 79, 82], 55) := by decide +kernel
theorem dX4_spelling_56 : decode cX4_spelling 56 = .ok (.ldc 76, 2) := by decide +kernel
theorem dX4_spelling_58 : decode cX4_spelling 58 = .ok (.areturn, 1) := by decide +kernel
theorem dX4_spelling_59 : decode cX4_spelling 59 = .ok (.ldc 78, 2) := by decide +kernel
theorem dX4_spelling_61 : decode cX4_spelling 61 = .ok (.areturn, 1) := by decide +kernel
theorem dX4_spelling_62 : decode cX4_spelling 62 = .ok (.ldc 80, 2) := by decide +kernel
theorem dX4_spelling_64 : decode cX4_spelling 64 = .ok (.areturn, 1) := by decide +kernel
theorem dX4_spelling_65 : decode cX4_spelling 65 = .ok (.ldc 82, 2) := by decide +kernel
theorem dX4_spelling_67 : decode cX4_spelling 67 = .ok (.areturn, 1) := by decide +kernel
theorem dX4_spelling_68 : decode cX4_spelling 68 = .ok (.ldc 84, 2) := by decide +kernel
theorem dX4_spelling_70 : decode cX4_spelling 70 = .ok (.areturn, 1) := by decide +kernel
theorem dX4_spelling_71 : decode cX4_spelling 71 = .ok (.ldc 86, 2) := by decide +kernel
theorem dX4_spelling_73 : decode cX4_spelling 73 = .ok (.areturn, 1) := by decide +kernel
theorem dX4_spelling_74 : decode cX4_spelling 74 = .ok (.ldc 88, 2) := by decide +kernel
theorem dX4_spelling_76 : decode cX4_spelling 76 = .ok (.areturn, 1) := by decide +kernel
theorem dX4_spelling_77 : decode cX4_spelling 77 = .ok (.ldc 90, 2) := by decide +kernel
theorem dX4_spelling_79 : decode cX4_spelling 79 = .ok (.areturn, 1) := by decide +kernel
theorem dX4_spelling_80 : decode cX4_spelling 80 = .ok (.ldc 92, 2) := by decide +kernel
theorem dX4_spelling_82 : decode cX4_spelling 82 = .ok (.areturn, 1) := by decide +kernel
theorem dX4_spelling_83 : decode cX4_spelling 83 = .ok (.ldc 94, 2) := by decide +kernel
theorem dX4_spelling_85 : decode cX4_spelling 85 = .ok (.areturn, 1) := by decide +kernel
theorem dX4_spelling_86 : decode cX4_spelling 86 = .ok (.ldc 96, 2) := by decide +kernel
theorem dX4_spelling_88 : decode cX4_spelling 88 = .ok (.areturn, 1) := by decide +kernel
theorem dX5_init_0 : decode cX5_init 0 = .ok (.aload_n 0, 1) := by decide +kernel
theorem dX5_init_1 : decode cX5_init 1 = .ok (.invokespecial 3, 3) := by decide +kernel
theorem dX5_init_4 : decode cX5_init 4 = .ok (.aload_n 0, 1) := by decide +kernel
theorem dX5_init_5 : decode cX5_init 5 = .ok (.bipush 36, 2) := by decide +kernel
theorem dX5_init_7 : decode cX5_init 7 = .ok (.newarray .int, 2) := by decide +kernel
theorem dX5_init_9 : decode cX5_init 9 = .ok (.putfield 9, 3) := by decide +kernel
theorem dX5_init_12 : decode cX5_init 12 = .ok (.aload_n 0, 1) := by decide +kernel
theorem dX5_init_13 : decode cX5_init 13 = .ok (.bipush 8, 2) := by decide +kernel
theorem dX5_init_15 : decode cX5_init 15 = .ok (.newarray .int, 2) := by decide +kernel
theorem dX5_init_17 : decode cX5_init 17 = .ok (.putfield 15, 3) := by decide +kernel
theorem dX5_init_20 : decode cX5_init 20 = .ok (.aload_n 0, 1) := by decide +kernel
theorem dX5_init_21 : decode cX5_init 21 = .ok (.bipush 8, 2) := by decide +kernel
theorem dX5_init_23 : decode cX5_init 23 = .ok (.newarray .int, 2) := by decide +kernel
theorem dX5_init_25 : decode cX5_init 25 = .ok (.putfield 18, 3) := by decide +kernel
theorem dX5_init_28 : decode cX5_init 28 = .ok (.aload_n 0, 1) := by decide +kernel
theorem dX5_init_29 : decode cX5_init 29 = .ok (.bipush 6, 2) := by decide +kernel
theorem dX5_init_31 : decode cX5_init 31 = .ok (.newarray .int, 2) := by decide +kernel
theorem dX5_init_33 : decode cX5_init 33 = .ok (.putfield 21, 3) := by decide +kernel
theorem dX5_init_36 : decode cX5_init 36 = .ok (.aload_n 0, 1) := by decide +kernel
theorem dX5_init_37 : decode cX5_init 37 = .ok (.bipush 6, 2) := by decide +kernel
theorem dX5_init_39 : decode cX5_init 39 = .ok (.newarray .int, 2) := by decide +kernel
theorem dX5_init_41 : decode cX5_init 41 = .ok (.putfield 24, 3) := by decide +kernel
theorem dX5_init_44 : decode cX5_init 44 = .ok (.aload_n 0, 1) := by decide +kernel
theorem dX5_init_45 : decode cX5_init 45 = .ok (.bipush 6, 2) := by decide +kernel
theorem dX5_init_47 : decode cX5_init 47 = .ok (.newarray .int, 2) := by decide +kernel
theorem dX5_init_49 : decode cX5_init 49 = .ok (.putfield 27, 3) := by decide +kernel
theorem dX5_init_52 : decode cX5_init 52 = .ok (.aload_n 0, 1) := by decide +kernel
theorem dX5_init_53 : decode cX5_init 53 = .ok (.bipush 6, 2) := by decide +kernel
theorem dX5_init_55 : decode cX5_init 55 = .ok (.anewarray 30, 3) := by decide +kernel
theorem dX5_init_58 : decode cX5_init 58 = .ok (.putfield 32, 3) := by decide +kernel
theorem dX5_init_61 : decode cX5_init 61 = .ok (.aload_n 0, 1) := by decide +kernel
theorem dX5_init_62 : decode cX5_init 62 = .ok (.bipush 6, 2) := by decide +kernel
theorem dX5_init_64 : decode cX5_init 64 = .ok (.newarray .int, 2) := by decide +kernel
theorem dX5_init_66 : decode cX5_init 66 = .ok (.putfield 36, 3) := by decide +kernel
theorem dX5_init_69 : decode cX5_init 69 = .ok (.iconst 0, 1) := by decide +kernel
theorem dX5_init_70 : decode cX5_init 70 = .ok (.istore_n 1, 1) := by decide +kernel
theorem dX5_init_71 : decode cX5_init 71 = .ok (.iload_n 1, 1) := by decide +kernel
theorem dX5_init_72 : decode cX5_init 72 = .ok (.bipush 6, 2) := by decide +kernel
theorem dX5_init_74 : decode cX5_init 74 = .ok (.if_icmp .ge 22, 3) := by decide +kernel
theorem dX5_init_77 : decode cX5_init 77 = .ok (.aload_n 0, 1) := by decide +kernel
theorem dX5_init_78 : decode cX5_init 78 = .ok (.getfield 32, 3) := by decide +kernel
theorem dX5_init_81 : decode cX5_init 81 = .ok (.iload_n 1, 1) := by decide +kernel
theorem dX5_init_82 : decode cX5_init 82 = .ok (.new 30, 3) := by decide +kernel
theorem dX5_init_85 : decode cX5_init 85 = .ok (.dup, 1) := by decide +kernel
theorem dX5_init_86 : decode cX5_init 86 = .ok (.invokespecial 39, 3) := by decide +kernel
theorem dX5_init_89 : decode cX5_init 89 = .ok (.aastore, 1) := by decide +kernel
theorem dX5_init_90 : decode cX5_init 90 = .ok (.iinc 1 1, 3) := by decide +kernel
theorem dX5_init_93 : decode cX5_init 93 = .ok (.goto (-22), 3) := by decide +kernel
theorem dX5_init_96 : decode cX5_init 96 = .ok (.aload_n 0, 1) := by decide +kernel
theorem dX5_init_97 : decode cX5_init 97 = .ok (.iconst 4, 1) := by decide +kernel
theorem dX5_init_98 : decode cX5_init 98 = .ok (.invokevirtual 40, 3) := by decide +kernel
theorem dX5_init_101 : decode cX5_init 101 = .ok (.return_, 1) := by decide +kernel
theorem dX5_startAnew_0 : decode cX5_startAnew 0 = .ok (.aload_n 0, 1) := by decide +kernel
theorem dX5_startAnew_1 : decode cX5_startAnew 1 = .ok (.iload_n 1, 1) := by decide +kernel
theorem dX5_startAnew_2 : decode cX5_startAnew 2 = .ok (.putfield 44, 3) := by decide +kernel
theorem dX5_startAnew_5 : decode cX5_startAnew 5 = .ok (.aload_n 0, 1) := by decide +kernel
theorem dX5_startAnew_6 : decode cX5_startAnew 6 = .ok (.getfield 9, 3) := by decide +kernel
theorem dX5_startAnew_9 : decode cX5_startAnew 9 = .ok (.iconst 0, 1) := by decide +kernel
theorem dX5_startAnew_10 : decode cX5_startAnew 10 = .ok (.invokestatic 48, 3) := by decide +kernel
theorem dX5_startAnew_13 : decode cX5_startAnew 13 = .ok (.aload_n 0, 1) := by decide +kernel
theorem dX5_startAnew_14 : decode cX5_startAnew 14 = .ok (.getfield 15, 3) := by decide +kernel
theorem dX5_startAnew_17 : decode cX5_startAnew 17 = .ok (.iconst 0, 1) := by decide +kernel
theorem dX5_startAnew_18 : decode cX5_startAnew 18 = .ok (.invokestatic 48, 3) := by decide +kernel
theorem dX5_startAnew_21 : decode cX5_startAnew 21 = .ok (.aload_n 0, 1) := by decide +kernel
theorem dX5_startAnew_22 : decode cX5_startAnew 22 = .ok (.getfield 18, 3) := by decide +kernel
theorem dX5_startAnew_25 : decode cX5_startAnew 25 = .ok (.iconst 0, 1) := by decide +kernel
theorem dX5_startAnew_26 : decode cX5_startAnew 26 = .ok (.invokestatic 48, 3) := by decide +kernel
theorem dX5_startAnew_29 : decode cX5_startAnew 29 = .ok (.aload_n 0, 1) := by decide +kernel
theorem dX5_startAnew_30 : decode cX5_startAnew 30 = .ok (.getfield 21, 3) := by decide +kernel
theorem dX5_startAnew_33 : decode cX5_startAnew 33 = .ok (.iconst 0, 1) := by decide +kernel
theorem dX5_startAnew_34 : decode cX5_startAnew 34 = .ok (.invokestatic 48, 3) := by decide +kernel
theorem dX5_startAnew_37 : decode cX5_startAnew 37 = .ok (.aload_n 0, 1) := by decide +kernel
theorem dX5_startAnew_38 : decode cX5_startAnew 38 = .ok (.getfield 24, 3) := by decide +kernel
theorem dX5_startAnew_41 : decode cX5_startAnew 41 = .ok (.iconst 1, 1) := by decide +kernel
theorem dX5_startAnew_42 : decode cX5_startAnew 42 = .ok (.invokestatic 48, 3) := by decide +kernel
theorem dX5_startAnew_45 : decode cX5_startAnew 45 = .ok (.aload_n 0, 1) := by decide +kernel
theorem dX5_startAnew_46 : decode cX5_startAnew 46 = .ok (.getfield 27, 3) := by decide +kernel
theorem dX5_startAnew_49 : decode cX5_startAnew 49 = .ok (.iconst 0, 1) := by decide +kernel
theorem dX5_startAnew_50 : decode cX5_startAnew 50 = .ok (.invokestatic 48, 3) := by decide +kernel
theorem dX5_startAnew_53 : decode cX5_startAnew 53 = .ok (.iconst 0, 1) := by decide +kernel
theorem dX5_startAnew_54 : decode cX5_startAnew 54 = .ok (.istore_n 2, 1) := by decide +kernel
theorem dX5_startAnew_55 : decode cX5_startAnew 55 = .ok (.iload_n 2, 1) := by decide +kernel
theorem dX5_startAnew_56 : decode cX5_startAnew 56 = .ok (.bipush 6, 2) := by decide +kernel
theorem dX5_startAnew_58 : decode cX5_startAnew 58 = .ok (.if_icmp .ge 18, 3) := by decide +kernel
theorem dX5_startAnew_61 : decode cX5_startAnew 61 = .ok (.aload_n 0, 1) := by decide +kernel
theorem dX5_startAnew_62 : decode cX5_startAnew 62 = .ok (.getfield 32, 3) := by decide +kernel
theorem dX5_startAnew_65 : decode cX5_startAnew 65 = .ok (.iload_n 2, 1) := by decide +kernel
theorem dX5_startAnew_66 : decode cX5_startAnew 66 = .ok (.aaload, 1) := by decide +kernel
theorem dX5_startAnew_67 : decode cX5_startAnew 67 = .ok (.invokevirtual 54, 3) := by decide +kernel
theorem dX5_startAnew_70 : decode cX5_startAnew 70 = .ok (.iinc 2 1, 3) := by decide +kernel
theorem dX5_startAnew_73 : decode cX5_startAnew 73 = .ok (.goto (-18), 3) := by decide +kernel
theorem dX5_startAnew_76 : decode cX5_startAnew 76 = .ok (.return_, 1) := by decide +kernel
theorem dX5_copyFrom_0 : decode cX5_copyFrom 0 = .ok (.aload_n 0, 1) := by decide +kernel
theorem dX5_copyFrom_1 : decode cX5_copyFrom 1 = .ok (.aload_n 1, 1) := by decide +kernel
theorem dX5_copyFrom_2 : decode cX5_copyFrom 2 = .ok (.getfield 44, 3) := by decide +kernel
theorem dX5_copyFrom_5 : decode cX5_copyFrom 5 = .ok (.putfield 44, 3) := by decide +kernel
theorem dX5_copyFrom_8 : decode cX5_copyFrom 8 = .ok (.aload_n 1, 1) := by decide +kernel
theorem dX5_copyFrom_9 : decode cX5_copyFrom 9 = .ok (.getfield 9, 3) := by decide +kernel
theorem dX5_copyFrom_12 : decode cX5_copyFrom 12 = .ok (.iconst 0, 1) := by decide +kernel
theorem dX5_copyFrom_13 : decode cX5_copyFrom 13 = .ok (.aload_n 0, 1) := by decide +kernel
theorem dX5_copyFrom_14 : decode cX5_copyFrom 14 = .ok (.getfield 9, 3) := by decide +kernel
theorem dX5_copyFrom_17 : decode cX5_copyFrom 17 = .ok (.iconst 0, 1) := by decide +kernel
theorem dX5_copyFrom_18 : decode cX5_copyFrom 18 = .ok (.bipush 36, 2) := by decide +kernel
theorem dX5_copyFrom_20 : decode cX5_copyFrom 20 = .ok (.invokestatic 57, 3) := by decide +kernel
theorem dX5_copyFrom_23 : decode cX5_copyFrom 23 = .ok (.aload_n 1, 1) := by decide +kernel
theorem dX5_copyFrom_24 : decode cX5_copyFrom 24 = .ok (.getfield 15, 3) := by decide +kernel
theorem dX5_copyFrom_27 : decode cX5_copyFrom 27 = .ok (.iconst 0, 1) := by decide +kernel
theorem dX5_copyFrom_28 : decode cX5_copyFrom 28 = .ok (.aload_n 0, 1) := by decide +kernel
theorem dX5_copyFrom_29 : decode cX5_copyFrom 29 = .ok (.getfield 15, 3) := by decide +kernel
theorem dX5_copyFrom_32 : decode cX5_copyFrom 32 = .ok (.iconst 0, 1) := by decide +kernel
theorem dX5_copyFrom_33 : decode cX5_copyFrom 33 = .ok (.bipush 8, 2) := by decide +kernel
theorem dX5_copyFrom_35 : decode cX5_copyFrom 35 = .ok (.invokestatic 57, 3) := by decide +kernel
theorem dX5_copyFrom_38 : decode cX5_copyFrom 38 = .ok (.aload_n 1, 1) := by decide +kernel
theorem dX5_copyFrom_39 : decode cX5_copyFrom 39 = .ok (.getfield 18, 3) := by decide +kernel
theorem dX5_copyFrom_42 : decode cX5_copyFrom 42 = .ok (.iconst 0, 1) := by decide +kernel
theorem dX5_copyFrom_43 : decode cX5_copyFrom 43 = .ok (.aload_n 0, 1) := by decide +kernel
theorem dX5_copyFrom_44 : decode cX5_copyFrom 44 = .ok (.getfield 18, 3) := by decide +kernel
theorem dX5_copyFrom_47 : decode cX5_copyFrom 47 = .ok (.iconst 0, 1) := by decide +kernel
theorem dX5_copyFrom_48 : decode cX5_copyFrom 48 = .ok (.bipush 8, 2) := by decide +kernel
theorem dX5_copyFrom_50 : decode cX5_copyFrom 50 = .ok (.invokestatic 57, 3) := by decide +kernel
theorem dX5_copyFrom_53 : decode cX5_copyFrom 53 = .ok (.aload_n 1, 1) := by decide +kernel
theorem dX5_copyFrom_54 : decode cX5_copyFrom 54 = .ok (.getfield 21, 3) := by decide +kernel
theorem dX5_copyFrom_57 : decode cX5_copyFrom 57 = .ok (.iconst 0, 1) := by decide +kernel
theorem dX5_copyFrom_58 : decode cX5_copyFrom 58 = .ok (.aload_n 0, 1) := by decide +kernel
theorem dX5_copyFrom_59 : decode cX5_copyFrom 59 = .ok (.getfield 21, 3) := by decide +kernel
theorem dX5_copyFrom_62 : decode cX5_copyFrom 62 = .ok (.iconst 0, 1) := by decide +kernel
theorem dX5_copyFrom_63 : decode cX5_copyFrom 63 = .ok (.bipush 6, 2) := by decide +kernel
theorem dX5_copyFrom_65 : decode cX5_copyFrom 65 = .ok (.invokestatic 57, 3) := by decide +kernel
theorem dX5_copyFrom_68 : decode cX5_copyFrom 68 = .ok (.aload_n 1, 1) := by decide +kernel
theorem dX5_copyFrom_69 : decode cX5_copyFrom 69 = .ok (.getfield 24, 3) := by decide +kernel
theorem dX5_copyFrom_72 : decode cX5_copyFrom 72 = .ok (.iconst 0, 1) := by decide +kernel
theorem dX5_copyFrom_73 : decode cX5_copyFrom 73 = .ok (.aload_n 0, 1) := by decide +kernel
theorem dX5_copyFrom_74 : decode cX5_copyFrom 74 = .ok (.getfield 24, 3) := by decide +kernel
theorem dX5_copyFrom_77 : decode cX5_copyFrom 77 = .ok (.iconst 0, 1) := by decide +kernel
theorem dX5_copyFrom_78 : decode cX5_copyFrom 78 = .ok (.bipush 6, 2) := by decide +kernel
theorem dX5_copyFrom_80 : decode cX5_copyFrom 80 = .ok (.invokestatic 57, 3) := by decide +kernel
theorem dX5_copyFrom_83 : decode cX5_copyFrom 83 = .ok (.aload_n 1, 1) := by decide +kernel
theorem dX5_copyFrom_84 : decode cX5_copyFrom 84 = .ok (.getfield 27, 3) := by decide +kernel
theorem dX5_copyFrom_87 : decode cX5_copyFrom 87 = .ok (.iconst 0, 1) := by decide +kernel
theorem dX5_copyFrom_88 : decode cX5_copyFrom 88 = .ok (.aload_n 0, 1) := by decide +kernel
theorem dX5_copyFrom_89 : decode cX5_copyFrom 89 = .ok (.getfield 27, 3) := by decide +kernel
theorem dX5_copyFrom_92 : decode cX5_copyFrom 92 = .ok (.iconst 0, 1) := by decide +kernel
theorem dX5_copyFrom_93 : decode cX5_copyFrom 93 = .ok (.bipush 6, 2) := by decide +kernel
theorem dX5_copyFrom_95 : decode cX5_copyFrom 95 = .ok (.invokestatic 57, 3) := by decide +kernel
theorem dX5_copyFrom_98 : decode cX5_copyFrom 98 = .ok (.iconst 0, 1) := by decide +kernel
theorem dX5_copyFrom_99 : decode cX5_copyFrom 99 = .ok (.istore_n 2, 1) := by decide +kernel
theorem dX5_copyFrom_100 : decode cX5_copyFrom 100 = .ok (.iload_n 2, 1) := by decide +kernel
theorem dX5_copyFrom_101 : decode cX5_copyFrom 101 = .ok (.bipush 6, 2) := by decide +kernel
theorem dX5_copyFrom_103 : decode cX5_copyFrom 103 = .ok (.if_icmp .ge 24, 3) := by decide +kernel
theorem dX5_copyFrom_106 : decode cX5_copyFrom 106 = .ok (.aload_n 0, 1) := by decide +kernel
theorem dX5_copyFrom_107 : decode cX5_copyFrom 107 = .ok (.getfield 32, 3) := by decide +kernel
theorem dX5_copyFrom_110 : decode cX5_copyFrom 110 = .ok (.iload_n 2, 1) := by decide +kernel
theorem dX5_copyFrom_111 : decode cX5_copyFrom 111 = .ok (.aaload, 1) := by decide +kernel
theorem dX5_copyFrom_112 : decode cX5_copyFrom 112 = .ok (.aload_n 1, 1) := by decide +kernel
theorem dX5_copyFrom_113 : decode cX5_copyFrom 113 = .ok (.getfield 32, 3) := by decide +kernel
theorem dX5_copyFrom_116 : decode cX5_copyFrom 116 = .ok (.iload_n 2, 1) := by decide +kernel
theorem dX5_copyFrom_117 : decode cX5_copyFrom 117 = .ok (.aaload, 1) := by decide +kernel
theorem dX5_copyFrom_118 : decode cX5_copyFrom 118 = .ok (.invokevirtual 63, 3) := by decide +kernel
theorem dX5_copyFrom_121 : decode cX5_copyFrom 121 = .ok (.iinc 2 1, 3) := by decide +kernel
theorem dX5_copyFrom_124 : decode cX5_copyFrom 124 = .ok (.goto (-24), 3) := by decide +kernel
theorem dX5_copyFrom_127 : decode cX5_copyFrom 127 = .ok (.return_, 1) := by decide +kernel
theorem dX5_sets_0 : decode cX5_sets 0 = .ok (.iconst 1, 1) := by decide +kernel
theorem dX5_sets_1 : decode cX5_sets 1 = .ok (.aload_n 0, 1) := by decide +kernel
theorem dX5_sets_2 : decode cX5_sets 2 = .ok (.getfield 44, 3) := by decide +kernel
theorem dX5_sets_5 : decode cX5_sets 5 = .ok (.ishl, 1) := by decide +kernel
theorem dX5_sets_6 : decode cX5_sets 6 = .ok (.ireturn, 1) := by decide +kernel
theorem dX5_all_0 : decode cX5_all 0 = .ok (.iconst 1, 1) := by decide +kernel
theorem dX5_all_1 : decode cX5_all 1 = .ok (.aload_n 0, 1) := by decide +kernel
theorem dX5_all_2 : decode cX5_all 2 = .ok (.getfield 44, 3) := by decide +kernel
theorem dX5_all_5 : decode cX5_all 5 = .ok (.ishl, 1) := by decide +kernel
theorem dX5_all_6 : decode cX5_all 6 = .ok (.iconst 1, 1) := by decide +kernel
theorem dX5_all_7 : decode cX5_all 7 = .ok (.isub, 1) := by decide +kernel
theorem dX5_all_8 : decode cX5_all 8 = .ok (.ireturn, 1) := by decide +kernel
theorem dX5_hasPoint_0 : decode cX5_hasPoint 0 = .ok (.iload_n 1, 1) := by decide +kernel
theorem dX5_hasPoint_1 : decode cX5_hasPoint 1 = .ok (.ifCond .lt 15, 3) := by decide +kernel
theorem dX5_hasPoint_4 : decode cX5_hasPoint 4 = .ok (.iload_n 1, 1) := by decide +kernel
theorem dX5_hasPoint_5 : decode cX5_hasPoint 5 = .ok (.aload_n 0, 1) := by decide +kernel
theorem dX5_hasPoint_6 : decode cX5_hasPoint 6 = .ok (.getfield 44, 3) := by decide +kernel
theorem dX5_hasPoint_9 : decode cX5_hasPoint 9 = .ok (.if_icmp .ge 7, 3) := by decide +kernel
theorem dX5_hasPoint_12 : decode cX5_hasPoint 12 = .ok (.iconst 1, 1) := by decide +kernel
theorem dX5_hasPoint_13 : decode cX5_hasPoint 13 = .ok (.goto 4, 3) := by decide +kernel
theorem dX5_hasPoint_16 : decode cX5_hasPoint 16 = .ok (.iconst 0, 1) := by decide +kernel
theorem dX5_hasPoint_17 : decode cX5_hasPoint 17 = .ok (.ireturn, 1) := by decide +kernel
theorem dX5_hasSet_0 : decode cX5_hasSet 0 = .ok (.iload_n 1, 1) := by decide +kernel
theorem dX5_hasSet_1 : decode cX5_hasSet 1 = .ok (.ifCond .lt 15, 3) := by decide +kernel
theorem dX5_hasSet_4 : decode cX5_hasSet 4 = .ok (.iload_n 1, 1) := by decide +kernel
theorem dX5_hasSet_5 : decode cX5_hasSet 5 = .ok (.aload_n 0, 1) := by decide +kernel
theorem dX5_hasSet_6 : decode cX5_hasSet 6 = .ok (.invokevirtual 67, 3) := by decide +kernel
theorem dX5_hasSet_9 : decode cX5_hasSet 9 = .ok (.if_icmp .gt 7, 3) := by decide +kernel
theorem dX5_hasSet_12 : decode cX5_hasSet 12 = .ok (.iconst 1, 1) := by decide +kernel
theorem dX5_hasSet_13 : decode cX5_hasSet 13 = .ok (.goto 4, 3) := by decide +kernel
theorem dX5_hasSet_16 : decode cX5_hasSet 16 = .ok (.iconst 0, 1) := by decide +kernel
theorem dX5_hasSet_17 : decode cX5_hasSet 17 = .ok (.ireturn, 1) := by decide +kernel
theorem dX5_presentFunctions_0 : decode cX5_presentFunctions 0 = .ok (.iconst 0, 1) := by decide +kernel
theorem dX5_presentFunctions_1 : decode cX5_presentFunctions 1 = .ok (.istore_n 1, 1) := by decide +kernel
theorem dX5_presentFunctions_2 : decode cX5_presentFunctions 2 = .ok (.iconst 0, 1) := by decide +kernel
theorem dX5_presentFunctions_3 : decode cX5_presentFunctions 3 = .ok (.istore_n 2, 1) := by decide +kernel
theorem dX5_presentFunctions_4 : decode cX5_presentFunctions 4 = .ok (.iload_n 2, 1) := by decide +kernel
theorem dX5_presentFunctions_5 : decode cX5_presentFunctions 5 = .ok (.bipush 6, 2) := by decide +kernel
theorem dX5_presentFunctions_7 : decode cX5_presentFunctions 7 = .ok (.if_icmp .ge 24, 3) := by decide +kernel
theorem dX5_presentFunctions_10 : decode cX5_presentFunctions 10 = .ok (.aload_n 0, 1) := by decide +kernel
theorem dX5_presentFunctions_11 : decode cX5_presentFunctions 11 = .ok (.getfield 32, 3) := by decide +kernel
theorem dX5_presentFunctions_14 : decode cX5_presentFunctions 14 = .ok (.iload_n 2, 1) := by decide +kernel
theorem dX5_presentFunctions_15 : decode cX5_presentFunctions 15 = .ok (.aaload, 1) := by decide +kernel
theorem dX5_presentFunctions_16 : decode cX5_presentFunctions 16 = .ok (.invokevirtual 71, 3) := by decide +kernel
theorem dX5_presentFunctions_19 : decode cX5_presentFunctions 19 = .ok (.ifCond .ne 6, 3) := by decide +kernel
theorem dX5_presentFunctions_22 : decode cX5_presentFunctions 22 = .ok (.iinc 1 1, 3) := by decide +kernel
theorem dX5_presentFunctions_25 : decode cX5_presentFunctions 25 = .ok (.iinc 2 1, 3) := by decide +kernel
theorem dX5_presentFunctions_28 : decode cX5_presentFunctions 28 = .ok (.goto (-24), 3) := by decide +kernel
theorem dX5_presentFunctions_31 : decode cX5_presentFunctions 31 = .ok (.iload_n 1, 1) := by decide +kernel
theorem dX5_presentFunctions_32 : decode cX5_presentFunctions 32 = .ok (.ireturn, 1) := by decide +kernel
theorem dX5_valueFromData_0 : decode cX5_valueFromData 0 = .ok (.iload_n 1, 1) := by decide +kernel
theorem dX5_valueFromData_1 : decode cX5_valueFromData 1 = .ok (.tableswitch 45 1 3 #[27, 33, 39], 27) := by decide +kernel
theorem dX5_valueFromData_28 : decode cX5_valueFromData 28 = .ok (.aload_n 0, 1) := by decide +kernel
theorem dX5_valueFromData_29 : decode cX5_valueFromData 29 = .ok (.iload_n 2, 1) := by decide +kernel
theorem dX5_valueFromData_30 : decode cX5_valueFromData 30 = .ok (.invokevirtual 75, 3) := by decide +kernel
theorem dX5_valueFromData_33 : decode cX5_valueFromData 33 = .ok (.ireturn, 1) := by decide +kernel
theorem dX5_valueFromData_34 : decode cX5_valueFromData 34 = .ok (.aload_n 0, 1) := by decide +kernel
theorem dX5_valueFromData_35 : decode cX5_valueFromData 35 = .ok (.iload_n 2, 1) := by decide +kernel
theorem dX5_valueFromData_36 : decode cX5_valueFromData 36 = .ok (.invokevirtual 79, 3) := by decide +kernel
theorem dX5_valueFromData_39 : decode cX5_valueFromData 39 = .ok (.ireturn, 1) := by decide +kernel
theorem dX5_valueFromData_40 : decode cX5_valueFromData 40 = .ok (.aload_n 0, 1) := by decide +kernel
theorem dX5_valueFromData_41 : decode cX5_valueFromData 41 = .ok (.iload_n 2, 1) := by decide +kernel
theorem dX5_valueFromData_42 : decode cX5_valueFromData 42 = .ok (.invokevirtual 82, 3) := by decide +kernel
theorem dX5_valueFromData_45 : decode cX5_valueFromData 45 = .ok (.ireturn, 1) := by decide +kernel
theorem dX5_valueFromData_46 : decode cX5_valueFromData 46 = .ok (.aload_n 0, 1) := by decide +kernel
theorem dX5_valueFromData_47 : decode cX5_valueFromData 47 = .ok (.iload_n 2, 1) := by decide +kernel
theorem dX5_valueFromData_48 : decode cX5_valueFromData 48 = .ok (.invokevirtual 85, 3) := by decide +kernel
theorem dX5_valueFromData_51 : decode cX5_valueFromData 51 = .ok (.ireturn, 1) := by decide +kernel
theorem dX5_loadOut_0 : decode cX5_loadOut 0 = .ok (.iconst 0, 1) := by decide +kernel
theorem dX5_loadOut_1 : decode cX5_loadOut 1 = .ok (.istore_n 2, 1) := by decide +kernel
theorem dX5_loadOut_2 : decode cX5_loadOut 2 = .ok (.iconst 0, 1) := by decide +kernel
theorem dX5_loadOut_3 : decode cX5_loadOut 3 = .ok (.istore_n 3, 1) := by decide +kernel
theorem dX5_loadOut_4 : decode cX5_loadOut 4 = .ok (.iload_n 3, 1) := by decide +kernel
theorem dX5_loadOut_5 : decode cX5_loadOut 5 = .ok (.aload_n 0, 1) := by decide +kernel
theorem dX5_loadOut_6 : decode cX5_loadOut 6 = .ok (.getfield 44, 3) := by decide +kernel
theorem dX5_loadOut_9 : decode cX5_loadOut 9 = .ok (.if_icmp .ge 59, 3) := by decide +kernel
theorem dX5_loadOut_12 : decode cX5_loadOut 12 = .ok (.iconst 0, 1) := by decide +kernel
theorem dX5_loadOut_13 : decode cX5_loadOut 13 = .ok (.istore 4, 2) := by decide +kernel
theorem dX5_loadOut_15 : decode cX5_loadOut 15 = .ok (.iload 4, 2) := by decide +kernel
theorem dX5_loadOut_17 : decode cX5_loadOut 17 = .ok (.aload_n 0, 1) := by decide +kernel
theorem dX5_loadOut_18 : decode cX5_loadOut 18 = .ok (.getfield 44, 3) := by decide +kernel
theorem dX5_loadOut_21 : decode cX5_loadOut 21 = .ok (.if_icmp .ge 41, 3) := by decide +kernel
theorem dX5_loadOut_24 : decode cX5_loadOut 24 = .ok (.iload_n 1, 1) := by decide +kernel
theorem dX5_loadOut_25 : decode cX5_loadOut 25 = .ok (.iload_n 3, 1) := by decide +kernel
theorem dX5_loadOut_26 : decode cX5_loadOut 26 = .ok (.invokestatic 88, 3) := by decide +kernel
theorem dX5_loadOut_29 : decode cX5_loadOut 29 = .ok (.ifCond .eq 27, 3) := by decide +kernel
theorem dX5_loadOut_32 : decode cX5_loadOut 32 = .ok (.iload_n 1, 1) := by decide +kernel
theorem dX5_loadOut_33 : decode cX5_loadOut 33 = .ok (.iload 4, 2) := by decide +kernel
theorem dX5_loadOut_35 : decode cX5_loadOut 35 = .ok (.invokestatic 88, 3) := by decide +kernel
theorem dX5_loadOut_38 : decode cX5_loadOut 38 = .ok (.ifCond .ne 18, 3) := by decide +kernel
theorem dX5_loadOut_41 : decode cX5_loadOut 41 = .ok (.iload_n 2, 1) := by decide +kernel
theorem dX5_loadOut_42 : decode cX5_loadOut 42 = .ok (.aload_n 0, 1) := by decide +kernel
theorem dX5_loadOut_43 : decode cX5_loadOut 43 = .ok (.getfield 9, 3) := by decide +kernel
theorem dX5_loadOut_46 : decode cX5_loadOut 46 = .ok (.iload_n 3, 1) := by decide +kernel
theorem dX5_loadOut_47 : decode cX5_loadOut 47 = .ok (.bipush 6, 2) := by decide +kernel
theorem dX5_loadOut_49 : decode cX5_loadOut 49 = .ok (.imul, 1) := by decide +kernel
theorem dX5_loadOut_50 : decode cX5_loadOut 50 = .ok (.iload 4, 2) := by decide +kernel
theorem dX5_loadOut_52 : decode cX5_loadOut 52 = .ok (.iadd, 1) := by decide +kernel
theorem dX5_loadOut_53 : decode cX5_loadOut 53 = .ok (.iaload, 1) := by decide +kernel
theorem dX5_loadOut_54 : decode cX5_loadOut 54 = .ok (.iadd, 1) := by decide +kernel
theorem dX5_loadOut_55 : decode cX5_loadOut 55 = .ok (.istore_n 2, 1) := by decide +kernel
theorem dX5_loadOut_56 : decode cX5_loadOut 56 = .ok (.iinc 4 1, 3) := by decide +kernel
theorem dX5_loadOut_59 : decode cX5_loadOut 59 = .ok (.goto (-44), 3) := by decide +kernel
theorem dX5_loadOut_62 : decode cX5_loadOut 62 = .ok (.iinc 3 1, 3) := by decide +kernel
theorem dX5_loadOut_65 : decode cX5_loadOut 65 = .ok (.goto (-61), 3) := by decide +kernel
theorem dX5_loadOut_68 : decode cX5_loadOut 68 = .ok (.iload_n 2, 1) := by decide +kernel
theorem dX5_loadOut_69 : decode cX5_loadOut 69 = .ok (.ireturn, 1) := by decide +kernel
theorem dX5_worthMet_0 : decode cX5_worthMet 0 = .ok (.iconst 0, 1) := by decide +kernel
theorem dX5_worthMet_1 : decode cX5_worthMet 1 = .ok (.istore_n 2, 1) := by decide +kernel
theorem dX5_worthMet_2 : decode cX5_worthMet 2 = .ok (.iconst 0, 1) := by decide +kernel
theorem dX5_worthMet_3 : decode cX5_worthMet 3 = .ok (.istore_n 3, 1) := by decide +kernel
theorem dX5_worthMet_4 : decode cX5_worthMet 4 = .ok (.iload_n 3, 1) := by decide +kernel
theorem dX5_worthMet_5 : decode cX5_worthMet 5 = .ok (.bipush 8, 2) := by decide +kernel
theorem dX5_worthMet_7 : decode cX5_worthMet 7 = .ok (.if_icmp .ge 29, 3) := by decide +kernel
theorem dX5_worthMet_10 : decode cX5_worthMet 10 = .ok (.aload_n 0, 1) := by decide +kernel
theorem dX5_worthMet_11 : decode cX5_worthMet 11 = .ok (.getfield 18, 3) := by decide +kernel
theorem dX5_worthMet_14 : decode cX5_worthMet 14 = .ok (.iload_n 3, 1) := by decide +kernel
theorem dX5_worthMet_15 : decode cX5_worthMet 15 = .ok (.iaload, 1) := by decide +kernel
theorem dX5_worthMet_16 : decode cX5_worthMet 16 = .ok (.iload_n 1, 1) := by decide +kernel
theorem dX5_worthMet_17 : decode cX5_worthMet 17 = .ok (.iand, 1) := by decide +kernel
theorem dX5_worthMet_18 : decode cX5_worthMet 18 = .ok (.ifCond .eq 12, 3) := by decide +kernel
theorem dX5_worthMet_21 : decode cX5_worthMet 21 = .ok (.iload_n 2, 1) := by decide +kernel
theorem dX5_worthMet_22 : decode cX5_worthMet 22 = .ok (.aload_n 0, 1) := by decide +kernel
theorem dX5_worthMet_23 : decode cX5_worthMet 23 = .ok (.getfield 15, 3) := by decide +kernel
theorem dX5_worthMet_26 : decode cX5_worthMet 26 = .ok (.iload_n 3, 1) := by decide +kernel
theorem dX5_worthMet_27 : decode cX5_worthMet 27 = .ok (.iaload, 1) := by decide +kernel
theorem dX5_worthMet_28 : decode cX5_worthMet 28 = .ok (.iadd, 1) := by decide +kernel
theorem dX5_worthMet_29 : decode cX5_worthMet 29 = .ok (.istore_n 2, 1) := by decide +kernel
theorem dX5_worthMet_30 : decode cX5_worthMet 30 = .ok (.iinc 3 1, 3) := by decide +kernel
theorem dX5_worthMet_33 : decode cX5_worthMet 33 = .ok (.goto (-29), 3) := by decide +kernel
theorem dX5_worthMet_36 : decode cX5_worthMet 36 = .ok (.iload_n 2, 1) := by decide +kernel
theorem dX5_worthMet_37 : decode cX5_worthMet 37 = .ok (.ireturn, 1) := by decide +kernel
theorem dX5_cappedSize_0 : decode cX5_cappedSize 0 = .ok (.aload_n 0, 1) := by decide +kernel
theorem dX5_cappedSize_1 : decode cX5_cappedSize 1 = .ok (.getfield 36, 3) := by decide +kernel
theorem dX5_cappedSize_4 : decode cX5_cappedSize 4 = .ok (.iconst 0, 1) := by decide +kernel
theorem dX5_cappedSize_5 : decode cX5_cappedSize 5 = .ok (.invokestatic 48, 3) := by decide +kernel
theorem dX5_cappedSize_8 : decode cX5_cappedSize 8 = .ok (.iconst 0, 1) := by decide +kernel
theorem dX5_cappedSize_9 : decode cX5_cappedSize 9 = .ok (.istore_n 2, 1) := by decide +kernel
theorem dX5_cappedSize_10 : decode cX5_cappedSize 10 = .ok (.iload_n 2, 1) := by decide +kernel
theorem dX5_cappedSize_11 : decode cX5_cappedSize 11 = .ok (.aload_n 0, 1) := by decide +kernel
theorem dX5_cappedSize_12 : decode cX5_cappedSize 12 = .ok (.getfield 44, 3) := by decide +kernel
theorem dX5_cappedSize_15 : decode cX5_cappedSize 15 = .ok (.if_icmp .ge 32, 3) := by decide +kernel
theorem dX5_cappedSize_18 : decode cX5_cappedSize 18 = .ok (.iload_n 1, 1) := by decide +kernel
theorem dX5_cappedSize_19 : decode cX5_cappedSize 19 = .ok (.iload_n 2, 1) := by decide +kernel
theorem dX5_cappedSize_20 : decode cX5_cappedSize 20 = .ok (.invokestatic 88, 3) := by decide +kernel
theorem dX5_cappedSize_23 : decode cX5_cappedSize 23 = .ok (.ifCond .eq 18, 3) := by decide +kernel
theorem dX5_cappedSize_26 : decode cX5_cappedSize 26 = .ok (.aload_n 0, 1) := by decide +kernel
theorem dX5_cappedSize_27 : decode cX5_cappedSize 27 = .ok (.getfield 36, 3) := by decide +kernel
theorem dX5_cappedSize_30 : decode cX5_cappedSize 30 = .ok (.aload_n 0, 1) := by decide +kernel
theorem dX5_cappedSize_31 : decode cX5_cappedSize 31 = .ok (.getfield 21, 3) := by decide +kernel
theorem dX5_cappedSize_34 : decode cX5_cappedSize 34 = .ok (.iload_n 2, 1) := by decide +kernel
theorem dX5_cappedSize_35 : decode cX5_cappedSize 35 = .ok (.iaload, 1) := by decide +kernel
theorem dX5_cappedSize_36 : decode cX5_cappedSize 36 = .ok (.dup2, 1) := by decide +kernel
theorem dX5_cappedSize_37 : decode cX5_cappedSize 37 = .ok (.iaload, 1) := by decide +kernel
theorem dX5_cappedSize_38 : decode cX5_cappedSize 38 = .ok (.iconst 1, 1) := by decide +kernel
theorem dX5_cappedSize_39 : decode cX5_cappedSize 39 = .ok (.iadd, 1) := by decide +kernel
theorem dX5_cappedSize_40 : decode cX5_cappedSize 40 = .ok (.iastore, 1) := by decide +kernel
theorem dX5_cappedSize_41 : decode cX5_cappedSize 41 = .ok (.iinc 2 1, 3) := by decide +kernel
theorem dX5_cappedSize_44 : decode cX5_cappedSize 44 = .ok (.goto (-34), 3) := by decide +kernel
theorem dX5_cappedSize_47 : decode cX5_cappedSize 47 = .ok (.iconst 0, 1) := by decide +kernel
theorem dX5_cappedSize_48 : decode cX5_cappedSize 48 = .ok (.istore_n 2, 1) := by decide +kernel
theorem dX5_cappedSize_49 : decode cX5_cappedSize 49 = .ok (.iconst 0, 1) := by decide +kernel
theorem dX5_cappedSize_50 : decode cX5_cappedSize 50 = .ok (.istore_n 3, 1) := by decide +kernel
theorem dX5_cappedSize_51 : decode cX5_cappedSize 51 = .ok (.iload_n 3, 1) := by decide +kernel
theorem dX5_cappedSize_52 : decode cX5_cappedSize 52 = .ok (.bipush 6, 2) := by decide +kernel
theorem dX5_cappedSize_54 : decode cX5_cappedSize 54 = .ok (.if_icmp .ge 27, 3) := by decide +kernel
theorem dX5_cappedSize_57 : decode cX5_cappedSize 57 = .ok (.iload_n 2, 1) := by decide +kernel
theorem dX5_cappedSize_58 : decode cX5_cappedSize 58 = .ok (.aload_n 0, 1) := by decide +kernel
theorem dX5_cappedSize_59 : decode cX5_cappedSize 59 = .ok (.getfield 36, 3) := by decide +kernel
theorem dX5_cappedSize_62 : decode cX5_cappedSize 62 = .ok (.iload_n 3, 1) := by decide +kernel
theorem dX5_cappedSize_63 : decode cX5_cappedSize 63 = .ok (.iaload, 1) := by decide +kernel
theorem dX5_cappedSize_64 : decode cX5_cappedSize 64 = .ok (.aload_n 0, 1) := by decide +kernel
theorem dX5_cappedSize_65 : decode cX5_cappedSize 65 = .ok (.getfield 24, 3) := by decide +kernel
theorem dX5_cappedSize_68 : decode cX5_cappedSize 68 = .ok (.iload_n 3, 1) := by decide +kernel
theorem dX5_cappedSize_69 : decode cX5_cappedSize 69 = .ok (.iaload, 1) := by decide +kernel
theorem dX5_cappedSize_70 : decode cX5_cappedSize 70 = .ok (.invokestatic 92, 3) := by decide +kernel
theorem dX5_cappedSize_73 : decode cX5_cappedSize 73 = .ok (.iadd, 1) := by decide +kernel
theorem dX5_cappedSize_74 : decode cX5_cappedSize 74 = .ok (.istore_n 2, 1) := by decide +kernel
theorem dX5_cappedSize_75 : decode cX5_cappedSize 75 = .ok (.iinc 3 1, 3) := by decide +kernel
theorem dX5_cappedSize_78 : decode cX5_cappedSize 78 = .ok (.goto (-27), 3) := by decide +kernel
theorem dX5_cappedSize_81 : decode cX5_cappedSize 81 = .ok (.iload_n 2, 1) := by decide +kernel
theorem dX5_cappedSize_82 : decode cX5_cappedSize 82 = .ok (.ireturn, 1) := by decide +kernel
theorem dX5_totalWeight_0 : decode cX5_totalWeight 0 = .ok (.iconst 0, 1) := by decide +kernel
theorem dX5_totalWeight_1 : decode cX5_totalWeight 1 = .ok (.istore_n 2, 1) := by decide +kernel
theorem dX5_totalWeight_2 : decode cX5_totalWeight 2 = .ok (.iconst 0, 1) := by decide +kernel
theorem dX5_totalWeight_3 : decode cX5_totalWeight 3 = .ok (.istore_n 3, 1) := by decide +kernel
theorem dX5_totalWeight_4 : decode cX5_totalWeight 4 = .ok (.iload_n 3, 1) := by decide +kernel
theorem dX5_totalWeight_5 : decode cX5_totalWeight 5 = .ok (.aload_n 0, 1) := by decide +kernel
theorem dX5_totalWeight_6 : decode cX5_totalWeight 6 = .ok (.getfield 44, 3) := by decide +kernel
theorem dX5_totalWeight_9 : decode cX5_totalWeight 9 = .ok (.if_icmp .ge 26, 3) := by decide +kernel
theorem dX5_totalWeight_12 : decode cX5_totalWeight 12 = .ok (.iload_n 1, 1) := by decide +kernel
theorem dX5_totalWeight_13 : decode cX5_totalWeight 13 = .ok (.iload_n 3, 1) := by decide +kernel
theorem dX5_totalWeight_14 : decode cX5_totalWeight 14 = .ok (.invokestatic 88, 3) := by decide +kernel
theorem dX5_totalWeight_17 : decode cX5_totalWeight 17 = .ok (.ifCond .eq 12, 3) := by decide +kernel
theorem dX5_totalWeight_20 : decode cX5_totalWeight 20 = .ok (.iload_n 2, 1) := by decide +kernel
theorem dX5_totalWeight_21 : decode cX5_totalWeight 21 = .ok (.aload_n 0, 1) := by decide +kernel
theorem dX5_totalWeight_22 : decode cX5_totalWeight 22 = .ok (.getfield 27, 3) := by decide +kernel
theorem dX5_totalWeight_25 : decode cX5_totalWeight 25 = .ok (.iload_n 3, 1) := by decide +kernel
theorem dX5_totalWeight_26 : decode cX5_totalWeight 26 = .ok (.iaload, 1) := by decide +kernel
theorem dX5_totalWeight_27 : decode cX5_totalWeight 27 = .ok (.iadd, 1) := by decide +kernel
theorem dX5_totalWeight_28 : decode cX5_totalWeight 28 = .ok (.istore_n 2, 1) := by decide +kernel
theorem dX5_totalWeight_29 : decode cX5_totalWeight 29 = .ok (.iinc 3 1, 3) := by decide +kernel
theorem dX5_totalWeight_32 : decode cX5_totalWeight 32 = .ok (.goto (-28), 3) := by decide +kernel
theorem dX5_totalWeight_35 : decode cX5_totalWeight 35 = .ok (.iload_n 2, 1) := by decide +kernel
theorem dX5_totalWeight_36 : decode cX5_totalWeight 36 = .ok (.ireturn, 1) := by decide +kernel
theorem dX6_init_0 : decode cX6_init 0 = .ok (.aload_n 0, 1) := by decide +kernel
theorem dX6_init_1 : decode cX6_init 1 = .ok (.invokespecial 3, 3) := by decide +kernel
theorem dX6_init_4 : decode cX6_init 4 = .ok (.aload_n 0, 1) := by decide +kernel
theorem dX6_init_5 : decode cX6_init 5 = .ok (.new 9, 3) := by decide +kernel
theorem dX6_init_8 : decode cX6_init 8 = .ok (.dup, 1) := by decide +kernel
theorem dX6_init_9 : decode cX6_init 9 = .ok (.invokespecial 11, 3) := by decide +kernel
theorem dX6_init_12 : decode cX6_init 12 = .ok (.putfield 12, 3) := by decide +kernel
theorem dX6_init_15 : decode cX6_init 15 = .ok (.aload_n 0, 1) := by decide +kernel
theorem dX6_init_16 : decode cX6_init 16 = .ok (.new 9, 3) := by decide +kernel
theorem dX6_init_19 : decode cX6_init 19 = .ok (.dup, 1) := by decide +kernel
theorem dX6_init_20 : decode cX6_init 20 = .ok (.invokespecial 11, 3) := by decide +kernel
theorem dX6_init_23 : decode cX6_init 23 = .ok (.putfield 18, 3) := by decide +kernel
theorem dX6_init_26 : decode cX6_init 26 = .ok (.aload_n 0, 1) := by decide +kernel
theorem dX6_init_27 : decode cX6_init 27 = .ok (.iconst 0, 1) := by decide +kernel
theorem dX6_init_28 : decode cX6_init 28 = .ok (.putfield 21, 3) := by decide +kernel
theorem dX6_init_31 : decode cX6_init 31 = .ok (.aload_n 0, 1) := by decide +kernel
theorem dX6_init_32 : decode cX6_init 32 = .ok (.iconst 4, 1) := by decide +kernel
theorem dX6_init_33 : decode cX6_init 33 = .ok (.anewarray 25, 3) := by decide +kernel
theorem dX6_init_36 : decode cX6_init 36 = .ok (.putfield 27, 3) := by decide +kernel
theorem dX6_init_39 : decode cX6_init 39 = .ok (.iconst 0, 1) := by decide +kernel
theorem dX6_init_40 : decode cX6_init 40 = .ok (.istore_n 1, 1) := by decide +kernel
theorem dX6_init_41 : decode cX6_init 41 = .ok (.iload_n 1, 1) := by decide +kernel
theorem dX6_init_42 : decode cX6_init 42 = .ok (.iconst 4, 1) := by decide +kernel
theorem dX6_init_43 : decode cX6_init 43 = .ok (.if_icmp .ge 22, 3) := by decide +kernel
theorem dX6_init_46 : decode cX6_init 46 = .ok (.aload_n 0, 1) := by decide +kernel
theorem dX6_init_47 : decode cX6_init 47 = .ok (.getfield 27, 3) := by decide +kernel
theorem dX6_init_50 : decode cX6_init 50 = .ok (.iload_n 1, 1) := by decide +kernel
theorem dX6_init_51 : decode cX6_init 51 = .ok (.new 25, 3) := by decide +kernel
theorem dX6_init_54 : decode cX6_init 54 = .ok (.dup, 1) := by decide +kernel
theorem dX6_init_55 : decode cX6_init 55 = .ok (.invokespecial 31, 3) := by decide +kernel
theorem dX6_init_58 : decode cX6_init 58 = .ok (.aastore, 1) := by decide +kernel
theorem dX6_init_59 : decode cX6_init 59 = .ok (.iinc 1 1, 3) := by decide +kernel
theorem dX6_init_62 : decode cX6_init 62 = .ok (.goto (-21), 3) := by decide +kernel
theorem dX6_init_65 : decode cX6_init 65 = .ok (.aload_n 0, 1) := by decide +kernel
theorem dX6_init_66 : decode cX6_init 66 = .ok (.new 32, 3) := by decide +kernel
theorem dX6_init_69 : decode cX6_init 69 = .ok (.dup, 1) := by decide +kernel
theorem dX6_init_70 : decode cX6_init 70 = .ok (.invokespecial 34, 3) := by decide +kernel
theorem dX6_init_73 : decode cX6_init 73 = .ok (.putfield 35, 3) := by decide +kernel
theorem dX6_init_76 : decode cX6_init 76 = .ok (.aload_n 0, 1) := by decide +kernel
theorem dX6_init_77 : decode cX6_init 77 = .ok (.new 39, 3) := by decide +kernel
theorem dX6_init_80 : decode cX6_init 80 = .ok (.dup, 1) := by decide +kernel
theorem dX6_init_81 : decode cX6_init 81 = .ok (.invokespecial 41, 3) := by decide +kernel
theorem dX6_init_84 : decode cX6_init 84 = .ok (.putfield 42, 3) := by decide +kernel
theorem dX6_init_87 : decode cX6_init 87 = .ok (.aload_n 0, 1) := by decide +kernel
theorem dX6_init_88 : decode cX6_init 88 = .ok (.new 46, 3) := by decide +kernel
theorem dX6_init_91 : decode cX6_init 91 = .ok (.dup, 1) := by decide +kernel
theorem dX6_init_92 : decode cX6_init 92 = .ok (.invokespecial 48, 3) := by decide +kernel
theorem dX6_init_95 : decode cX6_init 95 = .ok (.putfield 49, 3) := by decide +kernel
theorem dX6_init_98 : decode cX6_init 98 = .ok (.aload_n 0, 1) := by decide +kernel
theorem dX6_init_99 : decode cX6_init 99 = .ok (.bipush 64, 2) := by decide +kernel
theorem dX6_init_101 : decode cX6_init 101 = .ok (.newarray .int, 2) := by decide +kernel
theorem dX6_init_103 : decode cX6_init 103 = .ok (.putfield 53, 3) := by decide +kernel
theorem dX6_init_106 : decode cX6_init 106 = .ok (.aload_n 0, 1) := by decide +kernel
theorem dX6_init_107 : decode cX6_init 107 = .ok (.bipush 64, 2) := by decide +kernel
theorem dX6_init_109 : decode cX6_init 109 = .ok (.newarray .int, 2) := by decide +kernel
theorem dX6_init_111 : decode cX6_init 111 = .ok (.putfield 57, 3) := by decide +kernel
theorem dX6_init_114 : decode cX6_init 114 = .ok (.aload_n 0, 1) := by decide +kernel
theorem dX6_init_115 : decode cX6_init 115 = .ok (.bipush 6, 2) := by decide +kernel
theorem dX6_init_117 : decode cX6_init 117 = .ok (.newarray .int, 2) := by decide +kernel
theorem dX6_init_119 : decode cX6_init 119 = .ok (.putfield 60, 3) := by decide +kernel
theorem dX6_init_122 : decode cX6_init 122 = .ok (.return_, 1) := by decide +kernel
theorem dX6_points_0 : decode cX6_points 0 = .ok (.iload_n 1, 1) := by decide +kernel
theorem dX6_points_1 : decode cX6_points 1 = .ok (.iconst 1, 1) := by decide +kernel
theorem dX6_points_2 : decode cX6_points 2 = .ok (.if_icmp .lt 9, 3) := by decide +kernel
theorem dX6_points_5 : decode cX6_points 5 = .ok (.iload_n 1, 1) := by decide +kernel
theorem dX6_points_6 : decode cX6_points 6 = .ok (.bipush 6, 2) := by decide +kernel
theorem dX6_points_8 : decode cX6_points 8 = .ok (.if_icmp .le 6, 3) := by decide +kernel
theorem dX6_points_11 : decode cX6_points 11 = .ok (.bipush (-2), 2) := by decide +kernel
theorem dX6_points_13 : decode cX6_points 13 = .ok (.ireturn, 1) := by decide +kernel
theorem dX6_points_14 : decode cX6_points 14 = .ok (.aload_n 0, 1) := by decide +kernel
theorem dX6_points_15 : decode cX6_points 15 = .ok (.getfield 12, 3) := by decide +kernel
theorem dX6_points_18 : decode cX6_points 18 = .ok (.getfield 63, 3) := by decide +kernel
theorem dX6_points_21 : decode cX6_points 21 = .ok (.istore_n 2, 1) := by decide +kernel
theorem dX6_points_22 : decode cX6_points 22 = .ok (.aload_n 0, 1) := by decide +kernel
theorem dX6_points_23 : decode cX6_points 23 = .ok (.getfield 12, 3) := by decide +kernel
theorem dX6_points_26 : decode cX6_points 26 = .ok (.iload_n 1, 1) := by decide +kernel
theorem dX6_points_27 : decode cX6_points 27 = .ok (.invokevirtual 67, 3) := by decide +kernel
theorem dX6_points_30 : decode cX6_points 30 = .ok (.iload_n 2, 1) := by decide +kernel
theorem dX6_points_31 : decode cX6_points 31 = .ok (.ireturn, 1) := by decide +kernel
theorem dX6_arc_0 : decode cX6_arc 0 = .ok (.aload_n 0, 1) := by decide +kernel
theorem dX6_arc_1 : decode cX6_arc 1 = .ok (.getfield 12, 3) := by decide +kernel
theorem dX6_arc_4 : decode cX6_arc 4 = .ok (.iload_n 1, 1) := by decide +kernel
theorem dX6_arc_5 : decode cX6_arc 5 = .ok (.invokevirtual 71, 3) := by decide +kernel
theorem dX6_arc_8 : decode cX6_arc 8 = .ok (.ifCond .eq 19, 3) := by decide +kernel
theorem dX6_arc_11 : decode cX6_arc 11 = .ok (.aload_n 0, 1) := by decide +kernel
theorem dX6_arc_12 : decode cX6_arc 12 = .ok (.getfield 12, 3) := by decide +kernel
theorem dX6_arc_15 : decode cX6_arc 15 = .ok (.iload_n 2, 1) := by decide +kernel
theorem dX6_arc_16 : decode cX6_arc 16 = .ok (.invokevirtual 71, 3) := by decide +kernel
theorem dX6_arc_19 : decode cX6_arc 19 = .ok (.ifCond .eq 8, 3) := by decide +kernel
theorem dX6_arc_22 : decode cX6_arc 22 = .ok (.iload_n 1, 1) := by decide +kernel
theorem dX6_arc_23 : decode cX6_arc 23 = .ok (.iload_n 2, 1) := by decide +kernel
theorem dX6_arc_24 : decode cX6_arc 24 = .ok (.if_icmp .ne 5, 3) := by decide +kernel
theorem dX6_arc_27 : decode cX6_arc 27 = .ok (.iconst (-1), 1) := by decide +kernel
theorem dX6_arc_28 : decode cX6_arc 28 = .ok (.ireturn, 1) := by decide +kernel
theorem dX6_arc_29 : decode cX6_arc 29 = .ok (.iload_n 3, 1) := by decide +kernel
theorem dX6_arc_30 : decode cX6_arc 30 = .ok (.ifCond .lt 9, 3) := by decide +kernel
theorem dX6_arc_33 : decode cX6_arc 33 = .ok (.iload_n 3, 1) := by decide +kernel
theorem dX6_arc_34 : decode cX6_arc 34 = .ok (.bipush 99, 2) := by decide +kernel
theorem dX6_arc_36 : decode cX6_arc 36 = .ok (.if_icmp .le 6, 3) := by decide +kernel
theorem dX6_arc_39 : decode cX6_arc 39 = .ok (.bipush (-2), 2) := by decide +kernel
theorem dX6_arc_41 : decode cX6_arc 41 = .ok (.ireturn, 1) := by decide +kernel
theorem dX6_arc_42 : decode cX6_arc 42 = .ok (.iload_n 1, 1) := by decide +kernel
theorem dX6_arc_43 : decode cX6_arc 43 = .ok (.bipush 6, 2) := by decide +kernel
theorem dX6_arc_45 : decode cX6_arc 45 = .ok (.imul, 1) := by decide +kernel
theorem dX6_arc_46 : decode cX6_arc 46 = .ok (.iload_n 2, 1) := by decide +kernel
theorem dX6_arc_47 : decode cX6_arc 47 = .ok (.iadd, 1) := by decide +kernel
theorem dX6_arc_48 : decode cX6_arc 48 = .ok (.istore 4, 2) := by decide +kernel
theorem dX6_arc_50 : decode cX6_arc 50 = .ok (.aload_n 0, 1) := by decide +kernel
theorem dX6_arc_51 : decode cX6_arc 51 = .ok (.getfield 12, 3) := by decide +kernel
theorem dX6_arc_54 : decode cX6_arc 54 = .ok (.getfield 75, 3) := by decide +kernel
theorem dX6_arc_57 : decode cX6_arc 57 = .ok (.iload 4, 2) := by decide +kernel
theorem dX6_arc_59 : decode cX6_arc 59 = .ok (.iaload, 1) := by decide +kernel
theorem dX6_arc_60 : decode cX6_arc 60 = .ok (.istore 5, 2) := by decide +kernel
theorem dX6_arc_62 : decode cX6_arc 62 = .ok (.aload_n 0, 1) := by decide +kernel
theorem dX6_arc_63 : decode cX6_arc 63 = .ok (.getfield 12, 3) := by decide +kernel
theorem dX6_arc_66 : decode cX6_arc 66 = .ok (.getfield 75, 3) := by decide +kernel
theorem dX6_arc_69 : decode cX6_arc 69 = .ok (.iload 4, 2) := by decide +kernel
theorem dX6_arc_71 : decode cX6_arc 71 = .ok (.iload_n 3, 1) := by decide +kernel
theorem dX6_arc_72 : decode cX6_arc 72 = .ok (.iastore, 1) := by decide +kernel
theorem dX6_arc_73 : decode cX6_arc 73 = .ok (.iload 5, 2) := by decide +kernel
theorem dX6_arc_75 : decode cX6_arc 75 = .ok (.ireturn, 1) := by decide +kernel
theorem dX6_item_0 : decode cX6_item 0 = .ok (.iload_n 1, 1) := by decide +kernel
theorem dX6_item_1 : decode cX6_item 1 = .ok (.ifCond .lt 9, 3) := by decide +kernel
theorem dX6_item_4 : decode cX6_item 4 = .ok (.iload_n 1, 1) := by decide +kernel
theorem dX6_item_5 : decode cX6_item 5 = .ok (.bipush 8, 2) := by decide +kernel
theorem dX6_item_7 : decode cX6_item 7 = .ok (.if_icmp .lt 5, 3) := by decide +kernel
theorem dX6_item_10 : decode cX6_item 10 = .ok (.iconst (-1), 1) := by decide +kernel
theorem dX6_item_11 : decode cX6_item 11 = .ok (.ireturn, 1) := by decide +kernel
theorem dX6_item_12 : decode cX6_item 12 = .ok (.iload_n 2, 1) := by decide +kernel
theorem dX6_item_13 : decode cX6_item 13 = .ok (.ifCond .lt 20, 3) := by decide +kernel
theorem dX6_item_16 : decode cX6_item 16 = .ok (.iload_n 2, 1) := by decide +kernel
theorem dX6_item_17 : decode cX6_item 17 = .ok (.bipush 99, 2) := by decide +kernel
theorem dX6_item_19 : decode cX6_item 19 = .ok (.if_icmp .gt 14, 3) := by decide +kernel
theorem dX6_item_22 : decode cX6_item 22 = .ok (.aload_n 0, 1) := by decide +kernel
theorem dX6_item_23 : decode cX6_item 23 = .ok (.getfield 12, 3) := by decide +kernel
theorem dX6_item_26 : decode cX6_item 26 = .ok (.iload_n 3, 1) := by decide +kernel
theorem dX6_item_27 : decode cX6_item 27 = .ok (.invokevirtual 78, 3) := by decide +kernel
theorem dX6_item_30 : decode cX6_item 30 = .ok (.ifCond .ne 6, 3) := by decide +kernel
theorem dX6_item_33 : decode cX6_item 33 = .ok (.bipush (-2), 2) := by decide +kernel
theorem dX6_item_35 : decode cX6_item 35 = .ok (.ireturn, 1) := by decide +kernel
theorem dX6_item_36 : decode cX6_item 36 = .ok (.aload_n 0, 1) := by decide +kernel
theorem dX6_item_37 : decode cX6_item 37 = .ok (.getfield 12, 3) := by decide +kernel
theorem dX6_item_40 : decode cX6_item 40 = .ok (.getfield 81, 3) := by decide +kernel
theorem dX6_item_43 : decode cX6_item 43 = .ok (.iload_n 1, 1) := by decide +kernel
theorem dX6_item_44 : decode cX6_item 44 = .ok (.iaload, 1) := by decide +kernel
theorem dX6_item_45 : decode cX6_item 45 = .ok (.istore 4, 2) := by decide +kernel
theorem dX6_item_47 : decode cX6_item 47 = .ok (.aload_n 0, 1) := by decide +kernel
theorem dX6_item_48 : decode cX6_item 48 = .ok (.getfield 12, 3) := by decide +kernel
theorem dX6_item_51 : decode cX6_item 51 = .ok (.getfield 81, 3) := by decide +kernel
theorem dX6_item_54 : decode cX6_item 54 = .ok (.iload_n 1, 1) := by decide +kernel
theorem dX6_item_55 : decode cX6_item 55 = .ok (.iload_n 2, 1) := by decide +kernel
theorem dX6_item_56 : decode cX6_item 56 = .ok (.iastore, 1) := by decide +kernel
theorem dX6_item_57 : decode cX6_item 57 = .ok (.aload_n 0, 1) := by decide +kernel
theorem dX6_item_58 : decode cX6_item 58 = .ok (.getfield 12, 3) := by decide +kernel
theorem dX6_item_61 : decode cX6_item 61 = .ok (.getfield 84, 3) := by decide +kernel
theorem dX6_item_64 : decode cX6_item 64 = .ok (.iload_n 1, 1) := by decide +kernel
theorem dX6_item_65 : decode cX6_item 65 = .ok (.iload_n 3, 1) := by decide +kernel
theorem dX6_item_66 : decode cX6_item 66 = .ok (.iastore, 1) := by decide +kernel
theorem dX6_item_67 : decode cX6_item 67 = .ok (.iload 4, 2) := by decide +kernel
theorem dX6_item_69 : decode cX6_item 69 = .ok (.ireturn, 1) := by decide +kernel
theorem dX6_block_0 : decode cX6_block 0 = .ok (.aload_n 0, 1) := by decide +kernel
theorem dX6_block_1 : decode cX6_block 1 = .ok (.getfield 12, 3) := by decide +kernel
theorem dX6_block_4 : decode cX6_block 4 = .ok (.iload_n 1, 1) := by decide +kernel
theorem dX6_block_5 : decode cX6_block 5 = .ok (.invokevirtual 71, 3) := by decide +kernel
theorem dX6_block_8 : decode cX6_block 8 = .ok (.ifCond .eq 10, 3) := by decide +kernel
theorem dX6_block_11 : decode cX6_block 11 = .ok (.iload_n 2, 1) := by decide +kernel
theorem dX6_block_12 : decode cX6_block 12 = .ok (.invokestatic 87, 3) := by decide +kernel
theorem dX6_block_15 : decode cX6_block 15 = .ok (.ifCond .ne 5, 3) := by decide +kernel
theorem dX6_block_18 : decode cX6_block 18 = .ok (.iconst (-1), 1) := by decide +kernel
theorem dX6_block_19 : decode cX6_block 19 = .ok (.ireturn, 1) := by decide +kernel
theorem dX6_block_20 : decode cX6_block 20 = .ok (.aload_n 0, 1) := by decide +kernel
theorem dX6_block_21 : decode cX6_block 21 = .ok (.getfield 12, 3) := by decide +kernel
theorem dX6_block_24 : decode cX6_block 24 = .ok (.getfield 90, 3) := by decide +kernel
theorem dX6_block_27 : decode cX6_block 27 = .ok (.iload_n 1, 1) := by decide +kernel
theorem dX6_block_28 : decode cX6_block 28 = .ok (.iaload, 1) := by decide +kernel
theorem dX6_block_29 : decode cX6_block 29 = .ok (.istore_n 3, 1) := by decide +kernel
theorem dX6_block_30 : decode cX6_block 30 = .ok (.aload_n 0, 1) := by decide +kernel
theorem dX6_block_31 : decode cX6_block 31 = .ok (.getfield 12, 3) := by decide +kernel
theorem dX6_block_34 : decode cX6_block 34 = .ok (.getfield 90, 3) := by decide +kernel
theorem dX6_block_37 : decode cX6_block 37 = .ok (.iload_n 1, 1) := by decide +kernel
theorem dX6_block_38 : decode cX6_block 38 = .ok (.iload_n 2, 1) := by decide +kernel
theorem dX6_block_39 : decode cX6_block 39 = .ok (.iastore, 1) := by decide +kernel
theorem dX6_block_40 : decode cX6_block 40 = .ok (.iload_n 3, 1) := by decide +kernel
theorem dX6_block_41 : decode cX6_block 41 = .ok (.ireturn, 1) := by decide +kernel
theorem dX6_cap_0 : decode cX6_cap 0 = .ok (.iload_n 1, 1) := by decide +kernel
theorem dX6_cap_1 : decode cX6_cap 1 = .ok (.invokestatic 87, 3) := by decide +kernel
theorem dX6_cap_4 : decode cX6_cap 4 = .ok (.ifCond .ne 5, 3) := by decide +kernel
theorem dX6_cap_7 : decode cX6_cap 7 = .ok (.iconst (-1), 1) := by decide +kernel
theorem dX6_cap_8 : decode cX6_cap 8 = .ok (.ireturn, 1) := by decide +kernel
theorem dX6_cap_9 : decode cX6_cap 9 = .ok (.iload_n 2, 1) := by decide +kernel
theorem dX6_cap_10 : decode cX6_cap 10 = .ok (.ifCond .lt 9, 3) := by decide +kernel
theorem dX6_cap_13 : decode cX6_cap 13 = .ok (.iload_n 2, 1) := by decide +kernel
theorem dX6_cap_14 : decode cX6_cap 14 = .ok (.bipush 6, 2) := by decide +kernel
theorem dX6_cap_16 : decode cX6_cap 16 = .ok (.if_icmp .le 6, 3) := by decide +kernel
theorem dX6_cap_19 : decode cX6_cap 19 = .ok (.bipush (-2), 2) := by decide +kernel
theorem dX6_cap_21 : decode cX6_cap 21 = .ok (.ireturn, 1) := by decide +kernel
theorem dX6_cap_22 : decode cX6_cap 22 = .ok (.aload_n 0, 1) := by decide +kernel
theorem dX6_cap_23 : decode cX6_cap 23 = .ok (.getfield 12, 3) := by decide +kernel
theorem dX6_cap_26 : decode cX6_cap 26 = .ok (.getfield 93, 3) := by decide +kernel
theorem dX6_cap_29 : decode cX6_cap 29 = .ok (.iload_n 1, 1) := by decide +kernel
theorem dX6_cap_30 : decode cX6_cap 30 = .ok (.iaload, 1) := by decide +kernel
theorem dX6_cap_31 : decode cX6_cap 31 = .ok (.istore_n 3, 1) := by decide +kernel
theorem dX6_cap_32 : decode cX6_cap 32 = .ok (.aload_n 0, 1) := by decide +kernel
theorem dX6_cap_33 : decode cX6_cap 33 = .ok (.getfield 12, 3) := by decide +kernel
theorem dX6_cap_36 : decode cX6_cap 36 = .ok (.getfield 93, 3) := by decide +kernel
theorem dX6_cap_39 : decode cX6_cap 39 = .ok (.iload_n 1, 1) := by decide +kernel
theorem dX6_cap_40 : decode cX6_cap 40 = .ok (.iload_n 2, 1) := by decide +kernel
theorem dX6_cap_41 : decode cX6_cap 41 = .ok (.iastore, 1) := by decide +kernel
theorem dX6_cap_42 : decode cX6_cap 42 = .ok (.iload_n 3, 1) := by decide +kernel
theorem dX6_cap_43 : decode cX6_cap 43 = .ok (.ireturn, 1) := by decide +kernel
theorem dX6_weight_0 : decode cX6_weight 0 = .ok (.aload_n 0, 1) := by decide +kernel
theorem dX6_weight_1 : decode cX6_weight 1 = .ok (.getfield 12, 3) := by decide +kernel
theorem dX6_weight_4 : decode cX6_weight 4 = .ok (.iload_n 1, 1) := by decide +kernel
theorem dX6_weight_5 : decode cX6_weight 5 = .ok (.invokevirtual 71, 3) := by decide +kernel
theorem dX6_weight_8 : decode cX6_weight 8 = .ok (.ifCond .ne 6, 3) := by decide +kernel
theorem dX6_weight_11 : decode cX6_weight 11 = .ok (.ldc 96, 2) := by decide +kernel
theorem dX6_weight_13 : decode cX6_weight 13 = .ok (.ireturn, 1) := by decide +kernel
theorem dX6_weight_14 : decode cX6_weight 14 = .ok (.iload_n 2, 1) := by decide +kernel
theorem dX6_weight_15 : decode cX6_weight 15 = .ok (.bipush (-99), 2) := by decide +kernel
theorem dX6_weight_17 : decode cX6_weight 17 = .ok (.if_icmp .lt 9, 3) := by decide +kernel
theorem dX6_weight_20 : decode cX6_weight 20 = .ok (.iload_n 2, 1) := by decide +kernel
theorem dX6_weight_21 : decode cX6_weight 21 = .ok (.bipush 99, 2) := by decide +kernel
theorem dX6_weight_23 : decode cX6_weight 23 = .ok (.if_icmp .le 6, 3) := by decide +kernel
theorem dX6_weight_26 : decode cX6_weight 26 = .ok (.ldc 97, 2) := by decide +kernel
theorem dX6_weight_28 : decode cX6_weight 28 = .ok (.ireturn, 1) := by decide +kernel
theorem dX6_weight_29 : decode cX6_weight 29 = .ok (.aload_n 0, 1) := by decide +kernel
theorem dX6_weight_30 : decode cX6_weight 30 = .ok (.getfield 12, 3) := by decide +kernel
theorem dX6_weight_33 : decode cX6_weight 33 = .ok (.getfield 98, 3) := by decide +kernel
theorem dX6_weight_36 : decode cX6_weight 36 = .ok (.iload_n 1, 1) := by decide +kernel
theorem dX6_weight_37 : decode cX6_weight 37 = .ok (.iaload, 1) := by decide +kernel
theorem dX6_weight_38 : decode cX6_weight 38 = .ok (.istore_n 3, 1) := by decide +kernel
theorem dX6_weight_39 : decode cX6_weight 39 = .ok (.aload_n 0, 1) := by decide +kernel
theorem dX6_weight_40 : decode cX6_weight 40 = .ok (.getfield 12, 3) := by decide +kernel
theorem dX6_weight_43 : decode cX6_weight 43 = .ok (.getfield 98, 3) := by decide +kernel
theorem dX6_weight_46 : decode cX6_weight 46 = .ok (.iload_n 1, 1) := by decide +kernel
theorem dX6_weight_47 : decode cX6_weight 47 = .ok (.iload_n 2, 1) := by decide +kernel
theorem dX6_weight_48 : decode cX6_weight 48 = .ok (.iastore, 1) := by decide +kernel
theorem dX6_weight_49 : decode cX6_weight 49 = .ok (.iload_n 3, 1) := by decide +kernel
theorem dX6_weight_50 : decode cX6_weight 50 = .ok (.ireturn, 1) := by decide +kernel
theorem dX6_tell_0 : decode cX6_tell 0 = .ok (.iload_n 1, 1) := by decide +kernel
theorem dX6_tell_1 : decode cX6_tell 1 = .ok (.invokestatic 101, 3) := by decide +kernel
theorem dX6_tell_4 : decode cX6_tell 4 = .ok (.ifCond .ne 6, 3) := by decide +kernel
theorem dX6_tell_7 : decode cX6_tell 7 = .ok (.ldc 96, 2) := by decide +kernel
theorem dX6_tell_9 : decode cX6_tell 9 = .ok (.ireturn, 1) := by decide +kernel
theorem dX6_tell_10 : decode cX6_tell 10 = .ok (.aload_n 0, 1) := by decide +kernel
theorem dX6_tell_11 : decode cX6_tell 11 = .ok (.getfield 12, 3) := by decide +kernel
theorem dX6_tell_14 : decode cX6_tell 14 = .ok (.iload_n 2, 1) := by decide +kernel
theorem dX6_tell_15 : decode cX6_tell 15 = .ok (.invokevirtual 78, 3) := by decide +kernel
theorem dX6_tell_18 : decode cX6_tell 18 = .ok (.ifCond .eq 10, 3) := by decide +kernel
theorem dX6_tell_21 : decode cX6_tell 21 = .ok (.iload_n 3, 1) := by decide +kernel
theorem dX6_tell_22 : decode cX6_tell 22 = .ok (.invokestatic 104, 3) := by decide +kernel
theorem dX6_tell_25 : decode cX6_tell 25 = .ok (.ifCond .ne 6, 3) := by decide +kernel
theorem dX6_tell_28 : decode cX6_tell 28 = .ok (.ldc 97, 2) := by decide +kernel
theorem dX6_tell_30 : decode cX6_tell 30 = .ok (.ireturn, 1) := by decide +kernel
theorem dX6_tell_31 : decode cX6_tell 31 = .ok (.aload_n 0, 1) := by decide +kernel
theorem dX6_tell_32 : decode cX6_tell 32 = .ok (.getfield 12, 3) := by decide +kernel
theorem dX6_tell_35 : decode cX6_tell 35 = .ok (.getfield 107, 3) := by decide +kernel
theorem dX6_tell_38 : decode cX6_tell 38 = .ok (.iload_n 1, 1) := by decide +kernel
theorem dX6_tell_39 : decode cX6_tell 39 = .ok (.aaload, 1) := by decide +kernel
theorem dX6_tell_40 : decode cX6_tell 40 = .ok (.astore 4, 2) := by decide +kernel
theorem dX6_tell_42 : decode cX6_tell 42 = .ok (.aload 4, 2) := by decide +kernel
theorem dX6_tell_44 : decode cX6_tell 44 = .ok (.getfield 111, 3) := by decide +kernel
theorem dX6_tell_47 : decode cX6_tell 47 = .ok (.iload_n 2, 1) := by decide +kernel
theorem dX6_tell_48 : decode cX6_tell 48 = .ok (.iaload, 1) := by decide +kernel
theorem dX6_tell_49 : decode cX6_tell 49 = .ok (.istore 5, 2) := by decide +kernel
theorem dX6_tell_51 : decode cX6_tell 51 = .ok (.aload 4, 2) := by decide +kernel
theorem dX6_tell_53 : decode cX6_tell 53 = .ok (.getfield 111, 3) := by decide +kernel
theorem dX6_tell_56 : decode cX6_tell 56 = .ok (.iload_n 2, 1) := by decide +kernel
theorem dX6_tell_57 : decode cX6_tell 57 = .ok (.iload_n 3, 1) := by decide +kernel
theorem dX6_tell_58 : decode cX6_tell 58 = .ok (.iastore, 1) := by decide +kernel
theorem dX6_tell_59 : decode cX6_tell 59 = .ok (.aload 4, 2) := by decide +kernel
theorem dX6_tell_61 : decode cX6_tell 61 = .ok (.iconst 0, 1) := by decide +kernel
theorem dX6_tell_62 : decode cX6_tell 62 = .ok (.putfield 116, 3) := by decide +kernel
theorem dX6_tell_65 : decode cX6_tell 65 = .ok (.iload 5, 2) := by decide +kernel
theorem dX6_tell_67 : decode cX6_tell 67 = .ok (.ireturn, 1) := by decide +kernel
theorem dX6_cut_0 : decode cX6_cut 0 = .ok (.iload_n 1, 1) := by decide +kernel
theorem dX6_cut_1 : decode cX6_cut 1 = .ok (.invokestatic 101, 3) := by decide +kernel
theorem dX6_cut_4 : decode cX6_cut 4 = .ok (.ifCond .eq 22, 3) := by decide +kernel
theorem dX6_cut_7 : decode cX6_cut 7 = .ok (.aload_n 0, 1) := by decide +kernel
theorem dX6_cut_8 : decode cX6_cut 8 = .ok (.iload_n 1, 1) := by decide +kernel
theorem dX6_cut_9 : decode cX6_cut 9 = .ok (.iconst 1, 1) := by decide +kernel
theorem dX6_cut_10 : decode cX6_cut 10 = .ok (.aload_n 0, 1) := by decide +kernel
theorem dX6_cut_11 : decode cX6_cut 11 = .ok (.getfield 12, 3) := by decide +kernel
theorem dX6_cut_14 : decode cX6_cut 14 = .ok (.invokevirtual 119, 3) := by decide +kernel
theorem dX6_cut_17 : decode cX6_cut 17 = .ok (.bipush (-2), 2) := by decide +kernel
theorem dX6_cut_19 : decode cX6_cut 19 = .ok (.iand, 1) := by decide +kernel
theorem dX6_cut_20 : decode cX6_cut 20 = .ok (.invokevirtual 123, 3) := by decide +kernel
theorem dX6_cut_23 : decode cX6_cut 23 = .ok (.goto 4, 3) := by decide +kernel
theorem dX6_cut_26 : decode cX6_cut 26 = .ok (.iconst (-1), 1) := by decide +kernel
theorem dX6_cut_27 : decode cX6_cut 27 = .ok (.ireturn, 1) := by decide +kernel
theorem dX6_cover_0 : decode cX6_cover 0 = .ok (.iload_n 1, 1) := by decide +kernel
theorem dX6_cover_1 : decode cX6_cover 1 = .ok (.invokestatic 101, 3) := by decide +kernel
theorem dX6_cover_4 : decode cX6_cover 4 = .ok (.ifCond .eq 19, 3) := by decide +kernel
theorem dX6_cover_7 : decode cX6_cover 7 = .ok (.aload_n 0, 1) := by decide +kernel
theorem dX6_cover_8 : decode cX6_cover 8 = .ok (.iload_n 1, 1) := by decide +kernel
theorem dX6_cover_9 : decode cX6_cover 9 = .ok (.iconst 2, 1) := by decide +kernel
theorem dX6_cover_10 : decode cX6_cover 10 = .ok (.aload_n 0, 1) := by decide +kernel
theorem dX6_cover_11 : decode cX6_cover 11 = .ok (.getfield 12, 3) := by decide +kernel
theorem dX6_cover_14 : decode cX6_cover 14 = .ok (.invokevirtual 119, 3) := by decide +kernel
theorem dX6_cover_17 : decode cX6_cover 17 = .ok (.invokevirtual 123, 3) := by decide +kernel
theorem dX6_cover_20 : decode cX6_cover 20 = .ok (.goto 4, 3) := by decide +kernel
theorem dX6_cover_23 : decode cX6_cover 23 = .ok (.iconst (-1), 1) := by decide +kernel
theorem dX6_cover_24 : decode cX6_cover 24 = .ok (.ireturn, 1) := by decide +kernel
theorem dX6_capped_0 : decode cX6_capped 0 = .ok (.iload_n 1, 1) := by decide +kernel
theorem dX6_capped_1 : decode cX6_capped 1 = .ok (.invokestatic 101, 3) := by decide +kernel
theorem dX6_capped_4 : decode cX6_capped 4 = .ok (.ifCond .eq 19, 3) := by decide +kernel
theorem dX6_capped_7 : decode cX6_capped 7 = .ok (.aload_n 0, 1) := by decide +kernel
theorem dX6_capped_8 : decode cX6_capped 8 = .ok (.iload_n 1, 1) := by decide +kernel
theorem dX6_capped_9 : decode cX6_capped 9 = .ok (.iconst 3, 1) := by decide +kernel
theorem dX6_capped_10 : decode cX6_capped 10 = .ok (.aload_n 0, 1) := by decide +kernel
theorem dX6_capped_11 : decode cX6_capped 11 = .ok (.getfield 12, 3) := by decide +kernel
theorem dX6_capped_14 : decode cX6_capped 14 = .ok (.invokevirtual 119, 3) := by decide +kernel
theorem dX6_capped_17 : decode cX6_capped 17 = .ok (.invokevirtual 123, 3) := by decide +kernel
theorem dX6_capped_20 : decode cX6_capped 20 = .ok (.goto 4, 3) := by decide +kernel
theorem dX6_capped_23 : decode cX6_capped 23 = .ok (.iconst (-1), 1) := by decide +kernel
theorem dX6_capped_24 : decode cX6_capped 24 = .ok (.ireturn, 1) := by decide +kernel
theorem dX6_weighed_0 : decode cX6_weighed 0 = .ok (.iload_n 1, 1) := by decide +kernel
theorem dX6_weighed_1 : decode cX6_weighed 1 = .ok (.invokestatic 101, 3) := by decide +kernel
theorem dX6_weighed_4 : decode cX6_weighed 4 = .ok (.ifCond .eq 23, 3) := by decide +kernel
theorem dX6_weighed_7 : decode cX6_weighed 7 = .ok (.aload_n 0, 1) := by decide +kernel
theorem dX6_weighed_8 : decode cX6_weighed 8 = .ok (.iload_n 1, 1) := by decide +kernel
theorem dX6_weighed_9 : decode cX6_weighed 9 = .ok (.iconst 4, 1) := by decide +kernel
theorem dX6_weighed_10 : decode cX6_weighed 10 = .ok (.aload_n 0, 1) := by decide +kernel
theorem dX6_weighed_11 : decode cX6_weighed 11 = .ok (.getfield 12, 3) := by decide +kernel
theorem dX6_weighed_14 : decode cX6_weighed 14 = .ok (.invokevirtual 119, 3) := by decide +kernel
theorem dX6_weighed_17 : decode cX6_weighed 17 = .ok (.invokevirtual 123, 3) := by decide +kernel
theorem dX6_weighed_20 : decode cX6_weighed 20 = .ok (.sipush 1000, 3) := by decide +kernel
theorem dX6_weighed_23 : decode cX6_weighed 23 = .ok (.iadd, 1) := by decide +kernel
theorem dX6_weighed_24 : decode cX6_weighed 24 = .ok (.goto 4, 3) := by decide +kernel
theorem dX6_weighed_27 : decode cX6_weighed 27 = .ok (.iconst (-1), 1) := by decide +kernel
theorem dX6_weighed_28 : decode cX6_weighed 28 = .ok (.ireturn, 1) := by decide +kernel
theorem dX6_sum_0 : decode cX6_sum 0 = .ok (.iload_n 1, 1) := by decide +kernel
theorem dX6_sum_1 : decode cX6_sum 1 = .ok (.invokestatic 101, 3) := by decide +kernel
theorem dX6_sum_4 : decode cX6_sum 4 = .ok (.ifCond .eq 17, 3) := by decide +kernel
theorem dX6_sum_7 : decode cX6_sum 7 = .ok (.iload_n 2, 1) := by decide +kernel
theorem dX6_sum_8 : decode cX6_sum 8 = .ok (.invokestatic 101, 3) := by decide +kernel
theorem dX6_sum_11 : decode cX6_sum 11 = .ok (.ifCond .eq 10, 3) := by decide +kernel
theorem dX6_sum_14 : decode cX6_sum 14 = .ok (.iload_n 3, 1) := by decide +kernel
theorem dX6_sum_15 : decode cX6_sum 15 = .ok (.invokestatic 101, 3) := by decide +kernel
theorem dX6_sum_18 : decode cX6_sum 18 = .ok (.ifCond .ne 5, 3) := by decide +kernel
theorem dX6_sum_21 : decode cX6_sum 21 = .ok (.iconst (-1), 1) := by decide +kernel
theorem dX6_sum_22 : decode cX6_sum 22 = .ok (.ireturn, 1) := by decide +kernel
theorem dX6_sum_23 : decode cX6_sum 23 = .ok (.aload_n 0, 1) := by decide +kernel
theorem dX6_sum_24 : decode cX6_sum 24 = .ok (.getfield 12, 3) := by decide +kernel
theorem dX6_sum_27 : decode cX6_sum 27 = .ok (.getfield 107, 3) := by decide +kernel
theorem dX6_sum_30 : decode cX6_sum 30 = .ok (.iload_n 1, 1) := by decide +kernel
theorem dX6_sum_31 : decode cX6_sum 31 = .ok (.aaload, 1) := by decide +kernel
theorem dX6_sum_32 : decode cX6_sum 32 = .ok (.invokevirtual 127, 3) := by decide +kernel
theorem dX6_sum_35 : decode cX6_sum 35 = .ok (.ifCond .ne 18, 3) := by decide +kernel
theorem dX6_sum_38 : decode cX6_sum 38 = .ok (.aload_n 0, 1) := by decide +kernel
theorem dX6_sum_39 : decode cX6_sum 39 = .ok (.getfield 12, 3) := by decide +kernel
theorem dX6_sum_42 : decode cX6_sum 42 = .ok (.getfield 107, 3) := by decide +kernel
theorem dX6_sum_45 : decode cX6_sum 45 = .ok (.iload_n 2, 1) := by decide +kernel
theorem dX6_sum_46 : decode cX6_sum 46 = .ok (.aaload, 1) := by decide +kernel
theorem dX6_sum_47 : decode cX6_sum 47 = .ok (.invokevirtual 127, 3) := by decide +kernel
theorem dX6_sum_50 : decode cX6_sum 50 = .ok (.ifCond .eq 6, 3) := by decide +kernel
theorem dX6_sum_53 : decode cX6_sum 53 = .ok (.bipush (-11), 2) := by decide +kernel
theorem dX6_sum_55 : decode cX6_sum 55 = .ok (.ireturn, 1) := by decide +kernel
theorem dX6_sum_56 : decode cX6_sum 56 = .ok (.aload_n 0, 1) := by decide +kernel
theorem dX6_sum_57 : decode cX6_sum 57 = .ok (.getfield 12, 3) := by decide +kernel
theorem dX6_sum_60 : decode cX6_sum 60 = .ok (.getfield 107, 3) := by decide +kernel
theorem dX6_sum_63 : decode cX6_sum 63 = .ok (.iload_n 1, 1) := by decide +kernel
theorem dX6_sum_64 : decode cX6_sum 64 = .ok (.aaload, 1) := by decide +kernel
theorem dX6_sum_65 : decode cX6_sum 65 = .ok (.getfield 111, 3) := by decide +kernel
theorem dX6_sum_68 : decode cX6_sum 68 = .ok (.astore 4, 2) := by decide +kernel
theorem dX6_sum_70 : decode cX6_sum 70 = .ok (.aload_n 0, 1) := by decide +kernel
theorem dX6_sum_71 : decode cX6_sum 71 = .ok (.getfield 12, 3) := by decide +kernel
theorem dX6_sum_74 : decode cX6_sum 74 = .ok (.getfield 107, 3) := by decide +kernel
theorem dX6_sum_77 : decode cX6_sum 77 = .ok (.iload_n 2, 1) := by decide +kernel
theorem dX6_sum_78 : decode cX6_sum 78 = .ok (.aaload, 1) := by decide +kernel
theorem dX6_sum_79 : decode cX6_sum 79 = .ok (.getfield 111, 3) := by decide +kernel
theorem dX6_sum_82 : decode cX6_sum 82 = .ok (.astore 5, 2) := by decide +kernel
theorem dX6_sum_84 : decode cX6_sum 84 = .ok (.iconst 0, 1) := by decide +kernel
theorem dX6_sum_85 : decode cX6_sum 85 = .ok (.istore 6, 2) := by decide +kernel
theorem dX6_sum_87 : decode cX6_sum 87 = .ok (.iload 6, 2) := by decide +kernel
theorem dX6_sum_89 : decode cX6_sum 89 = .ok (.aload_n 0, 1) := by decide +kernel
theorem dX6_sum_90 : decode cX6_sum 90 = .ok (.getfield 12, 3) := by decide +kernel
theorem dX6_sum_93 : decode cX6_sum 93 = .ok (.invokevirtual 131, 3) := by decide +kernel
theorem dX6_sum_96 : decode cX6_sum 96 = .ok (.if_icmp .ge 27, 3) := by decide +kernel
theorem dX6_sum_99 : decode cX6_sum 99 = .ok (.aload_n 0, 1) := by decide +kernel
theorem dX6_sum_100 : decode cX6_sum 100 = .ok (.getfield 53, 3) := by decide +kernel
theorem dX6_sum_103 : decode cX6_sum 103 = .ok (.iload 6, 2) := by decide +kernel
theorem dX6_sum_105 : decode cX6_sum 105 = .ok (.aload 4, 2) := by decide +kernel
theorem dX6_sum_107 : decode cX6_sum 107 = .ok (.iload 6, 2) := by decide +kernel
theorem dX6_sum_109 : decode cX6_sum 109 = .ok (.iaload, 1) := by decide +kernel
theorem dX6_sum_110 : decode cX6_sum 110 = .ok (.aload 5, 2) := by decide +kernel
theorem dX6_sum_112 : decode cX6_sum 112 = .ok (.iload 6, 2) := by decide +kernel
theorem dX6_sum_114 : decode cX6_sum 114 = .ok (.iaload, 1) := by decide +kernel
theorem dX6_sum_115 : decode cX6_sum 115 = .ok (.iadd, 1) := by decide +kernel
theorem dX6_sum_116 : decode cX6_sum 116 = .ok (.iastore, 1) := by decide +kernel
theorem dX6_sum_117 : decode cX6_sum 117 = .ok (.iinc 6 1, 3) := by decide +kernel
theorem dX6_sum_120 : decode cX6_sum 120 = .ok (.goto (-33), 3) := by decide +kernel
theorem dX6_sum_123 : decode cX6_sum 123 = .ok (.aload_n 0, 1) := by decide +kernel
theorem dX6_sum_124 : decode cX6_sum 124 = .ok (.iload_n 3, 1) := by decide +kernel
theorem dX6_sum_125 : decode cX6_sum 125 = .ok (.invokevirtual 134, 3) := by decide +kernel
theorem dX6_sum_128 : decode cX6_sum 128 = .ok (.ireturn, 1) := by decide +kernel
theorem dX6_turn_0 : decode cX6_turn 0 = .ok (.aload_n 0, 1) := by decide +kernel
theorem dX6_turn_1 : decode cX6_turn 1 = .ok (.iload_n 1, 1) := by decide +kernel
theorem dX6_turn_2 : decode cX6_turn 2 = .ok (.iload_n 2, 1) := by decide +kernel
theorem dX6_turn_3 : decode cX6_turn 3 = .ok (.invokevirtual 138, 3) := by decide +kernel
theorem dX6_turn_6 : decode cX6_turn 6 = .ok (.istore_n 3, 1) := by decide +kernel
theorem dX6_turn_7 : decode cX6_turn 7 = .ok (.iload_n 3, 1) := by decide +kernel
theorem dX6_turn_8 : decode cX6_turn 8 = .ok (.ifCond .eq 5, 3) := by decide +kernel
theorem dX6_turn_11 : decode cX6_turn 11 = .ok (.iload_n 3, 1) := by decide +kernel
theorem dX6_turn_12 : decode cX6_turn 12 = .ok (.ireturn, 1) := by decide +kernel
theorem dX6_turn_13 : decode cX6_turn 13 = .ok (.aload_n 0, 1) := by decide +kernel
theorem dX6_turn_14 : decode cX6_turn 14 = .ok (.getfield 12, 3) := by decide +kernel
theorem dX6_turn_17 : decode cX6_turn 17 = .ok (.getfield 107, 3) := by decide +kernel
theorem dX6_turn_20 : decode cX6_turn 20 = .ok (.iload_n 1, 1) := by decide +kernel
theorem dX6_turn_21 : decode cX6_turn 21 = .ok (.aaload, 1) := by decide +kernel
theorem dX6_turn_22 : decode cX6_turn 22 = .ok (.getfield 111, 3) := by decide +kernel
theorem dX6_turn_25 : decode cX6_turn 25 = .ok (.astore 4, 2) := by decide +kernel
theorem dX6_turn_27 : decode cX6_turn 27 = .ok (.iconst 0, 1) := by decide +kernel
theorem dX6_turn_28 : decode cX6_turn 28 = .ok (.istore 5, 2) := by decide +kernel
theorem dX6_turn_30 : decode cX6_turn 30 = .ok (.iload 5, 2) := by decide +kernel
theorem dX6_turn_32 : decode cX6_turn 32 = .ok (.aload_n 0, 1) := by decide +kernel
theorem dX6_turn_33 : decode cX6_turn 33 = .ok (.getfield 12, 3) := by decide +kernel
theorem dX6_turn_36 : decode cX6_turn 36 = .ok (.invokevirtual 131, 3) := by decide +kernel
theorem dX6_turn_39 : decode cX6_turn 39 = .ok (.if_icmp .ge 31, 3) := by decide +kernel
theorem dX6_turn_42 : decode cX6_turn 42 = .ok (.aload_n 0, 1) := by decide +kernel
theorem dX6_turn_43 : decode cX6_turn 43 = .ok (.getfield 53, 3) := by decide +kernel
theorem dX6_turn_46 : decode cX6_turn 46 = .ok (.iload 5, 2) := by decide +kernel
theorem dX6_turn_48 : decode cX6_turn 48 = .ok (.aload 4, 2) := by decide +kernel
theorem dX6_turn_50 : decode cX6_turn 50 = .ok (.aload_n 0, 1) := by decide +kernel
theorem dX6_turn_51 : decode cX6_turn 51 = .ok (.getfield 12, 3) := by decide +kernel
theorem dX6_turn_54 : decode cX6_turn 54 = .ok (.invokevirtual 119, 3) := by decide +kernel
theorem dX6_turn_57 : decode cX6_turn 57 = .ok (.iload 5, 2) := by decide +kernel
theorem dX6_turn_59 : decode cX6_turn 59 = .ok (.iconst (-1), 1) := by decide +kernel
theorem dX6_turn_60 : decode cX6_turn 60 = .ok (.ixor, 1) := by decide +kernel
theorem dX6_turn_61 : decode cX6_turn 61 = .ok (.iand, 1) := by decide +kernel
theorem dX6_turn_62 : decode cX6_turn 62 = .ok (.iaload, 1) := by decide +kernel
theorem dX6_turn_63 : decode cX6_turn 63 = .ok (.iastore, 1) := by decide +kernel
theorem dX6_turn_64 : decode cX6_turn 64 = .ok (.iinc 5 1, 3) := by decide +kernel
theorem dX6_turn_67 : decode cX6_turn 67 = .ok (.goto (-37), 3) := by decide +kernel
theorem dX6_turn_70 : decode cX6_turn 70 = .ok (.aload_n 0, 1) := by decide +kernel
theorem dX6_turn_71 : decode cX6_turn 71 = .ok (.iload_n 2, 1) := by decide +kernel
theorem dX6_turn_72 : decode cX6_turn 72 = .ok (.invokevirtual 134, 3) := by decide +kernel
theorem dX6_turn_75 : decode cX6_turn 75 = .ok (.ireturn, 1) := by decide +kernel
theorem dX6_cutBack_0 : decode cX6_cutBack 0 = .ok (.aload_n 0, 1) := by decide +kernel
theorem dX6_cutBack_1 : decode cX6_cutBack 1 = .ok (.iload_n 1, 1) := by decide +kernel
theorem dX6_cutBack_2 : decode cX6_cutBack 2 = .ok (.iload_n 2, 1) := by decide +kernel
theorem dX6_cutBack_3 : decode cX6_cutBack 3 = .ok (.invokevirtual 138, 3) := by decide +kernel
theorem dX6_cutBack_6 : decode cX6_cutBack 6 = .ok (.istore_n 3, 1) := by decide +kernel
theorem dX6_cutBack_7 : decode cX6_cutBack 7 = .ok (.iload_n 3, 1) := by decide +kernel
theorem dX6_cutBack_8 : decode cX6_cutBack 8 = .ok (.ifCond .eq 5, 3) := by decide +kernel
theorem dX6_cutBack_11 : decode cX6_cutBack 11 = .ok (.iload_n 3, 1) := by decide +kernel
theorem dX6_cutBack_12 : decode cX6_cutBack 12 = .ok (.ireturn, 1) := by decide +kernel
theorem dX6_cutBack_13 : decode cX6_cutBack 13 = .ok (.aload_n 0, 1) := by decide +kernel
theorem dX6_cutBack_14 : decode cX6_cutBack 14 = .ok (.getfield 12, 3) := by decide +kernel
theorem dX6_cutBack_17 : decode cX6_cutBack 17 = .ok (.getfield 107, 3) := by decide +kernel
theorem dX6_cutBack_20 : decode cX6_cutBack 20 = .ok (.iload_n 1, 1) := by decide +kernel
theorem dX6_cutBack_21 : decode cX6_cutBack 21 = .ok (.aaload, 1) := by decide +kernel
theorem dX6_cutBack_22 : decode cX6_cutBack 22 = .ok (.getfield 111, 3) := by decide +kernel
theorem dX6_cutBack_25 : decode cX6_cutBack 25 = .ok (.astore 4, 2) := by decide +kernel
theorem dX6_cutBack_27 : decode cX6_cutBack 27 = .ok (.iconst 0, 1) := by decide +kernel
theorem dX6_cutBack_28 : decode cX6_cutBack 28 = .ok (.istore 5, 2) := by decide +kernel
theorem dX6_cutBack_30 : decode cX6_cutBack 30 = .ok (.iload 5, 2) := by decide +kernel
theorem dX6_cutBack_32 : decode cX6_cutBack 32 = .ok (.aload_n 0, 1) := by decide +kernel
theorem dX6_cutBack_33 : decode cX6_cutBack 33 = .ok (.getfield 12, 3) := by decide +kernel
theorem dX6_cutBack_36 : decode cX6_cutBack 36 = .ok (.invokevirtual 131, 3) := by decide +kernel
theorem dX6_cutBack_39 : decode cX6_cutBack 39 = .ok (.if_icmp .ge 25, 3) := by decide +kernel
theorem dX6_cutBack_42 : decode cX6_cutBack 42 = .ok (.aload_n 0, 1) := by decide +kernel
theorem dX6_cutBack_43 : decode cX6_cutBack 43 = .ok (.getfield 57, 3) := by decide +kernel
theorem dX6_cutBack_46 : decode cX6_cutBack 46 = .ok (.iload 5, 2) := by decide +kernel
theorem dX6_cutBack_48 : decode cX6_cutBack 48 = .ok (.aload_n 0, 1) := by decide +kernel
theorem dX6_cutBack_49 : decode cX6_cutBack 49 = .ok (.getfield 12, 3) := by decide +kernel
theorem dX6_cutBack_52 : decode cX6_cutBack 52 = .ok (.iload 5, 2) := by decide +kernel
theorem dX6_cutBack_54 : decode cX6_cutBack 54 = .ok (.invokevirtual 142, 3) := by decide +kernel
theorem dX6_cutBack_57 : decode cX6_cutBack 57 = .ok (.iastore, 1) := by decide +kernel
theorem dX6_cutBack_58 : decode cX6_cutBack 58 = .ok (.iinc 5 1, 3) := by decide +kernel
theorem dX6_cutBack_61 : decode cX6_cutBack 61 = .ok (.goto (-31), 3) := by decide +kernel
theorem dX6_cutBack_64 : decode cX6_cutBack 64 = .ok (.iconst 0, 1) := by decide +kernel
theorem dX6_cutBack_65 : decode cX6_cutBack 65 = .ok (.istore 5, 2) := by decide +kernel
theorem dX6_cutBack_67 : decode cX6_cutBack 67 = .ok (.iload 5, 2) := by decide +kernel
theorem dX6_cutBack_69 : decode cX6_cutBack 69 = .ok (.aload_n 0, 1) := by decide +kernel
theorem dX6_cutBack_70 : decode cX6_cutBack 70 = .ok (.getfield 12, 3) := by decide +kernel
theorem dX6_cutBack_73 : decode cX6_cutBack 73 = .ok (.invokevirtual 131, 3) := by decide +kernel
theorem dX6_cutBack_76 : decode cX6_cutBack 76 = .ok (.if_icmp .ge 24, 3) := by decide +kernel
theorem dX6_cutBack_79 : decode cX6_cutBack 79 = .ok (.aload_n 0, 1) := by decide +kernel
theorem dX6_cutBack_80 : decode cX6_cutBack 80 = .ok (.getfield 53, 3) := by decide +kernel
theorem dX6_cutBack_83 : decode cX6_cutBack 83 = .ok (.iload 5, 2) := by decide +kernel
theorem dX6_cutBack_85 : decode cX6_cutBack 85 = .ok (.aload_n 0, 1) := by decide +kernel
theorem dX6_cutBack_86 : decode cX6_cutBack 86 = .ok (.aload 4, 2) := by decide +kernel
theorem dX6_cutBack_88 : decode cX6_cutBack 88 = .ok (.iload 5, 2) := by decide +kernel
theorem dX6_cutBack_90 : decode cX6_cutBack 90 = .ok (.invokevirtual 145, 3) := by decide +kernel
theorem dX6_cutBack_93 : decode cX6_cutBack 93 = .ok (.iastore, 1) := by decide +kernel
theorem dX6_cutBack_94 : decode cX6_cutBack 94 = .ok (.iinc 5 1, 3) := by decide +kernel
theorem dX6_cutBack_97 : decode cX6_cutBack 97 = .ok (.goto (-30), 3) := by decide +kernel
theorem dX6_cutBack_100 : decode cX6_cutBack 100 = .ok (.aload_n 0, 1) := by decide +kernel
theorem dX6_cutBack_101 : decode cX6_cutBack 101 = .ok (.iload_n 2, 1) := by decide +kernel
theorem dX6_cutBack_102 : decode cX6_cutBack 102 = .ok (.invokevirtual 134, 3) := by decide +kernel
theorem dX6_cutBack_105 : decode cX6_cutBack 105 = .ok (.ireturn, 1) := by decide +kernel
theorem dX6_part_0 : decode cX6_part 0 = .ok (.iload_n 1, 1) := by decide +kernel
theorem dX6_part_1 : decode cX6_part 1 = .ok (.invokestatic 101, 3) := by decide +kernel
theorem dX6_part_4 : decode cX6_part 4 = .ok (.ifCond .eq 11, 3) := by decide +kernel
theorem dX6_part_7 : decode cX6_part 7 = .ok (.iload 4, 2) := by decide +kernel
theorem dX6_part_9 : decode cX6_part 9 = .ok (.invokestatic 101, 3) := by decide +kernel
theorem dX6_part_12 : decode cX6_part 12 = .ok (.ifCond .ne 5, 3) := by decide +kernel
theorem dX6_part_15 : decode cX6_part 15 = .ok (.iconst (-1), 1) := by decide +kernel
theorem dX6_part_16 : decode cX6_part 16 = .ok (.ireturn, 1) := by decide +kernel
theorem dX6_part_17 : decode cX6_part 17 = .ok (.aload_n 0, 1) := by decide +kernel
theorem dX6_part_18 : decode cX6_part 18 = .ok (.getfield 12, 3) := by decide +kernel
theorem dX6_part_21 : decode cX6_part 21 = .ok (.iload_n 2, 1) := by decide +kernel
theorem dX6_part_22 : decode cX6_part 22 = .ok (.invokevirtual 78, 3) := by decide +kernel
theorem dX6_part_25 : decode cX6_part 25 = .ok (.ifCond .eq 12, 3) := by decide +kernel
theorem dX6_part_28 : decode cX6_part 28 = .ok (.iload_n 3, 1) := by decide +kernel
theorem dX6_part_29 : decode cX6_part 29 = .ok (.ifCond .lt 8, 3) := by decide +kernel
theorem dX6_part_32 : decode cX6_part 32 = .ok (.iload_n 3, 1) := by decide +kernel
theorem dX6_part_33 : decode cX6_part 33 = .ok (.iconst 1, 1) := by decide +kernel
theorem dX6_part_34 : decode cX6_part 34 = .ok (.if_icmp .le 6, 3) := by decide +kernel
theorem dX6_part_37 : decode cX6_part 37 = .ok (.bipush (-2), 2) := by decide +kernel
theorem dX6_part_39 : decode cX6_part 39 = .ok (.ireturn, 1) := by decide +kernel
theorem dX6_part_40 : decode cX6_part 40 = .ok (.aload_n 0, 1) := by decide +kernel
theorem dX6_part_41 : decode cX6_part 41 = .ok (.getfield 12, 3) := by decide +kernel
theorem dX6_part_44 : decode cX6_part 44 = .ok (.getfield 107, 3) := by decide +kernel
theorem dX6_part_47 : decode cX6_part 47 = .ok (.iload_n 1, 1) := by decide +kernel
theorem dX6_part_48 : decode cX6_part 48 = .ok (.aaload, 1) := by decide +kernel
theorem dX6_part_49 : decode cX6_part 49 = .ok (.invokevirtual 127, 3) := by decide +kernel
theorem dX6_part_52 : decode cX6_part 52 = .ok (.ifCond .eq 6, 3) := by decide +kernel
theorem dX6_part_55 : decode cX6_part 55 = .ok (.bipush (-11), 2) := by decide +kernel
theorem dX6_part_57 : decode cX6_part 57 = .ok (.ireturn, 1) := by decide +kernel
theorem dX6_part_58 : decode cX6_part 58 = .ok (.aload_n 0, 1) := by decide +kernel
theorem dX6_part_59 : decode cX6_part 59 = .ok (.getfield 12, 3) := by decide +kernel
theorem dX6_part_62 : decode cX6_part 62 = .ok (.getfield 107, 3) := by decide +kernel
theorem dX6_part_65 : decode cX6_part 65 = .ok (.iload_n 1, 1) := by decide +kernel
theorem dX6_part_66 : decode cX6_part 66 = .ok (.aaload, 1) := by decide +kernel
theorem dX6_part_67 : decode cX6_part 67 = .ok (.getfield 111, 3) := by decide +kernel
theorem dX6_part_70 : decode cX6_part 70 = .ok (.astore 5, 2) := by decide +kernel
theorem dX6_part_72 : decode cX6_part 72 = .ok (.iconst 0, 1) := by decide +kernel
theorem dX6_part_73 : decode cX6_part 73 = .ok (.istore 6, 2) := by decide +kernel
theorem dX6_part_75 : decode cX6_part 75 = .ok (.iload 6, 2) := by decide +kernel
theorem dX6_part_77 : decode cX6_part 77 = .ok (.aload_n 0, 1) := by decide +kernel
theorem dX6_part_78 : decode cX6_part 78 = .ok (.getfield 12, 3) := by decide +kernel
theorem dX6_part_81 : decode cX6_part 81 = .ok (.invokevirtual 131, 3) := by decide +kernel
theorem dX6_part_84 : decode cX6_part 84 = .ok (.if_icmp .ge 42, 3) := by decide +kernel
theorem dX6_part_87 : decode cX6_part 87 = .ok (.aload_n 0, 1) := by decide +kernel
theorem dX6_part_88 : decode cX6_part 88 = .ok (.getfield 53, 3) := by decide +kernel
theorem dX6_part_91 : decode cX6_part 91 = .ok (.iload 6, 2) := by decide +kernel
theorem dX6_part_93 : decode cX6_part 93 = .ok (.iload_n 3, 1) := by decide +kernel
theorem dX6_part_94 : decode cX6_part 94 = .ok (.ifCond .ne 13, 3) := by decide +kernel
theorem dX6_part_97 : decode cX6_part 97 = .ok (.aload 5, 2) := by decide +kernel
theorem dX6_part_99 : decode cX6_part 99 = .ok (.iload 6, 2) := by decide +kernel
theorem dX6_part_101 : decode cX6_part 101 = .ok (.iload_n 2, 1) := by decide +kernel
theorem dX6_part_102 : decode cX6_part 102 = .ok (.iand, 1) := by decide +kernel
theorem dX6_part_103 : decode cX6_part 103 = .ok (.iaload, 1) := by decide +kernel
theorem dX6_part_104 : decode cX6_part 104 = .ok (.goto 15, 3) := by decide +kernel
theorem dX6_part_107 : decode cX6_part 107 = .ok (.aload 5, 2) := by decide +kernel
theorem dX6_part_109 : decode cX6_part 109 = .ok (.iload 6, 2) := by decide +kernel
theorem dX6_part_111 : decode cX6_part 111 = .ok (.iload_n 2, 1) := by decide +kernel
theorem dX6_part_112 : decode cX6_part 112 = .ok (.ior, 1) := by decide +kernel
theorem dX6_part_113 : decode cX6_part 113 = .ok (.iaload, 1) := by decide +kernel
theorem dX6_part_114 : decode cX6_part 114 = .ok (.aload 5, 2) := by decide +kernel
theorem dX6_part_116 : decode cX6_part 116 = .ok (.iload_n 2, 1) := by decide +kernel
theorem dX6_part_117 : decode cX6_part 117 = .ok (.iaload, 1) := by decide +kernel
theorem dX6_part_118 : decode cX6_part 118 = .ok (.isub, 1) := by decide +kernel
theorem dX6_part_119 : decode cX6_part 119 = .ok (.iastore, 1) := by decide +kernel
theorem dX6_part_120 : decode cX6_part 120 = .ok (.iinc 6 1, 3) := by decide +kernel
theorem dX6_part_123 : decode cX6_part 123 = .ok (.goto (-48), 3) := by decide +kernel
theorem dX6_part_126 : decode cX6_part 126 = .ok (.aload_n 0, 1) := by decide +kernel
theorem dX6_part_127 : decode cX6_part 127 = .ok (.iload 4, 2) := by decide +kernel
theorem dX6_part_129 : decode cX6_part 129 = .ok (.invokevirtual 134, 3) := by decide +kernel
theorem dX6_part_132 : decode cX6_part 132 = .ok (.ireturn, 1) := by decide +kernel
theorem dX6_held_0 : decode cX6_held 0 = .ok (.iload_n 1, 1) := by decide +kernel
theorem dX6_held_1 : decode cX6_held 1 = .ok (.invokestatic 101, 3) := by decide +kernel
theorem dX6_held_4 : decode cX6_held 4 = .ok (.ifCond .eq 10, 3) := by decide +kernel
theorem dX6_held_7 : decode cX6_held 7 = .ok (.iload_n 3, 1) := by decide +kernel
theorem dX6_held_8 : decode cX6_held 8 = .ok (.invokestatic 101, 3) := by decide +kernel
theorem dX6_held_11 : decode cX6_held 11 = .ok (.ifCond .ne 5, 3) := by decide +kernel
theorem dX6_held_14 : decode cX6_held 14 = .ok (.iconst (-1), 1) := by decide +kernel
theorem dX6_held_15 : decode cX6_held 15 = .ok (.ireturn, 1) := by decide +kernel
theorem dX6_held_16 : decode cX6_held 16 = .ok (.iload_n 2, 1) := by decide +kernel
theorem dX6_held_17 : decode cX6_held 17 = .ok (.invokestatic 104, 3) := by decide +kernel
theorem dX6_held_20 : decode cX6_held 20 = .ok (.ifCond .ne 6, 3) := by decide +kernel
theorem dX6_held_23 : decode cX6_held 23 = .ok (.bipush (-2), 2) := by decide +kernel
theorem dX6_held_25 : decode cX6_held 25 = .ok (.ireturn, 1) := by decide +kernel
theorem dX6_held_26 : decode cX6_held 26 = .ok (.aload_n 0, 1) := by decide +kernel
theorem dX6_held_27 : decode cX6_held 27 = .ok (.getfield 12, 3) := by decide +kernel
theorem dX6_held_30 : decode cX6_held 30 = .ok (.getfield 107, 3) := by decide +kernel
theorem dX6_held_33 : decode cX6_held 33 = .ok (.iload_n 1, 1) := by decide +kernel
theorem dX6_held_34 : decode cX6_held 34 = .ok (.aaload, 1) := by decide +kernel
theorem dX6_held_35 : decode cX6_held 35 = .ok (.invokevirtual 127, 3) := by decide +kernel
theorem dX6_held_38 : decode cX6_held 38 = .ok (.ifCond .eq 6, 3) := by decide +kernel
theorem dX6_held_41 : decode cX6_held 41 = .ok (.bipush (-11), 2) := by decide +kernel
theorem dX6_held_43 : decode cX6_held 43 = .ok (.ireturn, 1) := by decide +kernel
theorem dX6_held_44 : decode cX6_held 44 = .ok (.aload_n 0, 1) := by decide +kernel
theorem dX6_held_45 : decode cX6_held 45 = .ok (.getfield 12, 3) := by decide +kernel
theorem dX6_held_48 : decode cX6_held 48 = .ok (.getfield 107, 3) := by decide +kernel
theorem dX6_held_51 : decode cX6_held 51 = .ok (.iload_n 1, 1) := by decide +kernel
theorem dX6_held_52 : decode cX6_held 52 = .ok (.aaload, 1) := by decide +kernel
theorem dX6_held_53 : decode cX6_held 53 = .ok (.getfield 111, 3) := by decide +kernel
theorem dX6_held_56 : decode cX6_held 56 = .ok (.astore 4, 2) := by decide +kernel
theorem dX6_held_58 : decode cX6_held 58 = .ok (.iconst 0, 1) := by decide +kernel
theorem dX6_held_59 : decode cX6_held 59 = .ok (.istore 5, 2) := by decide +kernel
theorem dX6_held_61 : decode cX6_held 61 = .ok (.iload 5, 2) := by decide +kernel
theorem dX6_held_63 : decode cX6_held 63 = .ok (.aload_n 0, 1) := by decide +kernel
theorem dX6_held_64 : decode cX6_held 64 = .ok (.getfield 12, 3) := by decide +kernel
theorem dX6_held_67 : decode cX6_held 67 = .ok (.invokevirtual 131, 3) := by decide +kernel
theorem dX6_held_70 : decode cX6_held 70 = .ok (.if_icmp .ge 25, 3) := by decide +kernel
theorem dX6_held_73 : decode cX6_held 73 = .ok (.aload_n 0, 1) := by decide +kernel
theorem dX6_held_74 : decode cX6_held 74 = .ok (.getfield 53, 3) := by decide +kernel
theorem dX6_held_77 : decode cX6_held 77 = .ok (.iload 5, 2) := by decide +kernel
theorem dX6_held_79 : decode cX6_held 79 = .ok (.aload 4, 2) := by decide +kernel
theorem dX6_held_81 : decode cX6_held 81 = .ok (.iload 5, 2) := by decide +kernel
theorem dX6_held_83 : decode cX6_held 83 = .ok (.iaload, 1) := by decide +kernel
theorem dX6_held_84 : decode cX6_held 84 = .ok (.iload_n 2, 1) := by decide +kernel
theorem dX6_held_85 : decode cX6_held 85 = .ok (.invokestatic 149, 3) := by decide +kernel
theorem dX6_held_88 : decode cX6_held 88 = .ok (.iastore, 1) := by decide +kernel
theorem dX6_held_89 : decode cX6_held 89 = .ok (.iinc 5 1, 3) := by decide +kernel
theorem dX6_held_92 : decode cX6_held 92 = .ok (.goto (-31), 3) := by decide +kernel
theorem dX6_held_95 : decode cX6_held 95 = .ok (.aload_n 0, 1) := by decide +kernel
theorem dX6_held_96 : decode cX6_held 96 = .ok (.iload_n 3, 1) := by decide +kernel
theorem dX6_held_97 : decode cX6_held 97 = .ok (.invokevirtual 134, 3) := by decide +kernel
theorem dX6_held_100 : decode cX6_held 100 = .ok (.ireturn, 1) := by decide +kernel
theorem dX6_clear_0 : decode cX6_clear 0 = .ok (.aload_n 0, 1) := by decide +kernel
theorem dX6_clear_1 : decode cX6_clear 1 = .ok (.iload_n 1, 1) := by decide +kernel
theorem dX6_clear_2 : decode cX6_clear 2 = .ok (.invokevirtual 154, 3) := by decide +kernel
theorem dX6_clear_5 : decode cX6_clear 5 = .ok (.istore_n 2, 1) := by decide +kernel
theorem dX6_clear_6 : decode cX6_clear 6 = .ok (.iload_n 2, 1) := by decide +kernel
theorem dX6_clear_7 : decode cX6_clear 7 = .ok (.ifCond .eq 5, 3) := by decide +kernel
theorem dX6_clear_10 : decode cX6_clear 10 = .ok (.iload_n 2, 1) := by decide +kernel
theorem dX6_clear_11 : decode cX6_clear 11 = .ok (.ireturn, 1) := by decide +kernel
theorem dX6_clear_12 : decode cX6_clear 12 = .ok (.aload_n 0, 1) := by decide +kernel
theorem dX6_clear_13 : decode cX6_clear 13 = .ok (.getfield 12, 3) := by decide +kernel
theorem dX6_clear_16 : decode cX6_clear 16 = .ok (.getfield 107, 3) := by decide +kernel
theorem dX6_clear_19 : decode cX6_clear 19 = .ok (.iload_n 1, 1) := by decide +kernel
theorem dX6_clear_20 : decode cX6_clear 20 = .ok (.aaload, 1) := by decide +kernel
theorem dX6_clear_21 : decode cX6_clear 21 = .ok (.getfield 116, 3) := by decide +kernel
theorem dX6_clear_24 : decode cX6_clear 24 = .ok (.istore_n 3, 1) := by decide +kernel
theorem dX6_clear_25 : decode cX6_clear 25 = .ok (.aload_n 0, 1) := by decide +kernel
theorem dX6_clear_26 : decode cX6_clear 26 = .ok (.getfield 12, 3) := by decide +kernel
theorem dX6_clear_29 : decode cX6_clear 29 = .ok (.getfield 107, 3) := by decide +kernel
theorem dX6_clear_32 : decode cX6_clear 32 = .ok (.iload_n 1, 1) := by decide +kernel
theorem dX6_clear_33 : decode cX6_clear 33 = .ok (.aaload, 1) := by decide +kernel
theorem dX6_clear_34 : decode cX6_clear 34 = .ok (.invokevirtual 157, 3) := by decide +kernel
theorem dX6_clear_37 : decode cX6_clear 37 = .ok (.iload_n 3, 1) := by decide +kernel
theorem dX6_clear_38 : decode cX6_clear 38 = .ok (.ireturn, 1) := by decide +kernel
theorem dX6_of_0 : decode cX6_of 0 = .ok (.iload_n 1, 1) := by decide +kernel
theorem dX6_of_1 : decode cX6_of 1 = .ok (.invokestatic 101, 3) := by decide +kernel
theorem dX6_of_4 : decode cX6_of 4 = .ok (.ifCond .eq 12, 3) := by decide +kernel
theorem dX6_of_7 : decode cX6_of 7 = .ok (.iload_n 2, 1) := by decide +kernel
theorem dX6_of_8 : decode cX6_of 8 = .ok (.ifCond .lt 8, 3) := by decide +kernel
theorem dX6_of_11 : decode cX6_of 11 = .ok (.iload_n 2, 1) := by decide +kernel
theorem dX6_of_12 : decode cX6_of 12 = .ok (.iconst 4, 1) := by decide +kernel
theorem dX6_of_13 : decode cX6_of 13 = .ok (.if_icmp .le 5, 3) := by decide +kernel
theorem dX6_of_16 : decode cX6_of 16 = .ok (.iconst (-1), 1) := by decide +kernel
theorem dX6_of_17 : decode cX6_of 17 = .ok (.ireturn, 1) := by decide +kernel
theorem dX6_of_18 : decode cX6_of 18 = .ok (.aload_n 0, 1) := by decide +kernel
theorem dX6_of_19 : decode cX6_of 19 = .ok (.getfield 12, 3) := by decide +kernel
theorem dX6_of_22 : decode cX6_of 22 = .ok (.getfield 107, 3) := by decide +kernel
theorem dX6_of_25 : decode cX6_of 25 = .ok (.iload_n 1, 1) := by decide +kernel
theorem dX6_of_26 : decode cX6_of 26 = .ok (.aaload, 1) := by decide +kernel
theorem dX6_of_27 : decode cX6_of 27 = .ok (.astore_n 3, 1) := by decide +kernel
theorem dX6_of_28 : decode cX6_of 28 = .ok (.aload_n 3, 1) := by decide +kernel
theorem dX6_of_29 : decode cX6_of 29 = .ok (.invokevirtual 127, 3) := by decide +kernel
theorem dX6_of_32 : decode cX6_of 32 = .ok (.ifCond .eq 6, 3) := by decide +kernel
theorem dX6_of_35 : decode cX6_of 35 = .ok (.bipush (-11), 2) := by decide +kernel
theorem dX6_of_37 : decode cX6_of 37 = .ok (.ireturn, 1) := by decide +kernel
theorem dX6_of_38 : decode cX6_of 38 = .ok (.iload_n 2, 1) := by decide +kernel
theorem dX6_of_39 : decode cX6_of 39 = .ok (.tableswitch 89 0 3 #[29, 34, 59, 74], 29) := by decide +kernel
theorem dX6_of_68 : decode cX6_of 68 = .ok (.aload_n 3, 1) := by decide +kernel
theorem dX6_of_69 : decode cX6_of 69 = .ok (.getfield 116, 3) := by decide +kernel
theorem dX6_of_72 : decode cX6_of 72 = .ok (.ireturn, 1) := by decide +kernel
theorem dX6_of_73 : decode cX6_of 73 = .ok (.aload_n 3, 1) := by decide +kernel
theorem dX6_of_74 : decode cX6_of 74 = .ok (.aload_n 0, 1) := by decide +kernel
theorem dX6_of_75 : decode cX6_of 75 = .ok (.getfield 12, 3) := by decide +kernel
theorem dX6_of_78 : decode cX6_of 78 = .ok (.getfield 63, 3) := by decide +kernel
theorem dX6_of_81 : decode cX6_of 81 = .ok (.invokevirtual 160, 3) := by decide +kernel
theorem dX6_of_84 : decode cX6_of 84 = .ok (.bipush (-5), 2) := by decide +kernel
theorem dX6_of_86 : decode cX6_of 86 = .ok (.if_icmp .ne 7, 3) := by decide +kernel
theorem dX6_of_89 : decode cX6_of 89 = .ok (.iconst 1, 1) := by decide +kernel
theorem dX6_of_90 : decode cX6_of 90 = .ok (.goto 4, 3) := by decide +kernel
theorem dX6_of_93 : decode cX6_of 93 = .ok (.iconst 0, 1) := by decide +kernel
theorem dX6_of_94 : decode cX6_of 94 = .ok (.invokestatic 163, 3) := by decide +kernel
theorem dX6_of_97 : decode cX6_of 97 = .ok (.ireturn, 1) := by decide +kernel
theorem dX6_of_98 : decode cX6_of 98 = .ok (.aload_n 3, 1) := by decide +kernel
theorem dX6_of_99 : decode cX6_of 99 = .ok (.aload_n 0, 1) := by decide +kernel
theorem dX6_of_100 : decode cX6_of 100 = .ok (.getfield 12, 3) := by decide +kernel
theorem dX6_of_103 : decode cX6_of 103 = .ok (.getfield 63, 3) := by decide +kernel
theorem dX6_of_106 : decode cX6_of 106 = .ok (.invokevirtual 167, 3) := by decide +kernel
theorem dX6_of_109 : decode cX6_of 109 = .ok (.invokestatic 163, 3) := by decide +kernel
theorem dX6_of_112 : decode cX6_of 112 = .ok (.ireturn, 1) := by decide +kernel
theorem dX6_of_113 : decode cX6_of 113 = .ok (.aload_n 3, 1) := by decide +kernel
theorem dX6_of_114 : decode cX6_of 114 = .ok (.aload_n 0, 1) := by decide +kernel
theorem dX6_of_115 : decode cX6_of 115 = .ok (.getfield 12, 3) := by decide +kernel
theorem dX6_of_118 : decode cX6_of 118 = .ok (.getfield 63, 3) := by decide +kernel
theorem dX6_of_121 : decode cX6_of 121 = .ok (.invokevirtual 170, 3) := by decide +kernel
theorem dX6_of_124 : decode cX6_of 124 = .ok (.invokestatic 163, 3) := by decide +kernel
theorem dX6_of_127 : decode cX6_of 127 = .ok (.ireturn, 1) := by decide +kernel
theorem dX6_of_128 : decode cX6_of 128 = .ok (.aload_n 3, 1) := by decide +kernel
theorem dX6_of_129 : decode cX6_of 129 = .ok (.aload_n 0, 1) := by decide +kernel
theorem dX6_of_130 : decode cX6_of 130 = .ok (.getfield 12, 3) := by decide +kernel
theorem dX6_of_133 : decode cX6_of 133 = .ok (.getfield 63, 3) := by decide +kernel
theorem dX6_of_136 : decode cX6_of 136 = .ok (.invokevirtual 173, 3) := by decide +kernel
theorem dX6_of_139 : decode cX6_of 139 = .ok (.invokestatic 163, 3) := by decide +kernel
theorem dX6_of_142 : decode cX6_of 142 = .ok (.ireturn, 1) := by decide +kernel
theorem dX6_taken_0 : decode cX6_taken 0 = .ok (.iload_n 1, 1) := by decide +kernel
theorem dX6_taken_1 : decode cX6_taken 1 = .ok (.invokestatic 101, 3) := by decide +kernel
theorem dX6_taken_4 : decode cX6_taken 4 = .ok (.ifCond .eq 13, 3) := by decide +kernel
theorem dX6_taken_7 : decode cX6_taken 7 = .ok (.iload_n 2, 1) := by decide +kernel
theorem dX6_taken_8 : decode cX6_taken 8 = .ok (.ifCond .lt 9, 3) := by decide +kernel
theorem dX6_taken_11 : decode cX6_taken 11 = .ok (.iload_n 2, 1) := by decide +kernel
theorem dX6_taken_12 : decode cX6_taken 12 = .ok (.bipush 6, 2) := by decide +kernel
theorem dX6_taken_14 : decode cX6_taken 14 = .ok (.if_icmp .lt 5, 3) := by decide +kernel
theorem dX6_taken_17 : decode cX6_taken 17 = .ok (.iconst (-1), 1) := by decide +kernel
theorem dX6_taken_18 : decode cX6_taken 18 = .ok (.ireturn, 1) := by decide +kernel
theorem dX6_taken_19 : decode cX6_taken 19 = .ok (.aload_n 0, 1) := by decide +kernel
theorem dX6_taken_20 : decode cX6_taken 20 = .ok (.getfield 12, 3) := by decide +kernel
theorem dX6_taken_23 : decode cX6_taken 23 = .ok (.getfield 107, 3) := by decide +kernel
theorem dX6_taken_26 : decode cX6_taken 26 = .ok (.iload_n 1, 1) := by decide +kernel
theorem dX6_taken_27 : decode cX6_taken 27 = .ok (.aaload, 1) := by decide +kernel
theorem dX6_taken_28 : decode cX6_taken 28 = .ok (.astore_n 3, 1) := by decide +kernel
theorem dX6_taken_29 : decode cX6_taken 29 = .ok (.aload_n 3, 1) := by decide +kernel
theorem dX6_taken_30 : decode cX6_taken 30 = .ok (.invokevirtual 127, 3) := by decide +kernel
theorem dX6_taken_33 : decode cX6_taken 33 = .ok (.ifCond .eq 6, 3) := by decide +kernel
theorem dX6_taken_36 : decode cX6_taken 36 = .ok (.bipush (-11), 2) := by decide +kernel
theorem dX6_taken_38 : decode cX6_taken 38 = .ok (.ireturn, 1) := by decide +kernel
theorem dX6_taken_39 : decode cX6_taken 39 = .ok (.aload_n 3, 1) := by decide +kernel
theorem dX6_taken_40 : decode cX6_taken 40 = .ok (.getfield 116, 3) := by decide +kernel
theorem dX6_taken_43 : decode cX6_taken 43 = .ok (.iload_n 2, 1) := by decide +kernel
theorem dX6_taken_44 : decode cX6_taken 44 = .ok (.invokestatic 176, 3) := by decide +kernel
theorem dX6_taken_47 : decode cX6_taken 47 = .ok (.ifCond .eq 10, 3) := by decide +kernel
theorem dX6_taken_50 : decode cX6_taken 50 = .ok (.aload_n 3, 1) := by decide +kernel
theorem dX6_taken_51 : decode cX6_taken 51 = .ok (.getfield 116, 3) := by decide +kernel
theorem dX6_taken_54 : decode cX6_taken 54 = .ok (.goto 5, 3) := by decide +kernel
theorem dX6_taken_57 : decode cX6_taken 57 = .ok (.bipush (-15), 2) := by decide +kernel
theorem dX6_taken_59 : decode cX6_taken 59 = .ok (.ireturn, 1) := by decide +kernel
theorem dX6_value_0 : decode cX6_value 0 = .ok (.iload_n 1, 1) := by decide +kernel
theorem dX6_value_1 : decode cX6_value 1 = .ok (.invokestatic 101, 3) := by decide +kernel
theorem dX6_value_4 : decode cX6_value 4 = .ok (.ifCond .ne 6, 3) := by decide +kernel
theorem dX6_value_7 : decode cX6_value 7 = .ok (.ldc 96, 2) := by decide +kernel
theorem dX6_value_9 : decode cX6_value 9 = .ok (.ireturn, 1) := by decide +kernel
theorem dX6_value_10 : decode cX6_value 10 = .ok (.aload_n 0, 1) := by decide +kernel
theorem dX6_value_11 : decode cX6_value 11 = .ok (.getfield 12, 3) := by decide +kernel
theorem dX6_value_14 : decode cX6_value 14 = .ok (.iload_n 2, 1) := by decide +kernel
theorem dX6_value_15 : decode cX6_value 15 = .ok (.invokevirtual 78, 3) := by decide +kernel
theorem dX6_value_18 : decode cX6_value 18 = .ok (.ifCond .ne 6, 3) := by decide +kernel
theorem dX6_value_21 : decode cX6_value 21 = .ok (.ldc 97, 2) := by decide +kernel
theorem dX6_value_23 : decode cX6_value 23 = .ok (.ireturn, 1) := by decide +kernel
theorem dX6_value_24 : decode cX6_value 24 = .ok (.aload_n 0, 1) := by decide +kernel
theorem dX6_value_25 : decode cX6_value 25 = .ok (.getfield 12, 3) := by decide +kernel
theorem dX6_value_28 : decode cX6_value 28 = .ok (.getfield 107, 3) := by decide +kernel
theorem dX6_value_31 : decode cX6_value 31 = .ok (.iload_n 1, 1) := by decide +kernel
theorem dX6_value_32 : decode cX6_value 32 = .ok (.aaload, 1) := by decide +kernel
theorem dX6_value_33 : decode cX6_value 33 = .ok (.invokevirtual 127, 3) := by decide +kernel
theorem dX6_value_36 : decode cX6_value 36 = .ok (.ifCond .eq 6, 3) := by decide +kernel
theorem dX6_value_39 : decode cX6_value 39 = .ok (.ldc 180, 2) := by decide +kernel
theorem dX6_value_41 : decode cX6_value 41 = .ok (.ireturn, 1) := by decide +kernel
theorem dX6_value_42 : decode cX6_value 42 = .ok (.aload_n 0, 1) := by decide +kernel
theorem dX6_value_43 : decode cX6_value 43 = .ok (.getfield 12, 3) := by decide +kernel
theorem dX6_value_46 : decode cX6_value 46 = .ok (.getfield 107, 3) := by decide +kernel
theorem dX6_value_49 : decode cX6_value 49 = .ok (.iload_n 1, 1) := by decide +kernel
theorem dX6_value_50 : decode cX6_value 50 = .ok (.aaload, 1) := by decide +kernel
theorem dX6_value_51 : decode cX6_value 51 = .ok (.getfield 111, 3) := by decide +kernel
theorem dX6_value_54 : decode cX6_value 54 = .ok (.iload_n 2, 1) := by decide +kernel
theorem dX6_value_55 : decode cX6_value 55 = .ok (.iaload, 1) := by decide +kernel
theorem dX6_value_56 : decode cX6_value 56 = .ok (.ireturn, 1) := by decide +kernel
theorem dX6_gain_0 : decode cX6_gain 0 = .ok (.aload_n 0, 1) := by decide +kernel
theorem dX6_gain_1 : decode cX6_gain 1 = .ok (.iload_n 1, 1) := by decide +kernel
theorem dX6_gain_2 : decode cX6_gain 2 = .ok (.invokevirtual 154, 3) := by decide +kernel
theorem dX6_gain_5 : decode cX6_gain 5 = .ok (.ifCond .ne 33, 3) := by decide +kernel
theorem dX6_gain_8 : decode cX6_gain 8 = .ok (.aload_n 0, 1) := by decide +kernel
theorem dX6_gain_9 : decode cX6_gain 9 = .ok (.getfield 12, 3) := by decide +kernel
theorem dX6_gain_12 : decode cX6_gain 12 = .ok (.iload_n 2, 1) := by decide +kernel
theorem dX6_gain_13 : decode cX6_gain 13 = .ok (.invokevirtual 78, 3) := by decide +kernel
theorem dX6_gain_16 : decode cX6_gain 16 = .ok (.ifCond .eq 22, 3) := by decide +kernel
theorem dX6_gain_19 : decode cX6_gain 19 = .ok (.aload_n 0, 1) := by decide +kernel
theorem dX6_gain_20 : decode cX6_gain 20 = .ok (.getfield 12, 3) := by decide +kernel
theorem dX6_gain_23 : decode cX6_gain 23 = .ok (.iload_n 3, 1) := by decide +kernel
theorem dX6_gain_24 : decode cX6_gain 24 = .ok (.invokevirtual 71, 3) := by decide +kernel
theorem dX6_gain_27 : decode cX6_gain 27 = .ok (.ifCond .eq 11, 3) := by decide +kernel
theorem dX6_gain_30 : decode cX6_gain 30 = .ok (.iload_n 2, 1) := by decide +kernel
theorem dX6_gain_31 : decode cX6_gain 31 = .ok (.iload_n 3, 1) := by decide +kernel
theorem dX6_gain_32 : decode cX6_gain 32 = .ok (.invokestatic 181, 3) := by decide +kernel
theorem dX6_gain_35 : decode cX6_gain 35 = .ok (.ifCond .eq 7, 3) := by decide +kernel
theorem dX6_gain_38 : decode cX6_gain 38 = .ok (.ldc2_w 184, 3) := by decide +kernel
theorem dX6_gain_41 : decode cX6_gain 41 = .ok (.lreturn, 1) := by decide +kernel
theorem dX6_gain_42 : decode cX6_gain 42 = .ok (.aload_n 0, 1) := by decide +kernel
theorem dX6_gain_43 : decode cX6_gain 43 = .ok (.getfield 12, 3) := by decide +kernel
theorem dX6_gain_46 : decode cX6_gain 46 = .ok (.getfield 107, 3) := by decide +kernel
